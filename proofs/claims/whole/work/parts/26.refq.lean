theorem ct_X5_does (l : Launch) (T : TT) (r : Nat → Nat) (sT lE aT fR wR : Int) (gs w nb : AR) (X : WnS) (v : Int) (hr : Rep w X) (hX : WW X) (hnb : NB3 nb) (hv : -2147483648 ≤ v ∧ v < 2147483648) : CT2 l yX5_does wsX5_does rm_X5_does T [.ref (r 0), iv v] ([(r 0, ob 5 [.ref (r 1), .ref (r 2), .ref (r 3), .ref (r 4), iv sT, .ref (r 5), iv lE, .ref (r 6), iv aT, iv fR, iv wR, .ref (r 7)]), (r 6, ia T.2.1 3 gs), (r 1, ia T.2.1 305 w), (r 7, ia T.2.1 3 nb)]) (some (iv ((dwF X nb v).1))) (fun w_ g_ => Rep w_ (dwF X nb v).2) (fun w_ g_ => [(r 0, ob 5 [.ref (r 1), .ref (r 2), .ref (r 3), .ref (r 4), iv sT, .ref (r 5), iv lE, .ref (r 6), iv aT, iv fR, iv wR, .ref (r 7)]), (r 6, ia T.2.1 3 g_), (r 1, ia T.2.1 305 w_), (r 7, ia T.2.1 3 nb)]) := by
  refine CT2.Z (maxL := 2) (lv0 := [(0, .ref (r 0)), (1, iv v)]) hp_X5_does rfl (Nat.le_of_ble_eq_true rfl) rfl rfl (fun M hM hF => ?_)
  have hn := hX.1.1.1
  have hwd := hX.1.1.2.1
  have hHH := hX.1.2.1
  have hSb := hX.1.2.2.2.2
  have hSs := hX.2
  have hAn := hX.an
  have hA0 := hX.1.2.2.1
  have hn0 := hnb 0 (by decide)
  have hn1 := hnb 1 (by decide)
  have hn2 := hnb 2 (by decide)
  refine xr_iload_n hM 1 dX5_does_0 rfl rfl ?_
  by_cases c1_688 : v = 688
  · refine xr_lookupK hM 97 dX5_does_1 (by decide) c1_688 (by decide) rfl (by decide) ?_
    refine xr_aload_n hM 0 dX5_does_97 rfl rfl ?_
    refine xr_aload_n hM 0 dX5_does_98 rfl rfl ?_
    refine xr_get (C := RX5) (TT0 := TX5) (N := 12) hM 5 0 11 (fun _ h => List.mem_cons_of_mem _ (List.mem_append_right _ h)) rfl rfl (by decide) (List.mem_of_getElem? (i := 1) rfl) rfl rfl dX5_does_99 ?_
    refine xr_iconst hM dX5_does_102 ?_
    refine xr_iald hM 3 0 rfl rfl (by omega) dX5_does_103 ?_
    refine xr_ineg hM dX5_does_104 ?_
    refine xr_callV2 (ws' := fun w105 g105 => [(r 0, ob 5 [.ref (r 1), .ref (r 2), .ref (r 3), .ref (r 4), iv sT, .ref (r 5), iv lE, .ref (r 6), iv aT, iv fR, iv wR, .ref (r 7)]), (r 6, ia T.2.1 3 g105), (r 1, ia T.2.1 305 w105), (r 7, ia T.2.1 3 nb)]) (rest := []) (As := [iv (-(nb 0))]) (st' := [iv ((mbR X (-(nb 0))).1)]) hM (ct_X5_scrolled M.2.1 T r sT lE aT fR wR gs w X (-(nb 0)) hr hX (by omega)) gX5_does_X5_scrolled rfl ⟨rfl, rfl⟩ hy_X5_scrolled rfl ⟨by decide, by decide⟩ [0, 1, 2] rfl rfl (fun _ _ => rfl) 0 5 rfl rfl rfl rfl rfl (Nat.le_of_ble_eq_true rfl) ⟨by decide, by decide⟩ (fun _ _ => rfl) dX5_does_105 (fun w105 g105 hP105 => ?_)
    have hf105 := mbR_v hX (-(nb 0))
    have hw105 := WW_mb hX (-(nb 0))
    have ed : dwF X nb v = mbR X (-(nb 0)) := by rw [c1_688]; rfl
    rw [ed] at hF
    exact xr_iret (hF w105 g105 hP105) dX5_does_108 rfl rfl
  by_cases c1_3764 : v = 3764
  · refine xr_lookupK hM 75 dX5_does_1 (by decide) c1_3764 (by decide) rfl (by decide) ?_
    refine xr_aload_n hM 0 dX5_does_75 rfl rfl ?_
    refine xr_aload_n hM 0 dX5_does_76 rfl rfl ?_
    refine xr_get (C := RX5) (TT0 := TX5) (N := 12) hM 5 0 11 (fun _ h => List.mem_cons_of_mem _ (List.mem_append_right _ h)) rfl rfl (by decide) (List.mem_of_getElem? (i := 1) rfl) rfl rfl dX5_does_77 ?_
    refine xr_iconst hM dX5_does_80 ?_
    refine xr_iald hM 3 0 rfl rfl (by omega) dX5_does_81 ?_
    refine xr_callV2 (ws' := fun w82 g82 => [(r 0, ob 5 [.ref (r 1), .ref (r 2), .ref (r 3), .ref (r 4), iv sT, .ref (r 5), iv lE, .ref (r 6), iv aT, iv fR, iv wR, .ref (r 7)]), (r 6, ia T.2.1 3 g82), (r 1, ia T.2.1 305 w82), (r 7, ia T.2.1 3 nb)]) (rest := []) (As := [iv (nb 0)]) (st' := [iv ((cuR X (nb 0)).1)]) hM (ct_X5_cuts M.2.1 T r sT lE aT fR wR gs w X (nb 0) hr hX (by omega)) gX5_does_X5_cuts rfl ⟨rfl, rfl⟩ hy_X5_cuts rfl ⟨by decide, by decide⟩ [0, 1, 2] rfl rfl (fun _ _ => rfl) 0 5 rfl rfl rfl rfl rfl (Nat.le_of_ble_eq_true rfl) ⟨by decide, by decide⟩ (fun _ _ => rfl) dX5_does_82 (fun w82 g82 hP82 => ?_)
    have hf82 := cuR_v hX (nb 0)
    have hw82 := WW_cu hX (nb 0)
    have ed : dwF X nb v = cuR X (nb 0) := by rw [c1_3764]; rfl
    rw [ed] at hF
    exact xr_iret (hF w82 g82 hP82) dX5_does_85 rfl rfl
  by_cases c1_17076 : v = 17076
  · refine xr_lookupK hM 52 dX5_does_1 (by decide) c1_17076 (by decide) rfl (by decide) ?_
    refine xr_aload_n hM 0 dX5_does_52 rfl rfl ?_
    refine xr_aload_n hM 0 dX5_does_53 rfl rfl ?_
    refine xr_get (C := RX5) (TT0 := TX5) (N := 12) hM 5 0 11 (fun _ h => List.mem_cons_of_mem _ (List.mem_append_right _ h)) rfl rfl (by decide) (List.mem_of_getElem? (i := 1) rfl) rfl rfl dX5_does_54 ?_
    refine xr_iconst hM dX5_does_57 ?_
    refine xr_iald hM 3 0 rfl rfl (by omega) dX5_does_58 ?_
    refine xr_aload_n hM 0 dX5_does_59 rfl rfl ?_
    refine xr_get (C := RX5) (TT0 := TX5) (N := 12) hM 5 0 11 (fun _ h => List.mem_cons_of_mem _ (List.mem_append_right _ h)) rfl rfl (by decide) (List.mem_of_getElem? (i := 1) rfl) rfl rfl dX5_does_60 ?_
    refine xr_iconst hM dX5_does_63 ?_
    refine xr_iald hM 3 1 rfl rfl (by omega) dX5_does_64 ?_
    refine xr_aload_n hM 0 dX5_does_65 rfl rfl ?_
    refine xr_get (C := RX5) (TT0 := TX5) (N := 12) hM 5 0 11 (fun _ h => List.mem_cons_of_mem _ (List.mem_append_right _ h)) rfl rfl (by decide) (List.mem_of_getElem? (i := 1) rfl) rfl rfl dX5_does_66 ?_
    refine xr_iconst hM dX5_does_69 ?_
    refine xr_iald hM 3 2 rfl rfl (by omega) dX5_does_70 ?_
    refine xr_callV2 (ws' := fun w71 g71 => [(r 0, ob 5 [.ref (r 1), .ref (r 2), .ref (r 3), .ref (r 4), iv sT, .ref (r 5), iv lE, .ref (r 6), iv aT, iv fR, iv wR, .ref (r 7)]), (r 6, ia T.2.1 3 g71), (r 1, ia T.2.1 305 w71), (r 7, ia T.2.1 3 nb)]) (rest := []) (As := [iv (nb 0), iv (nb 1), iv (nb 2)]) (st' := [iv ((puR X (nb 0) (nb 1) (nb 2)).1)]) hM (ct_X5_puts M.2.1 T r sT lE aT fR wR gs w X (nb 0) (nb 1) (nb 2) hr hX (by omega) (by omega) (by omega)) gX5_does_X5_puts rfl ⟨rfl, rfl⟩ hy_X5_puts rfl ⟨by decide, by decide⟩ [0, 1, 2] rfl rfl (fun _ _ => rfl) 0 5 rfl rfl rfl rfl rfl (Nat.le_of_ble_eq_true rfl) ⟨by decide, by decide⟩ (fun _ _ => rfl) dX5_does_71 (fun w71 g71 hP71 => ?_)
    have hf71 := puR_v hX (nb 0) (nb 1) (nb 2)
    have hw71 := WW_pu hX (nb 0) (nb 1) (nb 2)
    have ed : dwF X nb v = puR X (nb 0) (nb 1) (nb 2) := by rw [c1_17076]; rfl
    rw [ed] at hF
    exact xr_iret (hF w71 g71 hP71) dX5_does_74 rfl rfl
  by_cases c1_147182 : v = 147182
  · refine xr_lookupK hM 86 dX5_does_1 (by decide) c1_147182 (by decide) rfl (by decide) ?_
    refine xr_aload_n hM 0 dX5_does_86 rfl rfl ?_
    refine xr_aload_n hM 0 dX5_does_87 rfl rfl ?_
    refine xr_get (C := RX5) (TT0 := TX5) (N := 12) hM 5 0 11 (fun _ h => List.mem_cons_of_mem _ (List.mem_append_right _ h)) rfl rfl (by decide) (List.mem_of_getElem? (i := 1) rfl) rfl rfl dX5_does_88 ?_
    refine xr_iconst hM dX5_does_91 ?_
    refine xr_iald hM 3 0 rfl rfl (by omega) dX5_does_92 ?_
    refine xr_callV2 (ws' := fun w93 g93 => [(r 0, ob 5 [.ref (r 1), .ref (r 2), .ref (r 3), .ref (r 4), iv sT, .ref (r 5), iv lE, .ref (r 6), iv aT, iv fR, iv wR, .ref (r 7)]), (r 6, ia T.2.1 3 g93), (r 1, ia T.2.1 305 w93), (r 7, ia T.2.1 3 nb)]) (rest := []) (As := [iv (nb 0)]) (st' := [iv ((mbR X (nb 0)).1)]) hM (ct_X5_scrolled M.2.1 T r sT lE aT fR wR gs w X (nb 0) hr hX (by omega)) gX5_does_X5_scrolled rfl ⟨rfl, rfl⟩ hy_X5_scrolled rfl ⟨by decide, by decide⟩ [0, 1, 2] rfl rfl (fun _ _ => rfl) 0 5 rfl rfl rfl rfl rfl (Nat.le_of_ble_eq_true rfl) ⟨by decide, by decide⟩ (fun _ _ => rfl) dX5_does_93 (fun w93 g93 hP93 => ?_)
    have hf93 := mbR_v hX (nb 0)
    have hw93 := WW_mb hX (nb 0)
    have ed : dwF X nb v = mbR X (nb 0) := by rw [c1_147182]; rfl
    rw [ed] at hF
    exact xr_iret (hF w93 g93 hP93) dX5_does_96 rfl rfl
  by_cases c1_20186693 : v = 20186693
  · refine xr_lookupK hM 109 dX5_does_1 (by decide) c1_20186693 (by decide) rfl (by decide) ?_
    refine xr_aload_n hM 0 dX5_does_109 rfl rfl ?_
    refine xr_aload_n hM 0 dX5_does_110 rfl rfl ?_
    refine xr_get (C := RX5) (TT0 := TX5) (N := 12) hM 5 0 11 (fun _ h => List.mem_cons_of_mem _ (List.mem_append_right _ h)) rfl rfl (by decide) (List.mem_of_getElem? (i := 1) rfl) rfl rfl dX5_does_111 ?_
    refine xr_iconst hM dX5_does_114 ?_
    refine xr_iald hM 3 0 rfl rfl (by omega) dX5_does_115 ?_
    refine xr_callV2 (ws' := fun w116 g116 => [(r 0, ob 5 [.ref (r 1), .ref (r 2), .ref (r 3), .ref (r 4), iv sT, .ref (r 5), iv lE, .ref (r 6), iv aT, iv fR, iv wR, .ref (r 7)]), (r 6, ia T.2.1 3 g116), (r 1, ia T.2.1 305 w116), (r 7, ia T.2.1 3 nb)]) (rest := []) (As := [iv (nb 0)]) (st' := [iv ((msR X (nb 0)).1)]) hM (ct_X5_jumped M.2.1 T r sT lE aT fR wR gs w X (nb 0) hr hX (by omega)) gX5_does_X5_jumped rfl ⟨rfl, rfl⟩ hy_X5_jumped rfl ⟨by decide, by decide⟩ [0, 1, 2] rfl rfl (fun _ _ => rfl) 0 5 rfl rfl rfl rfl rfl (Nat.le_of_ble_eq_true rfl) ⟨by decide, by decide⟩ (fun _ _ => rfl) dX5_does_116 (fun w116 g116 hP116 => ?_)
    have hf116 := msR_v hX (nb 0)
    have hw116 := WW_ms hX (nb 0)
    have ed : dwF X nb v = msR X (nb 0) := by rw [c1_20186693]; rfl
    rw [ed] at hF
    exact xr_iret (hF w116 g116 hP116) dX5_does_119 rfl rfl
  refine xr_lookup hM 120 dX5_does_1 (by decide) (by omega) (xl_def5 (by omega) (by omega) (by omega) (by omega) (by omega)) (by decide) ?_
  refine xr_aload_n hM 0 dX5_does_120 rfl rfl ?_
  refine xr_aload_n hM 0 dX5_does_121 rfl rfl ?_
  refine xr_get (C := RX5) (TT0 := TX5) (N := 12) hM 5 0 11 (fun _ h => List.mem_cons_of_mem _ (List.mem_append_right _ h)) rfl rfl (by decide) (List.mem_of_getElem? (i := 1) rfl) rfl rfl dX5_does_122 ?_
  refine xr_iconst hM dX5_does_125 ?_
  refine xr_iald hM 3 0 rfl rfl (by omega) dX5_does_126 ?_
  refine xr_callV2 (ws' := fun w127 g127 => [(r 0, ob 5 [.ref (r 1), .ref (r 2), .ref (r 3), .ref (r 4), iv sT, .ref (r 5), iv lE, .ref (r 6), iv aT, iv fR, iv wR, .ref (r 7)]), (r 6, ia T.2.1 3 g127), (r 1, ia T.2.1 305 w127), (r 7, ia T.2.1 3 nb)]) (rest := []) (As := [iv (nb 0)]) (st' := [iv ((mlR X (nb 0)).1)]) hM (ct_X5_gone M.2.1 T r sT lE aT fR wR gs w X (nb 0) hr hX (by omega)) gX5_does_X5_gone rfl ⟨rfl, rfl⟩ hy_X5_gone rfl ⟨by decide, by decide⟩ [0, 1, 2] rfl rfl (fun _ _ => rfl) 0 5 rfl rfl rfl rfl rfl (Nat.le_of_ble_eq_true rfl) ⟨by decide, by decide⟩ (fun _ _ => rfl) dX5_does_127 (fun w127 g127 hP127 => ?_)
  have hf127 := mlR_v hX (nb 0)
  have hw127 := WW_ml hX (nb 0)
  have ed : dwF X nb v = mlR X (nb 0) := by unfold dwF; (repeat rw [if_neg (by omega)])
  rw [ed] at hF
  exact xr_iret (hF w127 g127 hP127) dX5_does_130 rfl rfl
