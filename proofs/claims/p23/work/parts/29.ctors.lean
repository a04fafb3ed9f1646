def emL : LnS := (fun _ => 0, fun _ => 0, fun _ => 0, fun _ => 0, fun _ => 0, 0, 40)
def emW : WnS := (emL, 100, 0, 0)

theorem hp_X1_init : plainName yX1_init.cls = true := by decide +kernel
def rm_X1_init : Room := { frames := 1, cells := 5, slots := 306, locals := 20 }
theorem cn_X1_init (l : Launch) (T : TT) (a : Nat) : CN l yX1_init wsX1_init rm_X1_init T [.ref a] [(a, ob 1 [.null, .null, .null, .null, .null, iv 0, iv 0])] 5 306 (fun x => linE T (fun k9 => match k9 with | 0 => a | 1 => x 0 | 2 => x 1 | 3 => x 2 | 4 => x 3 | _ => x 4) emL) := by
  refine CN.V (lv0 := [(0, .ref a)]) hp_X1_init rfl (Nat.le_of_ble_eq_true rfl) rfl (fun M hM hI hF => ?_)
  refine xr_aload_n hM 0 dX1_init_0 rfl rfl ?_
  refine xr_objInit hM (List.mem_of_getElem? (i := 1) rfl) (List.mem_of_getElem? (i := 2) rfl) (List.mem_of_getElem? (i := 3) rfl) (Nat.le_of_ble_eq_true rfl) (Nat.le_of_ble_eq_true rfl) (Nat.le_of_ble_eq_true rfl) dX1_init_1 ?_
  refine xr_aload_n hM 0 dX1_init_4 rfl rfl ?_
  refine xr_bipush hM dX1_init_5 (by decide) ?_
  refine xr_newa (atype := .int) (ty := .int) hM 0 rfl (List.mem_of_getElem? (i := 4) rfl) rfl rfl (by decide) (by decide) (Nat.le_of_ble_eq_true rfl) (Nat.le_of_ble_eq_true rfl) dX1_init_7 (fun q0 => ?_)
  refine xr_putF (ws' := [(a, ob 1 [.ref q0, .null, .null, .null, .null, iv 0, iv 0]), (q0, ia T.2.1 100 (fun _ => 0))]) (C := RX1) (TT0 := TX1) (N := 7) hM hI 1 0 0 (fun _ h => List.mem_cons_of_mem _ (List.mem_append_right _ h)) tyX1 tyX1_ok nmX1 rfl rfl (by decide) (List.mem_of_getElem? (i := 5) rfl) rfl rfl rfl rfl rfl (Nat.le_of_ble_eq_true rfl) rfl dX1_init_9 ?_
  refine xr_aload_n hM 0 dX1_init_12 rfl rfl ?_
  refine xr_bipush hM dX1_init_13 (by decide) ?_
  refine xr_newa (atype := .int) (ty := .int) hM 0 rfl (List.mem_of_getElem? (i := 4) rfl) rfl rfl (by decide) (by decide) (Nat.le_of_ble_eq_true rfl) (Nat.le_of_ble_eq_true rfl) dX1_init_15 (fun q1 => ?_)
  refine xr_putF (ws' := [(a, ob 1 [.ref q0, .ref q1, .null, .null, .null, iv 0, iv 0]), (q0, ia T.2.1 100 (fun _ => 0)), (q1, ia T.2.1 100 (fun _ => 0))]) (C := RX1) (TT0 := TX1) (N := 7) hM hI 1 0 1 (fun _ h => List.mem_cons_of_mem _ (List.mem_append_right _ h)) tyX1 tyX1_ok nmX1 rfl rfl (by decide) (List.mem_of_getElem? (i := 6) rfl) rfl rfl rfl rfl rfl (Nat.le_of_ble_eq_true rfl) rfl dX1_init_17 ?_
  refine xr_aload_n hM 0 dX1_init_20 rfl rfl ?_
  refine xr_bipush hM dX1_init_21 (by decide) ?_
  refine xr_newa (atype := .boolean) (ty := .boolean) hM 1 rfl (List.mem_of_getElem? (i := 7) rfl) rfl rfl (by decide) (by decide) (Nat.le_of_ble_eq_true rfl) (Nat.le_of_ble_eq_true rfl) dX1_init_23 (fun q2 => ?_)
  refine xr_putF (ws' := [(a, ob 1 [.ref q0, .ref q1, .ref q2, .null, .null, iv 0, iv 0]), (q0, ia T.2.1 100 (fun _ => 0)), (q1, ia T.2.1 100 (fun _ => 0)), (q2, ia T.2.2.1 100 (fun _ => 0))]) (C := RX1) (TT0 := TX1) (N := 7) hM hI 1 0 2 (fun _ h => List.mem_cons_of_mem _ (List.mem_append_right _ h)) tyX1 tyX1_ok nmX1 rfl rfl (by decide) (List.mem_of_getElem? (i := 8) rfl) rfl rfl rfl rfl rfl (Nat.le_of_ble_eq_true rfl) rfl dX1_init_25 ?_
  refine xr_aload_n hM 0 dX1_init_28 rfl rfl ?_
  refine xr_iconst hM dX1_init_29 ?_
  refine xr_newa (atype := .int) (ty := .int) hM 0 rfl (List.mem_of_getElem? (i := 4) rfl) rfl rfl (by decide) (by decide) (Nat.le_of_ble_eq_true rfl) (Nat.le_of_ble_eq_true rfl) dX1_init_30 (fun q3 => ?_)
  refine xr_putF (ws' := [(a, ob 1 [.ref q0, .ref q1, .ref q2, .ref q3, .null, iv 0, iv 0]), (q0, ia T.2.1 100 (fun _ => 0)), (q1, ia T.2.1 100 (fun _ => 0)), (q2, ia T.2.2.1 100 (fun _ => 0)), (q3, ia T.2.1 3 (fun _ => 0))]) (C := RX1) (TT0 := TX1) (N := 7) hM hI 1 0 3 (fun _ h => List.mem_cons_of_mem _ (List.mem_append_right _ h)) tyX1 tyX1_ok nmX1 rfl rfl (by decide) (List.mem_of_getElem? (i := 9) rfl) rfl rfl rfl rfl rfl (Nat.le_of_ble_eq_true rfl) rfl dX1_init_32 ?_
  refine xr_aload_n hM 0 dX1_init_35 rfl rfl ?_
  refine xr_iconst hM dX1_init_36 ?_
  refine xr_newa (atype := .int) (ty := .int) hM 0 rfl (List.mem_of_getElem? (i := 4) rfl) rfl rfl (by decide) (by decide) (Nat.le_of_ble_eq_true rfl) (Nat.le_of_ble_eq_true rfl) dX1_init_37 (fun q4 => ?_)
  refine xr_putF (ws' := [(a, ob 1 [.ref q0, .ref q1, .ref q2, .ref q3, .ref q4, iv 0, iv 0]), (q0, ia T.2.1 100 (fun _ => 0)), (q1, ia T.2.1 100 (fun _ => 0)), (q2, ia T.2.2.1 100 (fun _ => 0)), (q3, ia T.2.1 3 (fun _ => 0)), (q4, ia T.2.1 3 (fun _ => 0))]) (C := RX1) (TT0 := TX1) (N := 7) hM hI 1 0 4 (fun _ h => List.mem_cons_of_mem _ (List.mem_append_right _ h)) tyX1 tyX1_ok nmX1 rfl rfl (by decide) (List.mem_of_getElem? (i := 10) rfl) rfl rfl rfl rfl rfl (Nat.le_of_ble_eq_true rfl) rfl dX1_init_39 ?_
  refine xr_aload_n hM 0 dX1_init_42 rfl rfl ?_
  refine xr_bipush hM dX1_init_43 (by decide) ?_
  refine xr_put (ws' := [(a, ob 1 [.ref q0, .ref q1, .ref q2, .ref q3, .ref q4, iv 0, iv 40]), (q0, ia T.2.1 100 (fun _ => 0)), (q1, ia T.2.1 100 (fun _ => 0)), (q2, ia T.2.2.1 100 (fun _ => 0)), (q3, ia T.2.1 3 (fun _ => 0)), (q4, ia T.2.1 3 (fun _ => 0))]) (C := RX1) (TT0 := TX1) (N := 7) hM 1 0 6 (fun _ h => List.mem_cons_of_mem _ (List.mem_append_right _ h)) tyX1 tyX1_ok nmX1 rfl rfl (by decide) (List.mem_of_getElem? (i := 11) rfl) rfl rfl rfl (Nat.le_of_ble_eq_true rfl) rfl dX1_init_45 ?_
  exact hF (fun k9 => match k9 with | 0 => q0 | 1 => q1 | 2 => q2 | 3 => q3 | _ => q4) _ _ dX1_init_48

theorem hp_X2_init : plainName yX2_init.cls = true := by decide +kernel
def rm_X2_init : Room := { frames := 1, cells := 2, slots := 103, locals := 20 }
theorem cn_X2_init (l : Launch) (T : TT) (a : Nat) : CN l yX2_init wsX2_init rm_X2_init T [.ref a] [(a, ob 2 [.null, .null, iv 0, iv 0, iv 0, iv 0])] 2 103 (fun x => prgE T (fun k9 => match k9 with | 0 => a | 1 => x 0 | _ => x 1) (fun _ => 0) (fun _ => 0) 0 0 0 0) := by
  refine CN.V (lv0 := [(0, .ref a)]) hp_X2_init rfl (Nat.le_of_ble_eq_true rfl) rfl (fun M hM hI hF => ?_)
  refine xr_aload_n hM 0 dX2_init_0 rfl rfl ?_
  refine xr_objInit hM (List.mem_of_getElem? (i := 1) rfl) (List.mem_of_getElem? (i := 2) rfl) (List.mem_of_getElem? (i := 3) rfl) (Nat.le_of_ble_eq_true rfl) (Nat.le_of_ble_eq_true rfl) (Nat.le_of_ble_eq_true rfl) dX2_init_1 ?_
  refine xr_aload_n hM 0 dX2_init_4 rfl rfl ?_
  refine xr_bipush hM dX2_init_5 (by decide) ?_
  refine xr_newa (atype := .char) (ty := .char) hM 2 rfl (List.mem_of_getElem? (i := 4) rfl) rfl rfl (by decide) (by decide) (Nat.le_of_ble_eq_true rfl) (Nat.le_of_ble_eq_true rfl) dX2_init_7 (fun q0 => ?_)
  refine xr_putF (ws' := [(a, ob 2 [.ref q0, .null, iv 0, iv 0, iv 0, iv 0]), (q0, ia T.2.2.2.1 100 (fun _ => 0))]) (C := RX2) (TT0 := TX2) (N := 6) hM hI 2 0 0 (fun _ h => List.mem_cons_of_mem _ (List.mem_append_right _ h)) tyX2 tyX2_ok nmX2 rfl rfl (by decide) (List.mem_of_getElem? (i := 5) rfl) rfl rfl rfl rfl rfl (Nat.le_of_ble_eq_true rfl) rfl dX2_init_9 ?_
  refine xr_aload_n hM 0 dX2_init_12 rfl rfl ?_
  refine xr_iconst hM dX2_init_13 ?_
  refine xr_newa (atype := .int) (ty := .int) hM 0 rfl (List.mem_of_getElem? (i := 6) rfl) rfl rfl (by decide) (by decide) (Nat.le_of_ble_eq_true rfl) (Nat.le_of_ble_eq_true rfl) dX2_init_14 (fun q1 => ?_)
  refine xr_putF (ws' := [(a, ob 2 [.ref q0, .ref q1, iv 0, iv 0, iv 0, iv 0]), (q0, ia T.2.2.2.1 100 (fun _ => 0)), (q1, ia T.2.1 3 (fun _ => 0))]) (C := RX2) (TT0 := TX2) (N := 6) hM hI 2 0 1 (fun _ h => List.mem_cons_of_mem _ (List.mem_append_right _ h)) tyX2 tyX2_ok nmX2 rfl rfl (by decide) (List.mem_of_getElem? (i := 7) rfl) rfl rfl rfl rfl rfl (Nat.le_of_ble_eq_true rfl) rfl dX2_init_16 ?_
  exact hF (fun k9 => match k9 with | 0 => q0 | _ => q1) _ _ dX2_init_19

