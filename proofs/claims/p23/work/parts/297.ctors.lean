theorem hp_X3_init : plainName yX3_init.cls = true := by decide +kernel
def rm_X3_init : Room := { frames := 2, cells := 6, slots := 313, locals := 40 }
theorem cn_X3_init (l : Launch) (T : TT) (a : Nat) : CN l yX3_init wsX3_init rm_X3_init T [.ref a] [(a, ob 3 [.null, iv 0, iv 0, iv 0])] 6 313 (fun x => winE T (fun k9 => match k9 with | 6 => a | j => x j) emW) := by
  refine CN.V (lv0 := [(0, .ref a)]) hp_X3_init rfl (Nat.le_of_ble_eq_true rfl) rfl (fun M hM hI hF => ?_)
  refine xr_aload_n hM 0 dX3_init_0 rfl rfl ?_
  refine xr_objInit hM (List.mem_of_getElem? (i := 1) rfl) (List.mem_of_getElem? (i := 2) rfl) (List.mem_of_getElem? (i := 3) rfl) (Nat.le_of_ble_eq_true rfl) (Nat.le_of_ble_eq_true rfl) (Nat.le_of_ble_eq_true rfl) dX3_init_1 ?_
  refine xr_aload_n hM 0 dX3_init_4 rfl rfl ?_
  refine xr_new (C := RX1) (TT0 := TX1) (N := 7) hM 1 [.null, .null, .null, .null, .null, iv 0, iv 0] (fun _ h => List.mem_cons_of_mem _ (List.mem_append_left _ (List.mem_append_right _ h))) tyX1 tyX1_ok (List.mem_of_getElem? (i := 4) rfl) (List.mem_of_getElem? (i := 5) rfl) (List.mem_of_getElem? (i := 6) rfl) rfl (fun j hj => by rcases (show j = 0 ∨ j = 1 ∨ j = 2 ∨ j = 3 ∨ j = 4 ∨ j = 5 ∨ j = 6 by omega) with rfl | rfl | rfl | rfl | rfl | rfl | rfl <;> rfl) (Nat.le_of_ble_eq_true rfl) (Nat.le_of_ble_eq_true rfl) dX3_init_5 (fun q0 => ?_)
  refine xr_dup hM dX3_init_8 rfl ?_
  refine xr_callI (wr := [(a, ob 3 [.null, iv 0, iv 0, iv 0])]) (rest := [.ref q0, .ref a]) hM (cn_X1_init M.2.1 T q0) gX3_init_X1_init rfl ⟨rfl, rfl⟩ (List.mem_of_getElem? (i := 6) rfl) (List.mem_of_getElem? (i := 9) rfl) (List.mem_of_getElem? (i := 10) rfl) rfl (by decide +kernel) ⟨by decide, by decide⟩ [1] [0] rfl rfl rfl rfl (by decide) (Nat.le_of_ble_eq_true rfl) ⟨Nat.le_of_ble_eq_true rfl, Nat.le_of_ble_eq_true rfl⟩ dX3_init_9 (fun x9 => ?_)
  refine xr_putF (ws' := (a, ob 3 [.ref q0, iv 0, iv 0, iv 0]) :: linE T (fun k9 => match k9 with | 0 => q0 | 1 => x9 0 | 2 => x9 1 | 3 => x9 2 | 4 => x9 3 | _ => x9 4) emL) (C := RX3) (TT0 := TX3) (N := 4) hM hI 3 0 0 (fun _ h => List.mem_cons_of_mem _ (List.mem_append_right _ h)) tyX3 tyX3_ok nmX3 rfl rfl (by decide) (List.mem_of_getElem? (i := 7) rfl) rfl rfl rfl rfl rfl (Nat.le_of_ble_eq_true rfl) rfl dX3_init_12 ?_
  refine xr_aload_n hM 0 dX3_init_15 rfl rfl ?_
  refine xr_bipush hM dX3_init_16 (by decide) ?_
  refine xr_put (ws' := (a, ob 3 [.ref q0, iv 100, iv 0, iv 0]) :: linE T (fun k9 => match k9 with | 0 => q0 | 1 => x9 0 | 2 => x9 1 | 3 => x9 2 | 4 => x9 3 | _ => x9 4) emL) (C := RX3) (TT0 := TX3) (N := 4) hM 3 0 1 (fun _ h => List.mem_cons_of_mem _ (List.mem_append_right _ h)) tyX3 tyX3_ok nmX3 rfl rfl (by decide) (List.mem_of_getElem? (i := 8) rfl) rfl rfl rfl (Nat.le_of_ble_eq_true rfl) rfl dX3_init_18 ?_
  exact hF (fun k9 => match k9 with | 0 => q0 | 1 => x9 0 | 2 => x9 1 | 3 => x9 2 | 4 => x9 3 | _ => x9 4) _ _ dX3_init_21
