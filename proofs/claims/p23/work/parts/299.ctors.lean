theorem hp_X0_init : plainName yX0_init.cls = true := by decide +kernel
def rm_X0_init : Room := { frames := 3, cells := 36, slots := 1590, locals := 60 }
theorem cn_X0_init (l : Launch) (T : TT) (a : Nat) : CNa l yX0_init wsX0_init rm_X0_init T [.ref a] [(a, ob 0 [.null, iv 0, iv 0])] 36 1590 (fun x => hisE T (fun k9 => match k9 with | 0 => a | _ => x 0) (fun i j => x (1 + 7 * i + j)) (va_up (va_up (va_up (va_up (va_up (fun _ => none) 0 (some (x 7))) 1 (some (x 14))) 2 (some (x 21))) 3 (some (x 28))) 4 (some (x 35))) 0 0 (fun _ => emW)) := by
  refine CNa.V (lv0 := [(0, .ref a)]) hp_X0_init rfl (Nat.le_of_ble_eq_true rfl) rfl (fun M hM hI hAO hF => ?_)
  refine xr_aload_n hM 0 dX0_init_0 rfl rfl ?_
  refine xr_objInit hM (List.mem_of_getElem? (i := 1) rfl) (List.mem_of_getElem? (i := 2) rfl) (List.mem_of_getElem? (i := 3) rfl) (Nat.le_of_ble_eq_true rfl) (Nat.le_of_ble_eq_true rfl) (Nat.le_of_ble_eq_true rfl) dX0_init_1 ?_
  refine xr_aload_n hM 0 dX0_init_4 rfl rfl ?_
  refine xr_iconst hM dX0_init_5 ?_
  refine xr_newq hM hAO (List.mem_of_getElem? (i := 4) rfl) (by decide) (by decide) (Nat.le_of_ble_eq_true rfl) (Nat.le_of_ble_eq_true rfl) dX0_init_6 (fun qs => ?_)
  refine xr_putF (ws' := [(a, ob 0 [.ref qs, iv 0, iv 0]), (qs, qa T.2.2.2.2.1 5 (fun _ => none))]) (C := RX0) (TT0 := TX0) (N := 3) hM hI 0 0 0 (fun _ h => List.mem_cons_of_mem _ (List.mem_append_left _ (List.mem_append_left _ (List.mem_append_right _ h)))) tyX0 tyX0_ok nmX0 rfl rfl (by decide) (List.mem_of_getElem? (i := 5) rfl) rfl rfl rfl rfl rfl (Nat.le_of_ble_eq_true rfl) rfl dX0_init_9 ?_
  refine xr_iconst hM dX0_init_12 ?_
  refine xr_istore_n (lv' := [(0, .ref a), (1, iv 0)]) hM dX0_init_13 rfl (by decide) rfl rfl ?_
  refine xr_iload_n hM 1 dX0_init_14 rfl rfl ?_
  refine xr_iconst hM dX0_init_15 ?_
  refine xr_icmp_ge hM 38 dX0_init_16 (by decide) (by omega) (fun c => by exfalso; omega) (fun _ => ?_)
  refine xr_aload_n hM 0 dX0_init_19 rfl rfl ?_
  refine xr_get (C := RX0) (TT0 := TX0) (N := 3) hM 0 0 0 (fun _ h => List.mem_cons_of_mem _ (List.mem_append_left _ (List.mem_append_left _ (List.mem_append_right _ h)))) rfl rfl (by decide) (List.mem_of_getElem? (i := 5) rfl) rfl rfl dX0_init_20 ?_
  refine xr_iload_n hM 1 dX0_init_23 rfl rfl ?_
  refine xr_new (C := RX3) (TT0 := TX3) (N := 4) hM 3 [.null, iv 0, iv 0, iv 0] (fun _ h => List.mem_cons_of_mem _ (List.mem_append_left _ (List.mem_append_right _ h))) tyX3 tyX3_ok (List.mem_of_getElem? (i := 4) rfl) (List.mem_of_getElem? (i := 6) rfl) (List.mem_of_getElem? (i := 7) rfl) rfl (fun j hj => by rcases (show j = 0 ∨ j = 1 ∨ j = 2 ∨ j = 3 by omega) with rfl | rfl | rfl | rfl <;> rfl) (Nat.le_of_ble_eq_true rfl) (Nat.le_of_ble_eq_true rfl) dX0_init_24 (fun w0 => ?_)
  refine xr_dup hM dX0_init_27 rfl ?_
  refine xr_callI (wr := [(a, ob 0 [.ref qs, iv 0, iv 0]), (qs, qa T.2.2.2.2.1 5 (fun _ => none))]) (rest := [.ref w0, iv 0, .ref qs]) hM (cn_X3_init M.2.1 T w0) gX0_init_X3_init rfl ⟨rfl, rfl⟩ (List.mem_of_getElem? (i := 7) rfl) (List.mem_of_getElem? (i := 8) rfl) (List.mem_of_getElem? (i := 9) rfl) rfl (by decide +kernel) ⟨by decide, by decide⟩ [2] [0, 1] rfl rfl rfl rfl (by decide) (Nat.le_of_ble_eq_true rfl) ⟨Nat.le_of_ble_eq_true rfl, Nat.le_of_ble_eq_true rfl⟩ dX0_init_28 (fun y0 => ?_)
  refine xr_astq (ws' := [(a, ob 0 [.ref qs, iv 0, iv 0]), (qs, qa T.2.2.2.2.1 5 (va_up (fun _ => none) 0 (some w0)))] ++ winE T (fun k9 => match k9 with | 6 => w0 | j => y0 j) emW) (f := fun _ => none) hM 1 2 rfl rfl (by decide) rfl dX0_init_31 ?_
  refine xr_iinc (lv' := [(0, .ref a), (1, iv 1)]) hM 1 dX0_init_32 rfl (by decide) rfl rfl ?_
  refine xr_goto hM 14 dX0_init_35 (by decide) ?_
  refine xr_iload_n hM 1 dX0_init_14 rfl rfl ?_
  refine xr_iconst hM dX0_init_15 ?_
  refine xr_icmp_ge hM 38 dX0_init_16 (by decide) (by omega) (fun c => by exfalso; omega) (fun _ => ?_)
  refine xr_aload_n hM 0 dX0_init_19 rfl rfl ?_
  refine xr_get (C := RX0) (TT0 := TX0) (N := 3) hM 0 0 0 (fun _ h => List.mem_cons_of_mem _ (List.mem_append_left _ (List.mem_append_left _ (List.mem_append_right _ h)))) rfl rfl (by decide) (List.mem_of_getElem? (i := 5) rfl) rfl rfl dX0_init_20 ?_
  refine xr_iload_n hM 1 dX0_init_23 rfl rfl ?_
  refine xr_new (C := RX3) (TT0 := TX3) (N := 4) hM 3 [.null, iv 0, iv 0, iv 0] (fun _ h => List.mem_cons_of_mem _ (List.mem_append_left _ (List.mem_append_right _ h))) tyX3 tyX3_ok (List.mem_of_getElem? (i := 4) rfl) (List.mem_of_getElem? (i := 6) rfl) (List.mem_of_getElem? (i := 7) rfl) rfl (fun j hj => by rcases (show j = 0 ∨ j = 1 ∨ j = 2 ∨ j = 3 by omega) with rfl | rfl | rfl | rfl <;> rfl) (Nat.le_of_ble_eq_true rfl) (Nat.le_of_ble_eq_true rfl) dX0_init_24 (fun w1 => ?_)
  refine xr_dup hM dX0_init_27 rfl ?_
  refine xr_callI (wr := [(a, ob 0 [.ref qs, iv 0, iv 0]), (qs, qa T.2.2.2.2.1 5 (va_up (fun _ => none) 0 (some w0)))] ++ winE T (fun k9 => match k9 with | 6 => w0 | j => y0 j) emW) (rest := [.ref w1, iv 1, .ref qs]) hM (cn_X3_init M.2.1 T w1) gX0_init_X3_init rfl ⟨rfl, rfl⟩ (List.mem_of_getElem? (i := 7) rfl) (List.mem_of_getElem? (i := 8) rfl) (List.mem_of_getElem? (i := 9) rfl) rfl (by decide +kernel) ⟨by decide, by decide⟩ [9] [0, 1, 2, 3, 4, 5, 6, 7, 8] rfl rfl rfl rfl (by decide) (Nat.le_of_ble_eq_true rfl) ⟨Nat.le_of_ble_eq_true rfl, Nat.le_of_ble_eq_true rfl⟩ dX0_init_28 (fun y1 => ?_)
  refine xr_astq (ws' := [(a, ob 0 [.ref qs, iv 0, iv 0]), (qs, qa T.2.2.2.2.1 5 (va_up (va_up (fun _ => none) 0 (some w0)) 1 (some w1)))] ++ winE T (fun k9 => match k9 with | 6 => w0 | j => y0 j) emW ++ winE T (fun k9 => match k9 with | 6 => w1 | j => y1 j) emW) (f := va_up (fun _ => none) 0 (some w0)) hM 1 9 rfl rfl (by decide) rfl dX0_init_31 ?_
  refine xr_iinc (lv' := [(0, .ref a), (1, iv 2)]) hM 1 dX0_init_32 rfl (by decide) rfl rfl ?_
  refine xr_goto hM 14 dX0_init_35 (by decide) ?_
  refine xr_iload_n hM 1 dX0_init_14 rfl rfl ?_
  refine xr_iconst hM dX0_init_15 ?_
  refine xr_icmp_ge hM 38 dX0_init_16 (by decide) (by omega) (fun c => by exfalso; omega) (fun _ => ?_)
  refine xr_aload_n hM 0 dX0_init_19 rfl rfl ?_
  refine xr_get (C := RX0) (TT0 := TX0) (N := 3) hM 0 0 0 (fun _ h => List.mem_cons_of_mem _ (List.mem_append_left _ (List.mem_append_left _ (List.mem_append_right _ h)))) rfl rfl (by decide) (List.mem_of_getElem? (i := 5) rfl) rfl rfl dX0_init_20 ?_
  refine xr_iload_n hM 1 dX0_init_23 rfl rfl ?_
  refine xr_new (C := RX3) (TT0 := TX3) (N := 4) hM 3 [.null, iv 0, iv 0, iv 0] (fun _ h => List.mem_cons_of_mem _ (List.mem_append_left _ (List.mem_append_right _ h))) tyX3 tyX3_ok (List.mem_of_getElem? (i := 4) rfl) (List.mem_of_getElem? (i := 6) rfl) (List.mem_of_getElem? (i := 7) rfl) rfl (fun j hj => by rcases (show j = 0 ∨ j = 1 ∨ j = 2 ∨ j = 3 by omega) with rfl | rfl | rfl | rfl <;> rfl) (Nat.le_of_ble_eq_true rfl) (Nat.le_of_ble_eq_true rfl) dX0_init_24 (fun w2 => ?_)
  refine xr_dup hM dX0_init_27 rfl ?_
  refine xr_callI (wr := [(a, ob 0 [.ref qs, iv 0, iv 0]), (qs, qa T.2.2.2.2.1 5 (va_up (va_up (fun _ => none) 0 (some w0)) 1 (some w1)))] ++ winE T (fun k9 => match k9 with | 6 => w0 | j => y0 j) emW ++ winE T (fun k9 => match k9 with | 6 => w1 | j => y1 j) emW) (rest := [.ref w2, iv 2, .ref qs]) hM (cn_X3_init M.2.1 T w2) gX0_init_X3_init rfl ⟨rfl, rfl⟩ (List.mem_of_getElem? (i := 7) rfl) (List.mem_of_getElem? (i := 8) rfl) (List.mem_of_getElem? (i := 9) rfl) rfl (by decide +kernel) ⟨by decide, by decide⟩ [16] [0, 1, 2, 3, 4, 5, 6, 7, 8, 9, 10, 11, 12, 13, 14, 15] rfl rfl rfl rfl (by decide) (Nat.le_of_ble_eq_true rfl) ⟨Nat.le_of_ble_eq_true rfl, Nat.le_of_ble_eq_true rfl⟩ dX0_init_28 (fun y2 => ?_)
  refine xr_astq (ws' := [(a, ob 0 [.ref qs, iv 0, iv 0]), (qs, qa T.2.2.2.2.1 5 (va_up (va_up (va_up (fun _ => none) 0 (some w0)) 1 (some w1)) 2 (some w2)))] ++ winE T (fun k9 => match k9 with | 6 => w0 | j => y0 j) emW ++ winE T (fun k9 => match k9 with | 6 => w1 | j => y1 j) emW ++ winE T (fun k9 => match k9 with | 6 => w2 | j => y2 j) emW) (f := va_up (va_up (fun _ => none) 0 (some w0)) 1 (some w1)) hM 1 16 rfl rfl (by decide) rfl dX0_init_31 ?_
  refine xr_iinc (lv' := [(0, .ref a), (1, iv 3)]) hM 1 dX0_init_32 rfl (by decide) rfl rfl ?_
  refine xr_goto hM 14 dX0_init_35 (by decide) ?_
  refine xr_iload_n hM 1 dX0_init_14 rfl rfl ?_
  refine xr_iconst hM dX0_init_15 ?_
  refine xr_icmp_ge hM 38 dX0_init_16 (by decide) (by omega) (fun c => by exfalso; omega) (fun _ => ?_)
  refine xr_aload_n hM 0 dX0_init_19 rfl rfl ?_
  refine xr_get (C := RX0) (TT0 := TX0) (N := 3) hM 0 0 0 (fun _ h => List.mem_cons_of_mem _ (List.mem_append_left _ (List.mem_append_left _ (List.mem_append_right _ h)))) rfl rfl (by decide) (List.mem_of_getElem? (i := 5) rfl) rfl rfl dX0_init_20 ?_
  refine xr_iload_n hM 1 dX0_init_23 rfl rfl ?_
  refine xr_new (C := RX3) (TT0 := TX3) (N := 4) hM 3 [.null, iv 0, iv 0, iv 0] (fun _ h => List.mem_cons_of_mem _ (List.mem_append_left _ (List.mem_append_right _ h))) tyX3 tyX3_ok (List.mem_of_getElem? (i := 4) rfl) (List.mem_of_getElem? (i := 6) rfl) (List.mem_of_getElem? (i := 7) rfl) rfl (fun j hj => by rcases (show j = 0 ∨ j = 1 ∨ j = 2 ∨ j = 3 by omega) with rfl | rfl | rfl | rfl <;> rfl) (Nat.le_of_ble_eq_true rfl) (Nat.le_of_ble_eq_true rfl) dX0_init_24 (fun w3 => ?_)
  refine xr_dup hM dX0_init_27 rfl ?_
  refine xr_callI (wr := [(a, ob 0 [.ref qs, iv 0, iv 0]), (qs, qa T.2.2.2.2.1 5 (va_up (va_up (va_up (fun _ => none) 0 (some w0)) 1 (some w1)) 2 (some w2)))] ++ winE T (fun k9 => match k9 with | 6 => w0 | j => y0 j) emW ++ winE T (fun k9 => match k9 with | 6 => w1 | j => y1 j) emW ++ winE T (fun k9 => match k9 with | 6 => w2 | j => y2 j) emW) (rest := [.ref w3, iv 3, .ref qs]) hM (cn_X3_init M.2.1 T w3) gX0_init_X3_init rfl ⟨rfl, rfl⟩ (List.mem_of_getElem? (i := 7) rfl) (List.mem_of_getElem? (i := 8) rfl) (List.mem_of_getElem? (i := 9) rfl) rfl (by decide +kernel) ⟨by decide, by decide⟩ [23] [0, 1, 2, 3, 4, 5, 6, 7, 8, 9, 10, 11, 12, 13, 14, 15, 16, 17, 18, 19, 20, 21, 22] rfl rfl rfl rfl (by decide) (Nat.le_of_ble_eq_true rfl) ⟨Nat.le_of_ble_eq_true rfl, Nat.le_of_ble_eq_true rfl⟩ dX0_init_28 (fun y3 => ?_)
  refine xr_astq (ws' := [(a, ob 0 [.ref qs, iv 0, iv 0]), (qs, qa T.2.2.2.2.1 5 (va_up (va_up (va_up (va_up (fun _ => none) 0 (some w0)) 1 (some w1)) 2 (some w2)) 3 (some w3)))] ++ winE T (fun k9 => match k9 with | 6 => w0 | j => y0 j) emW ++ winE T (fun k9 => match k9 with | 6 => w1 | j => y1 j) emW ++ winE T (fun k9 => match k9 with | 6 => w2 | j => y2 j) emW ++ winE T (fun k9 => match k9 with | 6 => w3 | j => y3 j) emW) (f := va_up (va_up (va_up (fun _ => none) 0 (some w0)) 1 (some w1)) 2 (some w2)) hM 1 23 rfl rfl (by decide) rfl dX0_init_31 ?_
  refine xr_iinc (lv' := [(0, .ref a), (1, iv 4)]) hM 1 dX0_init_32 rfl (by decide) rfl rfl ?_
  refine xr_goto hM 14 dX0_init_35 (by decide) ?_
  refine xr_iload_n hM 1 dX0_init_14 rfl rfl ?_
  refine xr_iconst hM dX0_init_15 ?_
  refine xr_icmp_ge hM 38 dX0_init_16 (by decide) (by omega) (fun c => by exfalso; omega) (fun _ => ?_)
  refine xr_aload_n hM 0 dX0_init_19 rfl rfl ?_
  refine xr_get (C := RX0) (TT0 := TX0) (N := 3) hM 0 0 0 (fun _ h => List.mem_cons_of_mem _ (List.mem_append_left _ (List.mem_append_left _ (List.mem_append_right _ h)))) rfl rfl (by decide) (List.mem_of_getElem? (i := 5) rfl) rfl rfl dX0_init_20 ?_
  refine xr_iload_n hM 1 dX0_init_23 rfl rfl ?_
  refine xr_new (C := RX3) (TT0 := TX3) (N := 4) hM 3 [.null, iv 0, iv 0, iv 0] (fun _ h => List.mem_cons_of_mem _ (List.mem_append_left _ (List.mem_append_right _ h))) tyX3 tyX3_ok (List.mem_of_getElem? (i := 4) rfl) (List.mem_of_getElem? (i := 6) rfl) (List.mem_of_getElem? (i := 7) rfl) rfl (fun j hj => by rcases (show j = 0 ∨ j = 1 ∨ j = 2 ∨ j = 3 by omega) with rfl | rfl | rfl | rfl <;> rfl) (Nat.le_of_ble_eq_true rfl) (Nat.le_of_ble_eq_true rfl) dX0_init_24 (fun w4 => ?_)
  refine xr_dup hM dX0_init_27 rfl ?_
  refine xr_callI (wr := [(a, ob 0 [.ref qs, iv 0, iv 0]), (qs, qa T.2.2.2.2.1 5 (va_up (va_up (va_up (va_up (fun _ => none) 0 (some w0)) 1 (some w1)) 2 (some w2)) 3 (some w3)))] ++ winE T (fun k9 => match k9 with | 6 => w0 | j => y0 j) emW ++ winE T (fun k9 => match k9 with | 6 => w1 | j => y1 j) emW ++ winE T (fun k9 => match k9 with | 6 => w2 | j => y2 j) emW ++ winE T (fun k9 => match k9 with | 6 => w3 | j => y3 j) emW) (rest := [.ref w4, iv 4, .ref qs]) hM (cn_X3_init M.2.1 T w4) gX0_init_X3_init rfl ⟨rfl, rfl⟩ (List.mem_of_getElem? (i := 7) rfl) (List.mem_of_getElem? (i := 8) rfl) (List.mem_of_getElem? (i := 9) rfl) rfl (by decide +kernel) ⟨by decide, by decide⟩ [30] [0, 1, 2, 3, 4, 5, 6, 7, 8, 9, 10, 11, 12, 13, 14, 15, 16, 17, 18, 19, 20, 21, 22, 23, 24, 25, 26, 27, 28, 29] rfl rfl rfl rfl (by decide) (Nat.le_of_ble_eq_true rfl) ⟨Nat.le_of_ble_eq_true rfl, Nat.le_of_ble_eq_true rfl⟩ dX0_init_28 (fun y4 => ?_)
  refine xr_astq (ws' := [(a, ob 0 [.ref qs, iv 0, iv 0]), (qs, qa T.2.2.2.2.1 5 (va_up (va_up (va_up (va_up (va_up (fun _ => none) 0 (some w0)) 1 (some w1)) 2 (some w2)) 3 (some w3)) 4 (some w4)))] ++ winE T (fun k9 => match k9 with | 6 => w0 | j => y0 j) emW ++ winE T (fun k9 => match k9 with | 6 => w1 | j => y1 j) emW ++ winE T (fun k9 => match k9 with | 6 => w2 | j => y2 j) emW ++ winE T (fun k9 => match k9 with | 6 => w3 | j => y3 j) emW ++ winE T (fun k9 => match k9 with | 6 => w4 | j => y4 j) emW) (f := va_up (va_up (va_up (va_up (fun _ => none) 0 (some w0)) 1 (some w1)) 2 (some w2)) 3 (some w3)) hM 1 30 rfl rfl (by decide) rfl dX0_init_31 ?_
  refine xr_iinc (lv' := [(0, .ref a), (1, iv 5)]) hM 1 dX0_init_32 rfl (by decide) rfl rfl ?_
  refine xr_goto hM 14 dX0_init_35 (by decide) ?_
  refine xr_iload_n hM 1 dX0_init_14 rfl rfl ?_
  refine xr_iconst hM dX0_init_15 ?_
  refine xr_icmp_ge hM 38 dX0_init_16 (by decide) (by omega) (fun _ => ?_) (fun c => by exfalso; omega)
  exact hF (fun k9 => match k9 with | 0 => qs | 1 => y0 0 | 2 => y0 1 | 3 => y0 2 | 4 => y0 3 | 5 => y0 4 | 6 => y0 5 | 7 => w0 | 8 => y1 0 | 9 => y1 1 | 10 => y1 2 | 11 => y1 3 | 12 => y1 4 | 13 => y1 5 | 14 => w1 | 15 => y2 0 | 16 => y2 1 | 17 => y2 2 | 18 => y2 3 | 19 => y2 4 | 20 => y2 5 | 21 => w2 | 22 => y3 0 | 23 => y3 1 | 24 => y3 2 | 25 => y3 3 | 26 => y3 4 | 27 => y3 5 | 28 => w3 | 29 => y4 0 | 30 => y4 1 | 31 => y4 2 | 32 => y4 3 | 33 => y4 4 | 34 => y4 5 | _ => w4) _ _ dX0_init_38
