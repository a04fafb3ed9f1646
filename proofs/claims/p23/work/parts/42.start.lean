/-! ===== THE LAW: what holds at its start ===== -/
theorem lw_ar1 {args : Array Value} {s : State} (h : (Cond.arrayClass .int).before args s = true) : ∃ cA, ArrOfT s cA .int ∧ va_RA s cA .int := by
  obtain ⟨cA, kA, comp, h1, h2, h3⟩ := Cond.arrayClass_spec h
  exact ⟨cA, fun n z => ⟨fun k h => (by cases h), kA, h2, comp, h3⟩, h1⟩
theorem lw_ar2 {args : Array Value} {s : State} (h : (Cond.arrayClass .boolean).before args s = true) : ∃ cA, ArrOfT s cA .boolean ∧ va_RA s cA .boolean := by
  obtain ⟨cA, kA, comp, h1, h2, h3⟩ := Cond.arrayClass_spec h
  exact ⟨cA, fun n z => ⟨fun k h => (by cases h), kA, h2, comp, h3⟩, h1⟩
theorem lw_ar3 {args : Array Value} {s : State} (h : (Cond.arrayClass .char).before args s = true) : ∃ cA, ArrOfT s cA .char ∧ va_RA s cA .char := by
  obtain ⟨cA, kA, comp, h1, h2, h3⟩ := Cond.arrayClass_spec h
  exact ⟨cA, fun n z => ⟨fun k h => (by cases h), kA, h2, comp, h3⟩, h1⟩
theorem lw_ar4 {args : Array Value} {s : State} {C : String} (h : (Cond.arrayOver (.object C)).before args s = true) : ∃ cA, ArrOfT s cA (.object C) ∧ va_RA s cA (.object C) := by
  obtain ⟨comp, cA, kA, h1, h2, h3, h4, h5⟩ := Cond.arrayOver_spec h
  exact ⟨cA, fun n z => ⟨fun k h => (by cases h), kA, h3, comp, h4⟩, kA, comp, h3, h4, h1, h5⟩
theorem lw_K {b : Nat} {s : State} (hts : ∀ w ∈ lw_tbl, w.before #[Value.ref b] s = true) : ∃ (D : va_G) (c1 c2 c3 c4 : ClassId), va_K D xcl [(c1, .int), (c2, .boolean), (c3, .char), (c4, .object RX3)] s := by
  obtain ⟨k0, i0, h0⟩ := u_known (C := RX0) (T := TX0) (N := 3) (n := 3) hts lwt_X0 (hts (.instantiable RX0 3) (by decide +kernel))
  obtain ⟨k1, i1, h1⟩ := u_known (C := RX1) (T := TX1) (N := 7) (n := 7) hts lwt_X1 (hts (.instantiable RX1 7) (by decide +kernel))
  obtain ⟨k2, i2, h2⟩ := u_known (C := RX2) (T := TX2) (N := 6) (n := 6) hts lwt_X2 (hts (.instantiable RX2 6) (by decide +kernel))
  obtain ⟨k3, i3, h3⟩ := u_known (C := RX3) (T := TX3) (N := 4) (n := 4) hts lwt_X3 (hts (.instantiable RX3 4) (by decide +kernel))
  obtain ⟨k4, i4, h4⟩ := u_known (C := RX4) (T := TX4) (N := 4) (n := 4) hts lwt_X4 (hts (.instantiable RX4 4) (by decide +kernel))
  obtain ⟨c1, a1, b1⟩ := lw_ar1 (hts (.arrayClass .int) (by decide +kernel))
  obtain ⟨c2, a2, b2⟩ := lw_ar2 (hts (.arrayClass .boolean) (by decide +kernel))
  obtain ⟨c3, a3, b3⟩ := lw_ar3 (hts (.arrayClass .char) (by decide +kernel))
  obtain ⟨c4, a4, b4⟩ := lw_ar4 (C := RX3) (hts (.arrayOver (.object RX3)) (by decide +kernel))
  refine ⟨(fun k => match k with | 0 => k0 | 1 => k1 | 2 => k2 | 3 => k3 | _ => k4, fun k => match k with | 0 => i0 | 1 => i1 | 2 => i2 | 3 => i3 | _ => i4), c1, c2, c3, c4, ?_, ?_⟩
  · intro k q hq
    match k, hq with
    | 0, hq => cases hq; exact h0
    | 1, hq => cases hq; exact h1
    | 2, hq => cases hq; exact h2
    | 3, hq => cases hq; exact h3
    | 4, hq => cases hq; exact h4
    | k + 5, hq => exact absurd hq (by simp)
  · intro k q hq
    match k, hq with
    | 0, hq => cases hq; exact ⟨a1, b1⟩
    | 1, hq => cases hq; exact ⟨a2, b2⟩
    | 2, hq => cases hq; exact ⟨a3, b3⟩
    | 3, hq => cases hq; exact ⟨a4, b4⟩
    | k + 4, hq => exact absurd hq (by simp)
theorem WW_em : WW emW :=
  ⟨⟨⟨(by decide : (0 : Int) ≤ 0 ∧ (0 : Int) ≤ 100), (by decide : (5 : Int) ≤ 40 ∧ (40 : Int) ≤ 80), fun i => ⟨(by decide : (0 : Int) ≤ 0 ∧ (0 : Int) ≤ 2), (by decide : (0 : Int) ≤ 0 ∧ (0 : Int) ≤ 400), Or.inl rfl⟩, fun k hk => ⟨rfl, rfl⟩⟩,
    (by decide : (20 : Int) ≤ 100 ∧ (100 : Int) ≤ 600), fun _ => ⟨rfl, rfl⟩, fun h => absurd h (by decide : ¬ (0 : Int) < 0), (by decide : (0 : Int) ≤ 0 ∧ (0 : Int) ≤ 400000)⟩, (by decide : (0 : Int) ≤ 1450)⟩
theorem SE_em : SE emW := ⟨WW_em, fun h => absurd h (by decide : ¬ (0 : Int) < 0)⟩
theorem TXI_em : TXI (fun _ => 0) 0 := ⟨by omega, fun j => (by decide : (0 : Int) ≤ 0 ∧ (0 : Int) ≤ 255)⟩
set_option maxHeartbeats 4000000 in
set_option maxRecDepth 100000 in
theorem law_start {T : TT} {M : MB} (hM : FM T M cL_law RL 11 wsL_law room_1) (hAO : va_AO RX3 M.2.2.2.2.1) (hT : T.2.2.2.2.2.2.1 < 2147483648)
    (hret : ∀ (lv : List (Nat × Value)) (ws : va_W), VV T M 11 lv ws 55 2340 720 [iv 1]) : VV T M 11 [(0, .ref T.2.2.2.2.2.1)] [] 0 0 0 [] := by
  refine xr_new (C := RX4) (TT0 := TX4) (N := 4) hM 4 [.null, .null, .null, .null] inlX4 tyX4 tyX4_ok (List.mem_of_getElem? (i := 0) rfl) (List.mem_of_getElem? (i := 1) rfl) (List.mem_of_getElem? (i := 2) rfl) rfl (fun j hj => by rcases (show j = 0 ∨ j = 1 ∨ j = 2 ∨ j = 3 by omega) with rfl | rfl | rfl | rfl <;> rfl) (Nat.le_of_ble_eq_true rfl) (Nat.le_of_ble_eq_true rfl) dL_law_0 (fun a => ?_)
  refine xr_dup hM dL_law_3 rfl ?_
  refine xr_callIa (wr := []) (rest := [.ref a]) hM hAO (cn_X4_init M.2.1 T a) gL_law_X4_init rfl ⟨rfl, rfl⟩ (List.mem_of_getElem? (i := 2) rfl) (List.mem_of_getElem? (i := 5) rfl) (List.mem_of_getElem? (i := 6) rfl) rfl (by decide +kernel) ⟨by decide, by decide⟩ [0] [] rfl rfl rfl rfl (by decide) (Nat.le_of_ble_eq_true rfl) ⟨Nat.le_of_ble_eq_true rfl, Nat.le_of_ble_eq_true rfl⟩ dL_law_4 (fun q1 => ?_)
  refine xr_astore_n (lv' := [(0, .ref T.2.2.2.2.2.1), (1, .ref a)]) hM dL_law_7 rfl (by decide) rfl rfl ?_
  have hst : HST (fun i j => q1 (16 + 7 * i + j)) (va_up (va_up (va_up (va_up (va_up (fun _ => none) 0 (some (q1 22))) 1 (some (q1 29))) 2 (some (q1 36))) 3 (some (q1 43))) 4 (some (q1 50))) := by
    intro k hk
    rcases (show k = 0 ∨ k = 1 ∨ k = 2 ∨ k = 3 ∨ k = 4 by omega) with rfl | rfl | rfl | rfl | rfl <;> rfl
  have hce : (55 : Nat) ≤ room_1.cells ∧ (2340 : Nat) ≤ room_1.slots := ⟨Nat.le_of_ble_eq_true rfl, Nat.le_of_ble_eq_true rfl⟩
  exact law_first (fun _ => a) (fun j => q1 j) (fun j => q1 (7 + j)) (fun j => q1 (14 + j)) (fun j => q1 (51 + j)) (fun i j => q1 (16 + 7 * i + j)) (va_up (va_up (va_up (va_up (va_up (fun _ => none) 0 (some (q1 22))) 1 (some (q1 29))) 2 (some (q1 36))) 3 (some (q1 43))) 4 (some (q1 50))) (fun _ => 0) (fun _ => 0) 0 0 0 0 hM hst TXI_em hT hce emW emW (fun _ => emW) 0 SE_em (fun _ => SE_em) (by decide) rfl (fun X Y H sz nx hS hHS hsz hnx hN =>
    law_loop (fun _ => a) (fun j => q1 j) (fun j => q1 (7 + j)) (fun j => q1 (14 + j)) (fun j => q1 (51 + j)) (fun i j => q1 (16 + 7 * i + j)) (va_up (va_up (va_up (va_up (va_up (fun _ => none) 0 (some (q1 22))) 1 (some (q1 29))) 2 (some (q1 36))) 3 (some (q1 43))) 4 (some (q1 50))) (fun _ => 0) (fun _ => 0) 0 0 0 0 hM hst TXI_em hT hce (fun X Y H sz nx hS hHS hsz hnx hN => law_end (fun _ => a) (fun j => q1 j) (fun j => q1 (7 + j)) (fun j => q1 (14 + j)) (fun j => q1 (51 + j)) (fun i j => q1 (16 + 7 * i + j)) (va_up (va_up (va_up (va_up (va_up (fun _ => none) 0 (some (q1 22))) 1 (some (q1 29))) 2 (some (q1 36))) 3 (some (q1 43))) 4 (some (q1 50))) (fun _ => 0) (fun _ => 0) 0 0 0 0 hM hst TXI_em hT hce hret X Y H sz nx hS hHS hsz hnx hN) 20 0 (by decide) X Y H sz nx hS hHS hsz hnx (by omega))
