/-! ===== THE LAW: its cases ===== -/
/-- what stands behind a case: at 491, with the state that the case has left -/
def LK (T : TT) (M : MB) (x n d h g : Nat → Nat) (b : Nat → Nat → Nat) (st : Nat → Option Nat) (tx nm : Nat → Int) (L s e p : Int) (k : Int) (ce sl : Nat) : Prop :=
  ∀ (X Y : WnS) (H : Nat → WnS) (sz nx : Int), SE X → (∀ k, SE (H k)) → (0 ≤ sz ∧ sz ≤ 5) → (0 ≤ nx ∧ nx < 5) → gN (pX X) ≤ k + 7 → VV T M 11 [(0, .ref T.2.2.2.2.2.1), (1, .ref (x 0)), (2, iv 1), (3, iv k)] (List.flatten [[(x 0, ob 4 [.ref (n 6), .ref (d 6), .ref (h 0), .ref (g 0)])], [(n 6, ob 3 [.ref (n 0), iv (pH X), iv (pA X), iv (pS X)])], linE T n (pX X), [(d 6, ob 3 [.ref (d 0), iv (pH Y), iv (pA Y), iv (pS Y)])], linE T d (pX Y), hisE T h b st sz nx H, prgE T g tx nm L s e p]) ce sl 491 []
theorem lc_148 {T : TT} {M : MB} {ce sl : Nat} (x n d h g : Nat → Nat) (b : Nat → Nat → Nat) (st : Nat → Option Nat) (X Y : WnS) (H : Nat → WnS) (sz nx : Int) (tx nm : Nat → Int) (L s e p : Int) (k y z : Int) (hM : FM T M cL_law RL 11 wsL_law room_1) (hst : HST b st) (ht : TXI tx L) (hT : T.2.2.2.2.2.2.1 < 2147483648) (hce : ce ≤ room_1.cells ∧ sl ≤ room_1.slots) (hS : SE X) (hHS : ∀ k, SE (H k)) (hsz : 0 ≤ sz ∧ sz ≤ 5) (hnx : 0 ≤ nx ∧ nx < 5) (hk : 0 ≤ k ∧ k ≤ 19) (hN : gN (pX X) ≤ k + 6) (hz : 0 ≤ z ∧ z < 2147483648) (hK : LK T M x n d h g b st tx nm L s e p k ce sl) : VV T M 11 [(0, .ref T.2.2.2.2.2.1), (1, .ref (x 0)), (2, iv 1), (3, iv k), (4, iv y), (5, iv z), (6, iv (gN (pX X)))] (List.flatten [[(x 0, ob 4 [.ref (n 6), .ref (d 6), .ref (h 0), .ref (g 0)])], [(n 6, ob 3 [.ref (n 0), iv (pH X), iv (pA X), iv (pS X)])], linE T n (pX X), [(d 6, ob 3 [.ref (d 0), iv (pH Y), iv (pA Y), iv (pS Y)])], linE T d (pX Y), hisE T h b st sz nx H, prgE T g tx nm L s e p]) ce sl 148 [] := by
  have hX : WW X := hS.1
  have hH : ∀ k, WW (H k) := SE_H hHS
  have hn0 := hX.1.1.1
  have hwd := hX.1.1.2.1
  have hHH := hX.1.2.1
  have hAn := hX.an
  have hSb := hX.1.2.2.2.2
  have hSs := hX.2
  have hta := tpF_b hX.1.1 (pA X).toNat
  have htn := tpF_b hX.1.1 (gN (pX X)).toNat
  have hzm : 0 < gN (pX X) → 0 ≤ z % gN (pX X) ∧ z % gN (pX X) < gN (pX X) := fun q => ⟨Int.emod_nonneg _ (by omega), Int.emod_lt_of_pos _ (by omega)⟩
  have hzp : 0 ≤ z % (gN (pX X) + 1) ∧ z % (gN (pX X) + 1) < gN (pX X) + 1 := ⟨Int.emod_nonneg _ (by omega), Int.emod_lt_of_pos _ (by omega)⟩
  refine xr_aload_n hM 1 dL_law_148 rfl rfl ?_
  refine xr_iload hM 5 dL_law_149 rfl ?_
  refine xr_iload hM 6 dL_law_151 rfl ?_
  refine xr_iconst hM dL_law_153 ?_
  refine xr_iadd hM dL_law_154 ?_
  refine xr_irem hM dL_law_155 (by omega) ?_
  refine xr_callSG (sg := [[(x 0, ob 4 [.ref (n 6), .ref (d 6), .ref (h 0), .ref (g 0)])], [(n 6, ob 3 [.ref (n 0), iv (pH X), iv (pA X), iv (pS X)])], linE T n (pX X), [(d 6, ob 3 [.ref (d 0), iv (pH Y), iv (pA Y), iv (pS Y)])], linE T d (pX Y), hisE T h b st sz nx H, prgE T g tx nm L s e p]) (sg' := [[(x 0, ob 4 [.ref (n 6), .ref (d 6), .ref (h 0), .ref (g 0)])], [(n 6, ob 3 [.ref (n 0), iv (pH (if (z % ((gN (pX X)) + 1)) < gN (pX X) then (cuR X (z % ((gN (pX X)) + 1))).2 else X)), iv (pA (if (z % ((gN (pX X)) + 1)) < gN (pX X) then (cuR X (z % ((gN (pX X)) + 1))).2 else X)), iv (pS (if (z % ((gN (pX X)) + 1)) < gN (pX X) then (cuR X (z % ((gN (pX X)) + 1))).2 else X))])], linE T n (pX (if (z % ((gN (pX X)) + 1)) < gN (pX X) then (cuR X (z % ((gN (pX X)) + 1))).2 else X)), [(d 6, ob 3 [.ref (d 0), iv (pH (if (z % ((gN (pX X)) + 1)) < gN (pX X) then (cuR X (z % ((gN (pX X)) + 1))).2 else X)), iv (pA (if (z % ((gN (pX X)) + 1)) < gN (pX X) then (cuR X (z % ((gN (pX X)) + 1))).2 else X)), iv (pS (if (z % ((gN (pX X)) + 1)) < gN (pX X) then (cuR X (z % ((gN (pX X)) + 1))).2 else X))])], linE T d (pX (if (z % ((gN (pX X)) + 1)) < gN (pX X) then (cuR X (z % ((gN (pX X)) + 1))).2 else X)), hisE T h b st (if (z % ((gN (pX X)) + 1)) < gN (pX X) then min (sz + 1) 5 else sz) (if (z % ((gN (pX X)) + 1)) < gN (pX X) then (nx + 1) % 5 else nx) (if (z % ((gN (pX X)) + 1)) < gN (pX X) then upW H nx X else H), prgE T g tx nm L s e p]) (cs := [[(x 0, ob 4 [.ref (n 6), .ref (d 6), .ref (h 0), .ref (g 0)])], [(n 6, ob 3 [.ref (n 0), iv (pH X), iv (pA X), iv (pS X)])], linE T n (pX X), [(d 6, ob 3 [.ref (d 0), iv (pH Y), iv (pA Y), iv (pS Y)])], linE T d (pX Y), hisE T h b st sz nx H, prgE T g tx nm L s e p]) (cs' := [[(x 0, ob 4 [.ref (n 6), .ref (d 6), .ref (h 0), .ref (g 0)])], [(n 6, ob 3 [.ref (n 0), iv (pH (if (z % ((gN (pX X)) + 1)) < gN (pX X) then (cuR X (z % ((gN (pX X)) + 1))).2 else X)), iv (pA (if (z % ((gN (pX X)) + 1)) < gN (pX X) then (cuR X (z % ((gN (pX X)) + 1))).2 else X)), iv (pS (if (z % ((gN (pX X)) + 1)) < gN (pX X) then (cuR X (z % ((gN (pX X)) + 1))).2 else X))])], linE T n (pX (if (z % ((gN (pX X)) + 1)) < gN (pX X) then (cuR X (z % ((gN (pX X)) + 1))).2 else X)), [(d 6, ob 3 [.ref (d 0), iv (pH (if (z % ((gN (pX X)) + 1)) < gN (pX X) then (cuR X (z % ((gN (pX X)) + 1))).2 else X)), iv (pA (if (z % ((gN (pX X)) + 1)) < gN (pX X) then (cuR X (z % ((gN (pX X)) + 1))).2 else X)), iv (pS (if (z % ((gN (pX X)) + 1)) < gN (pX X) then (cuR X (z % ((gN (pX X)) + 1))).2 else X))])], linE T d (pX (if (z % ((gN (pX X)) + 1)) < gN (pX X) then (cuR X (z % ((gN (pX X)) + 1))).2 else X)), hisE T h b st (if (z % ((gN (pX X)) + 1)) < gN (pX X) then min (sz + 1) 5 else sz) (if (z % ((gN (pX X)) + 1)) < gN (pX X) then (nx + 1) % 5 else nx) (if (z % ((gN (pX X)) + 1)) < gN (pX X) then upW H nx X else H), prgE T g tx nm L s e p]) (rest := []) (As := [.ref (x 0), iv (z % ((gN (pX X)) + 1))]) (st' := [iv 1]) hM (ct_L_cuts M.2.1 T x n d h g b st X Y H sz nx tx nm L s e p (z % ((gN (pX X)) + 1)) (hX) (hH) (hst) (hsz) (hnx) (ht) (by omega) (hS)) rfl rfl gL_law_L_cuts rfl ⟨rfl, rfl⟩ hy_L_cuts rfl ⟨by decide, by decide⟩ [0, 1, 2, 3, 4, 5, 6] rfl rfl rfl rfl rfl (Nat.le_of_ble_eq_true rfl) hce rfl dL_law_156 ?_
  refine xr_istore_n (lv' := [(0, .ref T.2.2.2.2.2.1), (1, .ref (x 0)), (2, iv 1), (3, iv k), (4, iv y), (5, iv z), (6, iv (gN (pX X)))]) hM dL_law_159 rfl (by decide) rfl rfl ?_
  refine xr_goto hM 491 dL_law_160 (by decide) ?_
  refine xr_pick [0, 1, 2, 3] rfl ?_
  exact hK (if (z % ((gN (pX X)) + 1)) < gN (pX X) then (cuR X (z % ((gN (pX X)) + 1))).2 else X) (if (z % ((gN (pX X)) + 1)) < gN (pX X) then (cuR X (z % ((gN (pX X)) + 1))).2 else X) (if (z % ((gN (pX X)) + 1)) < gN (pX X) then upW H nx X else H) (if (z % ((gN (pX X)) + 1)) < gN (pX X) then min (sz + 1) 5 else sz) (if (z % ((gN (pX X)) + 1)) < gN (pX X) then (nx + 1) % 5 else nx) (by split <;> first | exact SE_cu hS _ | exact hS) (by split <;> first | exact SE_up hHS hS | exact hHS) (by split <;> omega) (by split <;> omega) ((Decidable.em (z % (gN (pX X) + 1) < gN (pX X))).elim (fun q => by rw [if_pos q]; have := (cu_oE X (z % (gN (pX X) + 1)) hS (by omega)).2.1; omega) (fun q => by rw [if_neg q]; omega))

theorem lc_163 {T : TT} {M : MB} {ce sl : Nat} (x n d h g : Nat → Nat) (b : Nat → Nat → Nat) (st : Nat → Option Nat) (X Y : WnS) (H : Nat → WnS) (sz nx : Int) (tx nm : Nat → Int) (L s e p : Int) (k y z : Int) (hM : FM T M cL_law RL 11 wsL_law room_1) (hst : HST b st) (ht : TXI tx L) (hT : T.2.2.2.2.2.2.1 < 2147483648) (hce : ce ≤ room_1.cells ∧ sl ≤ room_1.slots) (hS : SE X) (hHS : ∀ k, SE (H k)) (hsz : 0 ≤ sz ∧ sz ≤ 5) (hnx : 0 ≤ nx ∧ nx < 5) (hk : 0 ≤ k ∧ k ≤ 19) (hN : gN (pX X) ≤ k + 6) (hz : 0 ≤ z ∧ z < 2147483648) (hK : LK T M x n d h g b st tx nm L s e p k ce sl) : VV T M 11 [(0, .ref T.2.2.2.2.2.1), (1, .ref (x 0)), (2, iv 1), (3, iv k), (4, iv y), (5, iv z), (6, iv (gN (pX X)))] (List.flatten [[(x 0, ob 4 [.ref (n 6), .ref (d 6), .ref (h 0), .ref (g 0)])], [(n 6, ob 3 [.ref (n 0), iv (pH X), iv (pA X), iv (pS X)])], linE T n (pX X), [(d 6, ob 3 [.ref (d 0), iv (pH Y), iv (pA Y), iv (pS Y)])], linE T d (pX Y), hisE T h b st sz nx H, prgE T g tx nm L s e p]) ce sl 163 [] := by
  have hX : WW X := hS.1
  have hH : ∀ k, WW (H k) := SE_H hHS
  have hn0 := hX.1.1.1
  have hwd := hX.1.1.2.1
  have hHH := hX.1.2.1
  have hAn := hX.an
  have hSb := hX.1.2.2.2.2
  have hSs := hX.2
  have hta := tpF_b hX.1.1 (pA X).toNat
  have htn := tpF_b hX.1.1 (gN (pX X)).toNat
  have hzm : 0 < gN (pX X) → 0 ≤ z % gN (pX X) ∧ z % gN (pX X) < gN (pX X) := fun q => ⟨Int.emod_nonneg _ (by omega), Int.emod_lt_of_pos _ (by omega)⟩
  have hzp : 0 ≤ z % (gN (pX X) + 1) ∧ z % (gN (pX X) + 1) < gN (pX X) + 1 := ⟨Int.emod_nonneg _ (by omega), Int.emod_lt_of_pos _ (by omega)⟩
  refine xr_iload hM 6 dL_law_163 rfl ?_
  refine xr_if_ne hM 172 dL_law_165 (by decide) (by omega) (fun c165 => ?_) (fun c165 => ?_)
  · refine xr_iload hM 5 dL_law_172 rfl ?_
    refine xr_iload hM 6 dL_law_174 rfl ?_
    refine xr_irem hM dL_law_176 (by omega) ?_
    refine xr_istore (lv' := [(0, .ref T.2.2.2.2.2.1), (1, .ref (x 0)), (2, iv 1), (3, iv k), (4, iv y), (5, iv z), (6, iv (gN (pX X))), (7, iv (z % (gN (pX X))))]) hM dL_law_177 (by decide) rfl rfl ?_
    refine xr_iload hM 6 dL_law_179 rfl ?_
    refine xr_if_ne hM 189 dL_law_181 (by decide) (by omega) (fun c181 => ?_) (fun c181 => by exfalso; omega)
    refine xr_aload_n hM 1 dL_law_189 rfl rfl ?_
    refine xr_iload hM 7 dL_law_190 rfl ?_
    refine xr_iconst hM dL_law_192 ?_
    refine xr_callVG (sg := [[(x 0, ob 4 [.ref (n 6), .ref (d 6), .ref (h 0), .ref (g 0)])], [(n 6, ob 3 [.ref (n 0), iv (pH X), iv (pA X), iv (pS X)])], linE T n (pX X), [(d 6, ob 3 [.ref (d 0), iv (pH Y), iv (pA Y), iv (pS Y)])], linE T d (pX Y), hisE T h b st sz nx H, prgE T g tx nm L s e p]) (sg' := [[(x 0, ob 4 [.ref (n 6), .ref (d 6), .ref (h 0), .ref (g 0)])], [(n 6, ob 3 [.ref (n 0), iv (pH X), iv (pA X), iv (pS X)])], linE T n (pX X), [(d 6, ob 3 [.ref (d 0), iv (pH Y), iv (pA Y), iv (pS Y)])], linE T d (pX Y), hisE T h b st sz nx H, prgE T g tx nm L s e p]) (cs := [[(x 0, ob 4 [.ref (n 6), .ref (d 6), .ref (h 0), .ref (g 0)])], [(n 6, ob 3 [.ref (n 0), iv (pH X), iv (pA X), iv (pS X)])], linE T n (pX X), [(d 6, ob 3 [.ref (d 0), iv (pH Y), iv (pA Y), iv (pS Y)])], linE T d (pX Y), hisE T h b st sz nx H, prgE T g tx nm L s e p]) (cs' := [[(x 0, ob 4 [.ref (n 6), .ref (d 6), .ref (h 0), .ref (g 0)])], [(n 6, ob 3 [.ref (n 0), iv (pH X), iv (pA X), iv (pS X)])], linE T n (pX X), [(d 6, ob 3 [.ref (d 0), iv (pH Y), iv (pA Y), iv (pS Y)])], linE T d (pX Y), hisE T h b st sz nx H, prgE T g tx nm L s e p]) (rest := []) (As := [iv (z % (gN (pX X))), iv 1]) (st' := [iv (gL (pX X) (z % (gN (pX X))).toNat)]) hM (ct_line_1 M.2.1 T x n d h g b st X Y H sz nx tx nm L s e p (z % (gN (pX X))) (hX) (hH) (hst) (hsz) (hnx) (ht) (by omega)) rfl rfl gL_law_X4_line rfl ⟨rfl, rfl⟩ hy_X4_line rfl ⟨by decide, by decide⟩ [0, 1, 2, 3, 4, 5, 6] rfl rfl rfl 0 4 rfl rfl rfl rfl rfl (Nat.le_of_ble_eq_true rfl) hce rfl dL_law_193 ?_
    have hf193 := (hX).1.1.2.2.1 (z % (gN (pX X))).toNat
    refine xr_istore (lv' := [(0, .ref T.2.2.2.2.2.1), (1, .ref (x 0)), (2, iv 1), (3, iv k), (4, iv y), (5, iv z), (6, iv (gN (pX X))), (7, iv (z % (gN (pX X)))), (8, iv (gL (pX X) (z % (gN (pX X))).toNat))]) hM dL_law_196 (by decide) rfl rfl ?_
    refine xr_aload_n hM 1 dL_law_198 rfl rfl ?_
    refine xr_iload hM 7 dL_law_199 rfl ?_
    refine xr_iload hM 5 dL_law_201 rfl ?_
    refine xr_bipush hM dL_law_203 (by decide) ?_
    refine xr_idiv hM dL_law_205 (by omega) ?_
    refine xr_sipush hM dL_law_206 (by decide) ?_
    refine xr_irem hM dL_law_209 (by omega) ?_
    refine xr_callVG (sg := [[(x 0, ob 4 [.ref (n 6), .ref (d 6), .ref (h 0), .ref (g 0)])], [(n 6, ob 3 [.ref (n 0), iv (pH X), iv (pA X), iv (pS X)])], linE T n (pX X), [(d 6, ob 3 [.ref (d 0), iv (pH Y), iv (pA Y), iv (pS Y)])], linE T d (pX Y), hisE T h b st sz nx H, prgE T g tx nm L s e p]) (sg' := [[(x 0, ob 4 [.ref (n 6), .ref (d 6), .ref (h 0), .ref (g 0)])], [(n 6, ob 3 [.ref (n 0), iv (pH ((chR X (z % (gN (pX X))) ((z / 32) % 401)).2)), iv (pA ((chR X (z % (gN (pX X))) ((z / 32) % 401)).2)), iv (pS ((chR X (z % (gN (pX X))) ((z / 32) % 401)).2))])], linE T n (pX ((chR X (z % (gN (pX X))) ((z / 32) % 401)).2)), [(d 6, ob 3 [.ref (d 0), iv (pH ((chR X (z % (gN (pX X))) ((z / 32) % 401)).2)), iv (pA ((chR X (z % (gN (pX X))) ((z / 32) % 401)).2)), iv (pS ((chR X (z % (gN (pX X))) ((z / 32) % 401)).2))])], linE T d (pX ((chR X (z % (gN (pX X))) ((z / 32) % 401)).2)), hisE T h b st (min (sz + 1) 5) ((nx + 1) % 5) (upW H nx X), prgE T g tx nm L s e p]) (cs := [[(x 0, ob 4 [.ref (n 6), .ref (d 6), .ref (h 0), .ref (g 0)])], [(n 6, ob 3 [.ref (n 0), iv (pH X), iv (pA X), iv (pS X)])], linE T n (pX X), [(d 6, ob 3 [.ref (d 0), iv (pH Y), iv (pA Y), iv (pS Y)])], linE T d (pX Y), hisE T h b st sz nx H, prgE T g tx nm L s e p]) (cs' := [[(x 0, ob 4 [.ref (n 6), .ref (d 6), .ref (h 0), .ref (g 0)])], [(n 6, ob 3 [.ref (n 0), iv (pH ((chR X (z % (gN (pX X))) ((z / 32) % 401)).2)), iv (pA ((chR X (z % (gN (pX X))) ((z / 32) % 401)).2)), iv (pS ((chR X (z % (gN (pX X))) ((z / 32) % 401)).2))])], linE T n (pX ((chR X (z % (gN (pX X))) ((z / 32) % 401)).2)), [(d 6, ob 3 [.ref (d 0), iv (pH ((chR X (z % (gN (pX X))) ((z / 32) % 401)).2)), iv (pA ((chR X (z % (gN (pX X))) ((z / 32) % 401)).2)), iv (pS ((chR X (z % (gN (pX X))) ((z / 32) % 401)).2))])], linE T d (pX ((chR X (z % (gN (pX X))) ((z / 32) % 401)).2)), hisE T h b st (min (sz + 1) 5) ((nx + 1) % 5) (upW H nx X), prgE T g tx nm L s e p]) (rest := []) (As := [iv (z % (gN (pX X))), iv ((z / 32) % 401)]) (st' := [iv (gL (pX X) (z % (gN (pX X))).toNat)]) hM (ct_change_ok M.2.1 T x n d h g b st X Y H sz nx tx nm L s e p (z % (gN (pX X))) ((z / 32) % 401) (hX) (hH) (hst) (hsz) (hnx) (ht) (by omega) (by omega) (hS)) rfl rfl gL_law_X4_change rfl ⟨rfl, rfl⟩ hy_X4_change rfl ⟨by decide, by decide⟩ [0, 1, 2, 3, 4, 5, 6] rfl rfl rfl 0 4 rfl rfl rfl rfl rfl (Nat.le_of_ble_eq_true rfl) hce rfl dL_law_210 ?_
    have hf210 := ch_oE X (z % (gN (pX X))) ((z / 32) % 401) (by omega) (by omega) (hS)
    refine xr_iload hM 8 dL_law_213 rfl ?_
    refine xr_icmp_ne hM 222 dL_law_215 (by decide) (by omega) (fun c215 => by exfalso; omega) (fun c215 => ?_)
    refine xr_iconst hM dL_law_218 ?_
    refine xr_goto hM 223 dL_law_219 (by decide) ?_
    refine xr_istore_n (lv' := [(0, .ref T.2.2.2.2.2.1), (1, .ref (x 0)), (2, iv 1), (3, iv k), (4, iv y), (5, iv z), (6, iv (gN (pX X))), (7, iv (z % (gN (pX X)))), (8, iv (gL (pX X) (z % (gN (pX X))).toNat))]) hM dL_law_223 rfl (by decide) rfl rfl ?_
    refine xr_goto hM 491 dL_law_224 (by decide) ?_
    refine xr_pick [0, 1, 2, 3] rfl ?_
    exact hK ((chR X (z % (gN (pX X))) ((z / 32) % 401)).2) ((chR X (z % (gN (pX X))) ((z / 32) % 401)).2) (upW H nx X) (min (sz + 1) 5) ((nx + 1) % 5) (SE_ch hS _ _) (SE_up hHS hS) (by omega) (by omega) (by have := (ch_oE X (z % gN (pX X)) (z / 32 % 401) (by omega) (by omega) hS).2; omega)
  · refine xr_iconst hM dL_law_168 ?_
    refine xr_goto hM 177 dL_law_169 (by decide) ?_
    refine xr_istore (lv' := [(0, .ref T.2.2.2.2.2.1), (1, .ref (x 0)), (2, iv 1), (3, iv k), (4, iv y), (5, iv z), (6, iv (gN (pX X))), (7, iv 0)]) hM dL_law_177 (by decide) rfl rfl ?_
    refine xr_iload hM 6 dL_law_179 rfl ?_
    refine xr_if_ne hM 189 dL_law_181 (by decide) (by omega) (fun c181_1 => by exfalso; omega) (fun c181_1 => ?_)
    refine xr_ldc hM (-100001) (List.mem_of_getElem? (i := 4) rfl) (by decide) dL_law_184 ?_
    refine xr_goto hM 196 dL_law_186 (by decide) ?_
    refine xr_istore (lv' := [(0, .ref T.2.2.2.2.2.1), (1, .ref (x 0)), (2, iv 1), (3, iv k), (4, iv y), (5, iv z), (6, iv (gN (pX X))), (7, iv 0), (8, iv (-100001))]) hM dL_law_196 (by decide) rfl rfl ?_
    refine xr_aload_n hM 1 dL_law_198 rfl rfl ?_
    refine xr_iload hM 7 dL_law_199 rfl ?_
    refine xr_iload hM 5 dL_law_201 rfl ?_
    refine xr_bipush hM dL_law_203 (by decide) ?_
    refine xr_idiv hM dL_law_205 (by omega) ?_
    refine xr_sipush hM dL_law_206 (by decide) ?_
    refine xr_irem hM dL_law_209 (by omega) ?_
    refine xr_callVG (sg := [[(x 0, ob 4 [.ref (n 6), .ref (d 6), .ref (h 0), .ref (g 0)])], [(n 6, ob 3 [.ref (n 0), iv (pH X), iv (pA X), iv (pS X)])], linE T n (pX X), [(d 6, ob 3 [.ref (d 0), iv (pH Y), iv (pA Y), iv (pS Y)])], linE T d (pX Y), hisE T h b st sz nx H, prgE T g tx nm L s e p]) (sg' := [[(x 0, ob 4 [.ref (n 6), .ref (d 6), .ref (h 0), .ref (g 0)])], [(n 6, ob 3 [.ref (n 0), iv (pH X), iv (pA X), iv (pS X)])], linE T n (pX X), [(d 6, ob 3 [.ref (d 0), iv (pH X), iv (pA X), iv (pS X)])], linE T d (pX X), hisE T h b st sz nx H, prgE T g tx nm L s e p]) (cs := [[(x 0, ob 4 [.ref (n 6), .ref (d 6), .ref (h 0), .ref (g 0)])], [(n 6, ob 3 [.ref (n 0), iv (pH X), iv (pA X), iv (pS X)])], linE T n (pX X), [(d 6, ob 3 [.ref (d 0), iv (pH Y), iv (pA Y), iv (pS Y)])], linE T d (pX Y), hisE T h b st sz nx H, prgE T g tx nm L s e p]) (cs' := [[(x 0, ob 4 [.ref (n 6), .ref (d 6), .ref (h 0), .ref (g 0)])], [(n 6, ob 3 [.ref (n 0), iv (pH X), iv (pA X), iv (pS X)])], linE T n (pX X), [(d 6, ob 3 [.ref (d 0), iv (pH X), iv (pA X), iv (pS X)])], linE T d (pX X), hisE T h b st sz nx H, prgE T g tx nm L s e p]) (rest := []) (As := [iv 0, iv ((z / 32) % 401)]) (st' := [iv (-100001)]) hM (ct_change_bad M.2.1 T x n d h g b st X Y H sz nx tx nm L s e p 0 ((z / 32) % 401) (hX) (hH) (hst) (hsz) (hnx) (ht) (by omega) (by omega) (by omega)) rfl rfl gL_law_X4_change rfl ⟨rfl, rfl⟩ hy_X4_change rfl ⟨by decide, by decide⟩ [0, 1, 2, 3, 4, 5, 6] rfl rfl rfl 0 4 rfl rfl rfl rfl rfl (Nat.le_of_ble_eq_true rfl) hce rfl dL_law_210 ?_
    refine xr_iload hM 8 dL_law_213 rfl ?_
    refine xr_icmp_ne hM 222 dL_law_215 (by decide) (by omega) (fun c215_1 => by exfalso; omega) (fun c215_1 => ?_)
    refine xr_iconst hM dL_law_218 ?_
    refine xr_goto hM 223 dL_law_219 (by decide) ?_
    refine xr_istore_n (lv' := [(0, .ref T.2.2.2.2.2.1), (1, .ref (x 0)), (2, iv 1), (3, iv k), (4, iv y), (5, iv z), (6, iv (gN (pX X))), (7, iv 0), (8, iv (-100001))]) hM dL_law_223 rfl (by decide) rfl rfl ?_
    refine xr_goto hM 491 dL_law_224 (by decide) ?_
    refine xr_pick [0, 1, 2, 3] rfl ?_
    exact hK X X H sz nx (hS) (hHS) (hsz) (hnx) (by omega)

theorem lc_227 {T : TT} {M : MB} {ce sl : Nat} (x n d h g : Nat → Nat) (b : Nat → Nat → Nat) (st : Nat → Option Nat) (X Y : WnS) (H : Nat → WnS) (sz nx : Int) (tx nm : Nat → Int) (L s e p : Int) (k y z : Int) (hM : FM T M cL_law RL 11 wsL_law room_1) (hst : HST b st) (ht : TXI tx L) (hT : T.2.2.2.2.2.2.1 < 2147483648) (hce : ce ≤ room_1.cells ∧ sl ≤ room_1.slots) (hS : SE X) (hHS : ∀ k, SE (H k)) (hsz : 0 ≤ sz ∧ sz ≤ 5) (hnx : 0 ≤ nx ∧ nx < 5) (hk : 0 ≤ k ∧ k ≤ 19) (hN : gN (pX X) ≤ k + 6) (hz : 0 ≤ z ∧ z < 2147483648) (hK : LK T M x n d h g b st tx nm L s e p k ce sl) : VV T M 11 [(0, .ref T.2.2.2.2.2.1), (1, .ref (x 0)), (2, iv 1), (3, iv k), (4, iv y), (5, iv z), (6, iv (gN (pX X)))] (List.flatten [[(x 0, ob 4 [.ref (n 6), .ref (d 6), .ref (h 0), .ref (g 0)])], [(n 6, ob 3 [.ref (n 0), iv (pH X), iv (pA X), iv (pS X)])], linE T n (pX X), [(d 6, ob 3 [.ref (d 0), iv (pH Y), iv (pA Y), iv (pS Y)])], linE T d (pX Y), hisE T h b st sz nx H, prgE T g tx nm L s e p]) ce sl 227 [] := by
  have hX : WW X := hS.1
  have hH : ∀ k, WW (H k) := SE_H hHS
  have hn0 := hX.1.1.1
  have hwd := hX.1.1.2.1
  have hHH := hX.1.2.1
  have hAn := hX.an
  have hSb := hX.1.2.2.2.2
  have hSs := hX.2
  have hta := tpF_b hX.1.1 (pA X).toNat
  have htn := tpF_b hX.1.1 (gN (pX X)).toNat
  have hzm : 0 < gN (pX X) → 0 ≤ z % gN (pX X) ∧ z % gN (pX X) < gN (pX X) := fun q => ⟨Int.emod_nonneg _ (by omega), Int.emod_lt_of_pos _ (by omega)⟩
  have hzp : 0 ≤ z % (gN (pX X) + 1) ∧ z % (gN (pX X) + 1) < gN (pX X) + 1 := ⟨Int.emod_nonneg _ (by omega), Int.emod_lt_of_pos _ (by omega)⟩
  refine xr_aload_n hM 1 dL_law_227 rfl rfl ?_
  refine xr_bipush hM dL_law_228 (by decide) ?_
  refine xr_callVG (sg := [[(x 0, ob 4 [.ref (n 6), .ref (d 6), .ref (h 0), .ref (g 0)])], [(n 6, ob 3 [.ref (n 0), iv (pH X), iv (pA X), iv (pS X)])], linE T n (pX X), [(d 6, ob 3 [.ref (d 0), iv (pH Y), iv (pA Y), iv (pS Y)])], linE T d (pX Y), hisE T h b st sz nx H, prgE T g tx nm L s e p]) (sg' := [[(x 0, ob 4 [.ref (n 6), .ref (d 6), .ref (h 0), .ref (g 0)])], [(n 6, ob 3 [.ref (n 0), iv (pH X), iv (pA X), iv (pS X)])], linE T n (pX X), [(d 6, ob 3 [.ref (d 0), iv (pH Y), iv (pA Y), iv (pS Y)])], linE T d (pX Y), hisE T h b st sz nx H, prgE T g tx nm L s e p]) (cs := [[(x 0, ob 4 [.ref (n 6), .ref (d 6), .ref (h 0), .ref (g 0)])], [(n 6, ob 3 [.ref (n 0), iv (pH X), iv (pA X), iv (pS X)])], linE T n (pX X), [(d 6, ob 3 [.ref (d 0), iv (pH Y), iv (pA Y), iv (pS Y)])], linE T d (pX Y), hisE T h b st sz nx H, prgE T g tx nm L s e p]) (cs' := [[(x 0, ob 4 [.ref (n 6), .ref (d 6), .ref (h 0), .ref (g 0)])], [(n 6, ob 3 [.ref (n 0), iv (pH X), iv (pA X), iv (pS X)])], linE T n (pX X), [(d 6, ob 3 [.ref (d 0), iv (pH Y), iv (pA Y), iv (pS Y)])], linE T d (pX Y), hisE T h b st sz nx H, prgE T g tx nm L s e p]) (rest := []) (As := [iv 6]) (st' := [iv (pH X)]) hM (ct_count_6 M.2.1 T x n d h g b st X Y H sz nx tx nm L s e p (hX) (hH) (hst) (hsz) (hnx) (ht)) rfl rfl gL_law_X4_count rfl ⟨rfl, rfl⟩ hy_X4_count rfl ⟨by decide, by decide⟩ [0, 1, 2, 3, 4, 5, 6] rfl rfl rfl 0 4 rfl rfl rfl rfl rfl (Nat.le_of_ble_eq_true rfl) hce rfl dL_law_230 ?_
  have hf230 := (hX).1.2.1
  refine xr_istore (lv' := [(0, .ref T.2.2.2.2.2.1), (1, .ref (x 0)), (2, iv 1), (3, iv k), (4, iv y), (5, iv z), (6, iv (gN (pX X))), (9, iv (pH X))]) hM dL_law_233 (by decide) rfl rfl ?_
  refine xr_aload_n hM 1 dL_law_235 rfl rfl ?_
  refine xr_bipush hM dL_law_236 (by decide) ?_
  refine xr_iload hM 5 dL_law_238 rfl ?_
  refine xr_sipush hM dL_law_240 (by decide) ?_
  refine xr_irem hM dL_law_243 (by omega) ?_
  refine xr_iadd hM dL_law_244 ?_
  refine xr_callVG (sg := [[(x 0, ob 4 [.ref (n 6), .ref (d 6), .ref (h 0), .ref (g 0)])], [(n 6, ob 3 [.ref (n 0), iv (pH X), iv (pA X), iv (pS X)])], linE T n (pX X), [(d 6, ob 3 [.ref (d 0), iv (pH Y), iv (pA Y), iv (pS Y)])], linE T d (pX Y), hisE T h b st sz nx H, prgE T g tx nm L s e p]) (sg' := [[(x 0, ob 4 [.ref (n 6), .ref (d 6), .ref (h 0), .ref (g 0)])], [(n 6, ob 3 [.ref (n 0), iv (pH ((shR X (20 + (z % 400))).2)), iv (pA ((shR X (20 + (z % 400))).2)), iv (pS ((shR X (20 + (z % 400))).2))])], linE T n (pX ((shR X (20 + (z % 400))).2)), [(d 6, ob 3 [.ref (d 0), iv (pH ((shR X (20 + (z % 400))).2)), iv (pA ((shR X (20 + (z % 400))).2)), iv (pS ((shR X (20 + (z % 400))).2))])], linE T d (pX ((shR X (20 + (z % 400))).2)), hisE T h b st (min (sz + 1) 5) ((nx + 1) % 5) (upW H nx X), prgE T g tx nm L s e p]) (cs := [[(x 0, ob 4 [.ref (n 6), .ref (d 6), .ref (h 0), .ref (g 0)])], [(n 6, ob 3 [.ref (n 0), iv (pH X), iv (pA X), iv (pS X)])], linE T n (pX X), [(d 6, ob 3 [.ref (d 0), iv (pH Y), iv (pA Y), iv (pS Y)])], linE T d (pX Y), hisE T h b st sz nx H, prgE T g tx nm L s e p]) (cs' := [[(x 0, ob 4 [.ref (n 6), .ref (d 6), .ref (h 0), .ref (g 0)])], [(n 6, ob 3 [.ref (n 0), iv (pH ((shR X (20 + (z % 400))).2)), iv (pA ((shR X (20 + (z % 400))).2)), iv (pS ((shR X (20 + (z % 400))).2))])], linE T n (pX ((shR X (20 + (z % 400))).2)), [(d 6, ob 3 [.ref (d 0), iv (pH ((shR X (20 + (z % 400))).2)), iv (pA ((shR X (20 + (z % 400))).2)), iv (pS ((shR X (20 + (z % 400))).2))])], linE T d (pX ((shR X (20 + (z % 400))).2)), hisE T h b st (min (sz + 1) 5) ((nx + 1) % 5) (upW H nx X), prgE T g tx nm L s e p]) (rest := []) (As := [iv (20 + (z % 400))]) (st' := [iv (pH X)]) hM (ct_setHeight_ok M.2.1 T x n d h g b st X Y H sz nx tx nm L s e p (20 + (z % 400)) (hX) (hH) (hst) (hsz) (hnx) (ht) (by omega) (hS)) rfl rfl gL_law_X4_setHeight rfl ⟨rfl, rfl⟩ hy_X4_setHeight rfl ⟨by decide, by decide⟩ [0, 1, 2, 3, 4, 5, 6] rfl rfl rfl 0 4 rfl rfl rfl rfl rfl (Nat.le_of_ble_eq_true rfl) hce rfl dL_law_245 ?_
  have hf245 := sh_oE X (20 + (z % 400)) (by omega) (hS)
  have hX1 : WW (shR X (20 + (z % 400))).2 := (SE_sh hS _).1
  have hH1 := WW_up (nx := nx) hH hX
  have hsz1 : 0 ≤ min (sz + 1) 5 ∧ min (sz + 1) 5 ≤ 5 := by omega
  have hnx1 : 0 ≤ (nx + 1) % 5 ∧ (nx + 1) % 5 < 5 := by omega
  refine xr_iload hM 7 dL_law_248 rfl ?_
  refine xr_icmp_ne hM 275 dL_law_250 (by decide) (by omega) (fun c250 => by exfalso; omega) (fun c250 => ?_)
  refine xr_aload_n hM 1 dL_law_253 rfl rfl ?_
  refine xr_bipush hM dL_law_254 (by decide) ?_
  refine xr_callVG (sg := [[(x 0, ob 4 [.ref (n 6), .ref (d 6), .ref (h 0), .ref (g 0)])], [(n 6, ob 3 [.ref (n 0), iv (pH ((shR X (20 + (z % 400))).2)), iv (pA ((shR X (20 + (z % 400))).2)), iv (pS ((shR X (20 + (z % 400))).2))])], linE T n (pX ((shR X (20 + (z % 400))).2)), [(d 6, ob 3 [.ref (d 0), iv (pH ((shR X (20 + (z % 400))).2)), iv (pA ((shR X (20 + (z % 400))).2)), iv (pS ((shR X (20 + (z % 400))).2))])], linE T d (pX ((shR X (20 + (z % 400))).2)), hisE T h b st (min (sz + 1) 5) ((nx + 1) % 5) (upW H nx X), prgE T g tx nm L s e p]) (sg' := [[(x 0, ob 4 [.ref (n 6), .ref (d 6), .ref (h 0), .ref (g 0)])], [(n 6, ob 3 [.ref (n 0), iv (pH ((shR X (20 + (z % 400))).2)), iv (pA ((shR X (20 + (z % 400))).2)), iv (pS ((shR X (20 + (z % 400))).2))])], linE T n (pX ((shR X (20 + (z % 400))).2)), [(d 6, ob 3 [.ref (d 0), iv (pH ((shR X (20 + (z % 400))).2)), iv (pA ((shR X (20 + (z % 400))).2)), iv (pS ((shR X (20 + (z % 400))).2))])], linE T d (pX ((shR X (20 + (z % 400))).2)), hisE T h b st (min (sz + 1) 5) ((nx + 1) % 5) (upW H nx X), prgE T g tx nm L s e p]) (cs := [[(x 0, ob 4 [.ref (n 6), .ref (d 6), .ref (h 0), .ref (g 0)])], [(n 6, ob 3 [.ref (n 0), iv (pH ((shR X (20 + (z % 400))).2)), iv (pA ((shR X (20 + (z % 400))).2)), iv (pS ((shR X (20 + (z % 400))).2))])], linE T n (pX ((shR X (20 + (z % 400))).2)), [(d 6, ob 3 [.ref (d 0), iv (pH ((shR X (20 + (z % 400))).2)), iv (pA ((shR X (20 + (z % 400))).2)), iv (pS ((shR X (20 + (z % 400))).2))])], linE T d (pX ((shR X (20 + (z % 400))).2)), hisE T h b st (min (sz + 1) 5) ((nx + 1) % 5) (upW H nx X), prgE T g tx nm L s e p]) (cs' := [[(x 0, ob 4 [.ref (n 6), .ref (d 6), .ref (h 0), .ref (g 0)])], [(n 6, ob 3 [.ref (n 0), iv (pH ((shR X (20 + (z % 400))).2)), iv (pA ((shR X (20 + (z % 400))).2)), iv (pS ((shR X (20 + (z % 400))).2))])], linE T n (pX ((shR X (20 + (z % 400))).2)), [(d 6, ob 3 [.ref (d 0), iv (pH ((shR X (20 + (z % 400))).2)), iv (pA ((shR X (20 + (z % 400))).2)), iv (pS ((shR X (20 + (z % 400))).2))])], linE T d (pX ((shR X (20 + (z % 400))).2)), hisE T h b st (min (sz + 1) 5) ((nx + 1) % 5) (upW H nx X), prgE T g tx nm L s e p]) (rest := []) (As := [iv 6]) (st' := [iv (pH ((shR X (20 + (z % 400))).2))]) hM (ct_count_6 M.2.1 T x n d h g b st ((shR X (20 + (z % 400))).2) ((shR X (20 + (z % 400))).2) (upW H nx X) (min (sz + 1) 5) ((nx + 1) % 5) tx nm L s e p hX1 hH1 (hst) hsz1 hnx1 (ht)) rfl rfl gL_law_X4_count rfl ⟨rfl, rfl⟩ hy_X4_count rfl ⟨by decide, by decide⟩ [0, 1, 2, 3, 4, 5, 6] rfl rfl rfl 0 4 rfl rfl rfl rfl rfl (Nat.le_of_ble_eq_true rfl) hce rfl dL_law_256 ?_
  have hf256 := hX1.1.2.1
  refine xr_bipush hM dL_law_259 (by decide) ?_
  refine xr_iload hM 5 dL_law_261 rfl ?_
  refine xr_sipush hM dL_law_263 (by decide) ?_
  refine xr_irem hM dL_law_266 (by omega) ?_
  refine xr_iadd hM dL_law_267 ?_
  refine xr_icmp_ne hM 275 dL_law_268 (by decide) (by omega) (fun c268 => by exfalso; omega) (fun c268 => ?_)
  refine xr_iconst hM dL_law_271 ?_
  refine xr_goto hM 276 dL_law_272 (by decide) ?_
  refine xr_istore_n (lv' := [(0, .ref T.2.2.2.2.2.1), (1, .ref (x 0)), (2, iv 1), (3, iv k), (4, iv y), (5, iv z), (6, iv (gN (pX X))), (9, iv (pH X))]) hM dL_law_276 rfl (by decide) rfl rfl ?_
  refine xr_goto hM 491 dL_law_277 (by decide) ?_
  refine xr_pick [0, 1, 2, 3] rfl ?_
  exact hK ((shR X (20 + (z % 400))).2) ((shR X (20 + (z % 400))).2) (upW H nx X) (min (sz + 1) 5) ((nx + 1) % 5) (SE_sh hS _) (SE_up hHS hS) (by omega) (by omega) (by have := (sh_oE X (20 + (z % 400)) (by omega) hS).2.2; omega)

theorem lc_280 {T : TT} {M : MB} {ce sl : Nat} (x n d h g : Nat → Nat) (b : Nat → Nat → Nat) (st : Nat → Option Nat) (X Y : WnS) (H : Nat → WnS) (sz nx : Int) (tx nm : Nat → Int) (L s e p : Int) (k y z : Int) (hM : FM T M cL_law RL 11 wsL_law room_1) (hst : HST b st) (ht : TXI tx L) (hT : T.2.2.2.2.2.2.1 < 2147483648) (hce : ce ≤ room_1.cells ∧ sl ≤ room_1.slots) (hS : SE X) (hHS : ∀ k, SE (H k)) (hsz : 0 ≤ sz ∧ sz ≤ 5) (hnx : 0 ≤ nx ∧ nx < 5) (hk : 0 ≤ k ∧ k ≤ 19) (hN : gN (pX X) ≤ k + 6) (hz : 0 ≤ z ∧ z < 2147483648) (hK : LK T M x n d h g b st tx nm L s e p k ce sl) : VV T M 11 [(0, .ref T.2.2.2.2.2.1), (1, .ref (x 0)), (2, iv 1), (3, iv k), (4, iv y), (5, iv z), (6, iv (gN (pX X)))] (List.flatten [[(x 0, ob 4 [.ref (n 6), .ref (d 6), .ref (h 0), .ref (g 0)])], [(n 6, ob 3 [.ref (n 0), iv (pH X), iv (pA X), iv (pS X)])], linE T n (pX X), [(d 6, ob 3 [.ref (d 0), iv (pH Y), iv (pA Y), iv (pS Y)])], linE T d (pX Y), hisE T h b st sz nx H, prgE T g tx nm L s e p]) ce sl 280 [] := by
  have hX : WW X := hS.1
  have hH : ∀ k, WW (H k) := SE_H hHS
  have hn0 := hX.1.1.1
  have hwd := hX.1.1.2.1
  have hHH := hX.1.2.1
  have hAn := hX.an
  have hSb := hX.1.2.2.2.2
  have hSs := hX.2
  have hta := tpF_b hX.1.1 (pA X).toNat
  have htn := tpF_b hX.1.1 (gN (pX X)).toNat
  have hzm : 0 < gN (pX X) → 0 ≤ z % gN (pX X) ∧ z % gN (pX X) < gN (pX X) := fun q => ⟨Int.emod_nonneg _ (by omega), Int.emod_lt_of_pos _ (by omega)⟩
  have hzp : 0 ≤ z % (gN (pX X) + 1) ∧ z % (gN (pX X) + 1) < gN (pX X) + 1 := ⟨Int.emod_nonneg _ (by omega), Int.emod_lt_of_pos _ (by omega)⟩
  refine xr_aload_n hM 1 dL_law_280 rfl rfl ?_
  refine xr_bipush hM dL_law_281 (by decide) ?_
  refine xr_callVG (sg := [[(x 0, ob 4 [.ref (n 6), .ref (d 6), .ref (h 0), .ref (g 0)])], [(n 6, ob 3 [.ref (n 0), iv (pH X), iv (pA X), iv (pS X)])], linE T n (pX X), [(d 6, ob 3 [.ref (d 0), iv (pH Y), iv (pA Y), iv (pS Y)])], linE T d (pX Y), hisE T h b st sz nx H, prgE T g tx nm L s e p]) (sg' := [[(x 0, ob 4 [.ref (n 6), .ref (d 6), .ref (h 0), .ref (g 0)])], [(n 6, ob 3 [.ref (n 0), iv (pH X), iv (pA X), iv (pS X)])], linE T n (pX X), [(d 6, ob 3 [.ref (d 0), iv (pH Y), iv (pA Y), iv (pS Y)])], linE T d (pX Y), hisE T h b st sz nx H, prgE T g tx nm L s e p]) (cs := [[(x 0, ob 4 [.ref (n 6), .ref (d 6), .ref (h 0), .ref (g 0)])], [(n 6, ob 3 [.ref (n 0), iv (pH X), iv (pA X), iv (pS X)])], linE T n (pX X), [(d 6, ob 3 [.ref (d 0), iv (pH Y), iv (pA Y), iv (pS Y)])], linE T d (pX Y), hisE T h b st sz nx H, prgE T g tx nm L s e p]) (cs' := [[(x 0, ob 4 [.ref (n 6), .ref (d 6), .ref (h 0), .ref (g 0)])], [(n 6, ob 3 [.ref (n 0), iv (pH X), iv (pA X), iv (pS X)])], linE T n (pX X), [(d 6, ob 3 [.ref (d 0), iv (pH Y), iv (pA Y), iv (pS Y)])], linE T d (pX Y), hisE T h b st sz nx H, prgE T g tx nm L s e p]) (rest := []) (As := [iv 7]) (st' := [iv (gW (pX X))]) hM (ct_count_7 M.2.1 T x n d h g b st X Y H sz nx tx nm L s e p (hX) (hH) (hst) (hsz) (hnx) (ht)) rfl rfl gL_law_X4_count rfl ⟨rfl, rfl⟩ hy_X4_count rfl ⟨by decide, by decide⟩ [0, 1, 2, 3, 4, 5, 6] rfl rfl rfl 0 4 rfl rfl rfl rfl rfl (Nat.le_of_ble_eq_true rfl) hce rfl dL_law_283 ?_
  have hf283 := (hX).1.1.2.1
  refine xr_istore (lv' := [(0, .ref T.2.2.2.2.2.1), (1, .ref (x 0)), (2, iv 1), (3, iv k), (4, iv y), (5, iv z), (6, iv (gN (pX X))), (10, iv (gW (pX X)))]) hM dL_law_286 (by decide) rfl rfl ?_
  refine xr_aload_n hM 1 dL_law_288 rfl rfl ?_
  refine xr_iconst hM dL_law_289 ?_
  refine xr_iload hM 5 dL_law_290 rfl ?_
  refine xr_bipush hM dL_law_292 (by decide) ?_
  refine xr_irem hM dL_law_294 (by omega) ?_
  refine xr_iadd hM dL_law_295 ?_
  refine xr_callVG (sg := [[(x 0, ob 4 [.ref (n 6), .ref (d 6), .ref (h 0), .ref (g 0)])], [(n 6, ob 3 [.ref (n 0), iv (pH X), iv (pA X), iv (pS X)])], linE T n (pX X), [(d 6, ob 3 [.ref (d 0), iv (pH Y), iv (pA Y), iv (pS Y)])], linE T d (pX Y), hisE T h b st sz nx H, prgE T g tx nm L s e p]) (sg' := [[(x 0, ob 4 [.ref (n 6), .ref (d 6), .ref (h 0), .ref (g 0)])], [(n 6, ob 3 [.ref (n 0), iv (pH ((swR X (5 + (z % 76))).2)), iv (pA ((swR X (5 + (z % 76))).2)), iv (pS ((swR X (5 + (z % 76))).2))])], linE T n (pX ((swR X (5 + (z % 76))).2)), [(d 6, ob 3 [.ref (d 0), iv (pH ((swR X (5 + (z % 76))).2)), iv (pA ((swR X (5 + (z % 76))).2)), iv (pS ((swR X (5 + (z % 76))).2))])], linE T d (pX ((swR X (5 + (z % 76))).2)), hisE T h b st (min (sz + 1) 5) ((nx + 1) % 5) (upW H nx X), prgE T g tx nm L s e p]) (cs := [[(x 0, ob 4 [.ref (n 6), .ref (d 6), .ref (h 0), .ref (g 0)])], [(n 6, ob 3 [.ref (n 0), iv (pH X), iv (pA X), iv (pS X)])], linE T n (pX X), [(d 6, ob 3 [.ref (d 0), iv (pH Y), iv (pA Y), iv (pS Y)])], linE T d (pX Y), hisE T h b st sz nx H, prgE T g tx nm L s e p]) (cs' := [[(x 0, ob 4 [.ref (n 6), .ref (d 6), .ref (h 0), .ref (g 0)])], [(n 6, ob 3 [.ref (n 0), iv (pH ((swR X (5 + (z % 76))).2)), iv (pA ((swR X (5 + (z % 76))).2)), iv (pS ((swR X (5 + (z % 76))).2))])], linE T n (pX ((swR X (5 + (z % 76))).2)), [(d 6, ob 3 [.ref (d 0), iv (pH ((swR X (5 + (z % 76))).2)), iv (pA ((swR X (5 + (z % 76))).2)), iv (pS ((swR X (5 + (z % 76))).2))])], linE T d (pX ((swR X (5 + (z % 76))).2)), hisE T h b st (min (sz + 1) 5) ((nx + 1) % 5) (upW H nx X), prgE T g tx nm L s e p]) (rest := []) (As := [iv (5 + (z % 76))]) (st' := [iv (gW (pX X))]) hM (ct_setWidth_ok M.2.1 T x n d h g b st X Y H sz nx tx nm L s e p (5 + (z % 76)) (hX) (hH) (hst) (hsz) (hnx) (ht) (by omega) (hS)) rfl rfl gL_law_X4_setWidth rfl ⟨rfl, rfl⟩ hy_X4_setWidth rfl ⟨by decide, by decide⟩ [0, 1, 2, 3, 4, 5, 6] rfl rfl rfl 0 4 rfl rfl rfl rfl rfl (Nat.le_of_ble_eq_true rfl) hce rfl dL_law_296 ?_
  have hf296 := sw_oE X (5 + (z % 76)) (by omega) (hS)
  have hX1 : WW (swR X (5 + (z % 76))).2 := (SE_sw hS _).1
  have hH1 := WW_up (nx := nx) hH hX
  have hsz1 : 0 ≤ min (sz + 1) 5 ∧ min (sz + 1) 5 ≤ 5 := by omega
  have hnx1 : 0 ≤ (nx + 1) % 5 ∧ (nx + 1) % 5 < 5 := by omega
  refine xr_iload hM 7 dL_law_299 rfl ?_
  refine xr_icmp_ne hM 324 dL_law_301 (by decide) (by omega) (fun c301 => by exfalso; omega) (fun c301 => ?_)
  refine xr_aload_n hM 1 dL_law_304 rfl rfl ?_
  refine xr_bipush hM dL_law_305 (by decide) ?_
  refine xr_callVG (sg := [[(x 0, ob 4 [.ref (n 6), .ref (d 6), .ref (h 0), .ref (g 0)])], [(n 6, ob 3 [.ref (n 0), iv (pH ((swR X (5 + (z % 76))).2)), iv (pA ((swR X (5 + (z % 76))).2)), iv (pS ((swR X (5 + (z % 76))).2))])], linE T n (pX ((swR X (5 + (z % 76))).2)), [(d 6, ob 3 [.ref (d 0), iv (pH ((swR X (5 + (z % 76))).2)), iv (pA ((swR X (5 + (z % 76))).2)), iv (pS ((swR X (5 + (z % 76))).2))])], linE T d (pX ((swR X (5 + (z % 76))).2)), hisE T h b st (min (sz + 1) 5) ((nx + 1) % 5) (upW H nx X), prgE T g tx nm L s e p]) (sg' := [[(x 0, ob 4 [.ref (n 6), .ref (d 6), .ref (h 0), .ref (g 0)])], [(n 6, ob 3 [.ref (n 0), iv (pH ((swR X (5 + (z % 76))).2)), iv (pA ((swR X (5 + (z % 76))).2)), iv (pS ((swR X (5 + (z % 76))).2))])], linE T n (pX ((swR X (5 + (z % 76))).2)), [(d 6, ob 3 [.ref (d 0), iv (pH ((swR X (5 + (z % 76))).2)), iv (pA ((swR X (5 + (z % 76))).2)), iv (pS ((swR X (5 + (z % 76))).2))])], linE T d (pX ((swR X (5 + (z % 76))).2)), hisE T h b st (min (sz + 1) 5) ((nx + 1) % 5) (upW H nx X), prgE T g tx nm L s e p]) (cs := [[(x 0, ob 4 [.ref (n 6), .ref (d 6), .ref (h 0), .ref (g 0)])], [(n 6, ob 3 [.ref (n 0), iv (pH ((swR X (5 + (z % 76))).2)), iv (pA ((swR X (5 + (z % 76))).2)), iv (pS ((swR X (5 + (z % 76))).2))])], linE T n (pX ((swR X (5 + (z % 76))).2)), [(d 6, ob 3 [.ref (d 0), iv (pH ((swR X (5 + (z % 76))).2)), iv (pA ((swR X (5 + (z % 76))).2)), iv (pS ((swR X (5 + (z % 76))).2))])], linE T d (pX ((swR X (5 + (z % 76))).2)), hisE T h b st (min (sz + 1) 5) ((nx + 1) % 5) (upW H nx X), prgE T g tx nm L s e p]) (cs' := [[(x 0, ob 4 [.ref (n 6), .ref (d 6), .ref (h 0), .ref (g 0)])], [(n 6, ob 3 [.ref (n 0), iv (pH ((swR X (5 + (z % 76))).2)), iv (pA ((swR X (5 + (z % 76))).2)), iv (pS ((swR X (5 + (z % 76))).2))])], linE T n (pX ((swR X (5 + (z % 76))).2)), [(d 6, ob 3 [.ref (d 0), iv (pH ((swR X (5 + (z % 76))).2)), iv (pA ((swR X (5 + (z % 76))).2)), iv (pS ((swR X (5 + (z % 76))).2))])], linE T d (pX ((swR X (5 + (z % 76))).2)), hisE T h b st (min (sz + 1) 5) ((nx + 1) % 5) (upW H nx X), prgE T g tx nm L s e p]) (rest := []) (As := [iv 7]) (st' := [iv (gW (pX ((swR X (5 + (z % 76))).2)))]) hM (ct_count_7 M.2.1 T x n d h g b st ((swR X (5 + (z % 76))).2) ((swR X (5 + (z % 76))).2) (upW H nx X) (min (sz + 1) 5) ((nx + 1) % 5) tx nm L s e p hX1 hH1 (hst) hsz1 hnx1 (ht)) rfl rfl gL_law_X4_count rfl ⟨rfl, rfl⟩ hy_X4_count rfl ⟨by decide, by decide⟩ [0, 1, 2, 3, 4, 5, 6] rfl rfl rfl 0 4 rfl rfl rfl rfl rfl (Nat.le_of_ble_eq_true rfl) hce rfl dL_law_307 ?_
  have hf307 := hX1.1.1.2.1
  refine xr_iconst hM dL_law_310 ?_
  refine xr_iload hM 5 dL_law_311 rfl ?_
  refine xr_bipush hM dL_law_313 (by decide) ?_
  refine xr_irem hM dL_law_315 (by omega) ?_
  refine xr_iadd hM dL_law_316 ?_
  refine xr_icmp_ne hM 324 dL_law_317 (by decide) (by omega) (fun c317 => by exfalso; omega) (fun c317 => ?_)
  refine xr_iconst hM dL_law_320 ?_
  refine xr_goto hM 325 dL_law_321 (by decide) ?_
  refine xr_istore_n (lv' := [(0, .ref T.2.2.2.2.2.1), (1, .ref (x 0)), (2, iv 1), (3, iv k), (4, iv y), (5, iv z), (6, iv (gN (pX X))), (10, iv (gW (pX X)))]) hM dL_law_325 rfl (by decide) rfl rfl ?_
  refine xr_goto hM 491 dL_law_326 (by decide) ?_
  refine xr_pick [0, 1, 2, 3] rfl ?_
  exact hK ((swR X (5 + (z % 76))).2) ((swR X (5 + (z % 76))).2) (upW H nx X) (min (sz + 1) 5) ((nx + 1) % 5) (SE_sw hS _) (SE_up hHS hS) (by omega) (by omega) (by have := (sw_oE X (5 + (z % 76)) (by omega) hS).2.2; omega)

theorem lc_329 {T : TT} {M : MB} {ce sl : Nat} (x n d h g : Nat → Nat) (b : Nat → Nat → Nat) (st : Nat → Option Nat) (X Y : WnS) (H : Nat → WnS) (sz nx : Int) (tx nm : Nat → Int) (L s e p : Int) (k y z : Int) (hM : FM T M cL_law RL 11 wsL_law room_1) (hst : HST b st) (ht : TXI tx L) (hT : T.2.2.2.2.2.2.1 < 2147483648) (hce : ce ≤ room_1.cells ∧ sl ≤ room_1.slots) (hS : SE X) (hHS : ∀ k, SE (H k)) (hsz : 0 ≤ sz ∧ sz ≤ 5) (hnx : 0 ≤ nx ∧ nx < 5) (hk : 0 ≤ k ∧ k ≤ 19) (hN : gN (pX X) ≤ k + 6) (hz : 0 ≤ z ∧ z < 2147483648) (hK : LK T M x n d h g b st tx nm L s e p k ce sl) : VV T M 11 [(0, .ref T.2.2.2.2.2.1), (1, .ref (x 0)), (2, iv 1), (3, iv k), (4, iv y), (5, iv z), (6, iv (gN (pX X)))] (List.flatten [[(x 0, ob 4 [.ref (n 6), .ref (d 6), .ref (h 0), .ref (g 0)])], [(n 6, ob 3 [.ref (n 0), iv (pH X), iv (pA X), iv (pS X)])], linE T n (pX X), [(d 6, ob 3 [.ref (d 0), iv (pH Y), iv (pA Y), iv (pS Y)])], linE T d (pX Y), hisE T h b st sz nx H, prgE T g tx nm L s e p]) ce sl 329 [] := by
  have hX : WW X := hS.1
  have hH : ∀ k, WW (H k) := SE_H hHS
  have hn0 := hX.1.1.1
  have hwd := hX.1.1.2.1
  have hHH := hX.1.2.1
  have hAn := hX.an
  have hSb := hX.1.2.2.2.2
  have hSs := hX.2
  have hta := tpF_b hX.1.1 (pA X).toNat
  have htn := tpF_b hX.1.1 (gN (pX X)).toNat
  have hzm : 0 < gN (pX X) → 0 ≤ z % gN (pX X) ∧ z % gN (pX X) < gN (pX X) := fun q => ⟨Int.emod_nonneg _ (by omega), Int.emod_lt_of_pos _ (by omega)⟩
  have hzp : 0 ≤ z % (gN (pX X) + 1) ∧ z % (gN (pX X) + 1) < gN (pX X) + 1 := ⟨Int.emod_nonneg _ (by omega), Int.emod_lt_of_pos _ (by omega)⟩
  refine xr_iload hM 6 dL_law_329 rfl ?_
  refine xr_if_eq hM 356 dL_law_331 (by decide) (by omega) (fun c331 => ?_) (fun c331 => ?_)
  · refine xr_iconst hM dL_law_356 ?_
    refine xr_goto hM 361 dL_law_357 (by decide) ?_
    refine xr_istore_n (lv' := [(0, .ref T.2.2.2.2.2.1), (1, .ref (x 0)), (2, iv 1), (3, iv k), (4, iv y), (5, iv z), (6, iv (gN (pX X)))]) hM dL_law_361 rfl (by decide) rfl rfl ?_
    refine xr_goto hM 491 dL_law_362 (by decide) ?_
    refine xr_pick [0, 1, 2, 3] rfl ?_
    exact hK X Y H sz nx (hS) (hHS) (hsz) (hnx) (by omega)
  · refine xr_aload_n hM 1 dL_law_334 rfl rfl ?_
    refine xr_iload hM 5 dL_law_335 rfl ?_
    refine xr_sipush hM dL_law_337 (by decide) ?_
    refine xr_irem hM dL_law_340 (by omega) ?_
    refine xr_sipush hM dL_law_341 (by decide) ?_
    refine xr_isub hM dL_law_344 ?_
    refine xr_callVG (sg := [[(x 0, ob 4 [.ref (n 6), .ref (d 6), .ref (h 0), .ref (g 0)])], [(n 6, ob 3 [.ref (n 0), iv (pH X), iv (pA X), iv (pS X)])], linE T n (pX X), [(d 6, ob 3 [.ref (d 0), iv (pH Y), iv (pA Y), iv (pS Y)])], linE T d (pX Y), hisE T h b st sz nx H, prgE T g tx nm L s e p]) (sg' := [[(x 0, ob 4 [.ref (n 6), .ref (d 6), .ref (h 0), .ref (g 0)])], [(n 6, ob 3 [.ref (n 0), iv (pH ((mbR X ((z % 601) - 300)).2)), iv (pA ((mbR X ((z % 601) - 300)).2)), iv (pS ((mbR X ((z % 601) - 300)).2))])], linE T n (pX ((mbR X ((z % 601) - 300)).2)), [(d 6, ob 3 [.ref (d 0), iv (pH ((mbR X ((z % 601) - 300)).2)), iv (pA ((mbR X ((z % 601) - 300)).2)), iv (pS ((mbR X ((z % 601) - 300)).2))])], linE T d (pX ((mbR X ((z % 601) - 300)).2)), hisE T h b st (min (sz + 1) 5) ((nx + 1) % 5) (upW H nx X), prgE T g tx nm L s e p]) (cs := [[(x 0, ob 4 [.ref (n 6), .ref (d 6), .ref (h 0), .ref (g 0)])], [(n 6, ob 3 [.ref (n 0), iv (pH X), iv (pA X), iv (pS X)])], linE T n (pX X), [(d 6, ob 3 [.ref (d 0), iv (pH Y), iv (pA Y), iv (pS Y)])], linE T d (pX Y), hisE T h b st sz nx H, prgE T g tx nm L s e p]) (cs' := [[(x 0, ob 4 [.ref (n 6), .ref (d 6), .ref (h 0), .ref (g 0)])], [(n 6, ob 3 [.ref (n 0), iv (pH ((mbR X ((z % 601) - 300)).2)), iv (pA ((mbR X ((z % 601) - 300)).2)), iv (pS ((mbR X ((z % 601) - 300)).2))])], linE T n (pX ((mbR X ((z % 601) - 300)).2)), [(d 6, ob 3 [.ref (d 0), iv (pH ((mbR X ((z % 601) - 300)).2)), iv (pA ((mbR X ((z % 601) - 300)).2)), iv (pS ((mbR X ((z % 601) - 300)).2))])], linE T d (pX ((mbR X ((z % 601) - 300)).2)), hisE T h b st (min (sz + 1) 5) ((nx + 1) % 5) (upW H nx X), prgE T g tx nm L s e p]) (rest := []) (As := [iv ((z % 601) - 300)]) (st' := [iv (pA (mbR X ((z % 601) - 300)).2)]) hM (ct_scroll_ok M.2.1 T x n d h g b st X Y H sz nx tx nm L s e p ((z % 601) - 300) (hX) (hH) (hst) (hsz) (hnx) (ht) (by omega) (by omega) (hS)) rfl rfl gL_law_X4_scroll rfl ⟨rfl, rfl⟩ hy_X4_scroll rfl ⟨by decide, by decide⟩ [0, 1, 2, 3, 4, 5, 6] rfl rfl rfl 0 4 rfl rfl rfl rfl rfl (Nat.le_of_ble_eq_true rfl) hce rfl dL_law_345 ?_
    have hf345 := mbR_N (hX) ((z % 601) - 300)
    have hX1 : WW (mbR X (z % 601 - 300)).2 := (SE_mb hS _).1
    have hH1 := WW_up (nx := nx) hH hX
    have hsz1 : 0 ≤ min (sz + 1) 5 ∧ min (sz + 1) 5 ≤ 5 := by omega
    have hnx1 : 0 ≤ (nx + 1) % 5 ∧ (nx + 1) % 5 < 5 := by omega
    have hn1 : ¬ gN (pX (mbR X (z % 601 - 300)).2) = 0 := by have := mbR_N hX (z % 601 - 300); omega
    refine xr_aload_n hM 1 dL_law_348 rfl rfl ?_
    refine xr_iconst hM dL_law_349 ?_
    refine xr_callVG (sg := [[(x 0, ob 4 [.ref (n 6), .ref (d 6), .ref (h 0), .ref (g 0)])], [(n 6, ob 3 [.ref (n 0), iv (pH ((mbR X ((z % 601) - 300)).2)), iv (pA ((mbR X ((z % 601) - 300)).2)), iv (pS ((mbR X ((z % 601) - 300)).2))])], linE T n (pX ((mbR X ((z % 601) - 300)).2)), [(d 6, ob 3 [.ref (d 0), iv (pH ((mbR X ((z % 601) - 300)).2)), iv (pA ((mbR X ((z % 601) - 300)).2)), iv (pS ((mbR X ((z % 601) - 300)).2))])], linE T d (pX ((mbR X ((z % 601) - 300)).2)), hisE T h b st (min (sz + 1) 5) ((nx + 1) % 5) (upW H nx X), prgE T g tx nm L s e p]) (sg' := [[(x 0, ob 4 [.ref (n 6), .ref (d 6), .ref (h 0), .ref (g 0)])], [(n 6, ob 3 [.ref (n 0), iv (pH ((mbR X ((z % 601) - 300)).2)), iv (pA ((mbR X ((z % 601) - 300)).2)), iv (pS ((mbR X ((z % 601) - 300)).2))])], linE T n (pX ((mbR X ((z % 601) - 300)).2)), [(d 6, ob 3 [.ref (d 0), iv (pH ((mbR X ((z % 601) - 300)).2)), iv (pA ((mbR X ((z % 601) - 300)).2)), iv (pS ((mbR X ((z % 601) - 300)).2))])], linE T d (pX ((mbR X ((z % 601) - 300)).2)), hisE T h b st (min (sz + 1) 5) ((nx + 1) % 5) (upW H nx X), prgE T g tx nm L s e p]) (cs := [[(x 0, ob 4 [.ref (n 6), .ref (d 6), .ref (h 0), .ref (g 0)])], [(n 6, ob 3 [.ref (n 0), iv (pH ((mbR X ((z % 601) - 300)).2)), iv (pA ((mbR X ((z % 601) - 300)).2)), iv (pS ((mbR X ((z % 601) - 300)).2))])], linE T n (pX ((mbR X ((z % 601) - 300)).2)), [(d 6, ob 3 [.ref (d 0), iv (pH ((mbR X ((z % 601) - 300)).2)), iv (pA ((mbR X ((z % 601) - 300)).2)), iv (pS ((mbR X ((z % 601) - 300)).2))])], linE T d (pX ((mbR X ((z % 601) - 300)).2)), hisE T h b st (min (sz + 1) 5) ((nx + 1) % 5) (upW H nx X), prgE T g tx nm L s e p]) (cs' := [[(x 0, ob 4 [.ref (n 6), .ref (d 6), .ref (h 0), .ref (g 0)])], [(n 6, ob 3 [.ref (n 0), iv (pH ((mbR X ((z % 601) - 300)).2)), iv (pA ((mbR X ((z % 601) - 300)).2)), iv (pS ((mbR X ((z % 601) - 300)).2))])], linE T n (pX ((mbR X ((z % 601) - 300)).2)), [(d 6, ob 3 [.ref (d 0), iv (pH ((mbR X ((z % 601) - 300)).2)), iv (pA ((mbR X ((z % 601) - 300)).2)), iv (pS ((mbR X ((z % 601) - 300)).2))])], linE T d (pX ((mbR X ((z % 601) - 300)).2)), hisE T h b st (min (sz + 1) 5) ((nx + 1) % 5) (upW H nx X), prgE T g tx nm L s e p]) (rest := [iv (pA (mbR X ((z % 601) - 300)).2)]) (As := [iv 2]) (st' := [iv (pA ((mbR X ((z % 601) - 300)).2)), iv (pA (mbR X ((z % 601) - 300)).2)]) hM (ct_count_2 M.2.1 T x n d h g b st ((mbR X ((z % 601) - 300)).2) ((mbR X ((z % 601) - 300)).2) (upW H nx X) (min (sz + 1) 5) ((nx + 1) % 5) tx nm L s e p hX1 hH1 (hst) hsz1 hnx1 (ht) hn1) rfl rfl gL_law_X4_count rfl ⟨rfl, rfl⟩ hy_X4_count rfl ⟨by decide, by decide⟩ [0, 1, 2, 3, 4, 5, 6] rfl rfl rfl 0 4 rfl rfl rfl rfl rfl (Nat.le_of_ble_eq_true rfl) hce rfl dL_law_350 ?_
    have hf350 := hX1.an
    have hf350_1 := hX1.1.1.1
    have hf350_2 := hX1.1.2.2.2.2
    have hf350_3 := hX1.2
    refine xr_icmp_ne hM 360 dL_law_353 (by decide) (by omega) (fun c353 => by exfalso; omega) (fun c353 => ?_)
    refine xr_iconst hM dL_law_356 ?_
    refine xr_goto hM 361 dL_law_357 (by decide) ?_
    refine xr_istore_n (lv' := [(0, .ref T.2.2.2.2.2.1), (1, .ref (x 0)), (2, iv 1), (3, iv k), (4, iv y), (5, iv z), (6, iv (gN (pX X)))]) hM dL_law_361 rfl (by decide) rfl rfl ?_
    refine xr_goto hM 491 dL_law_362 (by decide) ?_
    refine xr_pick [0, 1, 2, 3] rfl ?_
    exact hK ((mbR X ((z % 601) - 300)).2) ((mbR X ((z % 601) - 300)).2) (upW H nx X) (min (sz + 1) 5) ((nx + 1) % 5) (SE_mb hS _) (SE_up hHS hS) (by omega) (by omega) (by have := mbR_N hX (z % 601 - 300); omega)

theorem lc_365 {T : TT} {M : MB} {ce sl : Nat} (x n d h g : Nat → Nat) (b : Nat → Nat → Nat) (st : Nat → Option Nat) (X Y : WnS) (H : Nat → WnS) (sz nx : Int) (tx nm : Nat → Int) (L s e p : Int) (k y z : Int) (hM : FM T M cL_law RL 11 wsL_law room_1) (hst : HST b st) (ht : TXI tx L) (hT : T.2.2.2.2.2.2.1 < 2147483648) (hce : ce ≤ room_1.cells ∧ sl ≤ room_1.slots) (hS : SE X) (hHS : ∀ k, SE (H k)) (hsz : 0 ≤ sz ∧ sz ≤ 5) (hnx : 0 ≤ nx ∧ nx < 5) (hk : 0 ≤ k ∧ k ≤ 19) (hN : gN (pX X) ≤ k + 6) (hz : 0 ≤ z ∧ z < 2147483648) (hK : LK T M x n d h g b st tx nm L s e p k ce sl) : VV T M 11 [(0, .ref T.2.2.2.2.2.1), (1, .ref (x 0)), (2, iv 1), (3, iv k), (4, iv y), (5, iv z), (6, iv (gN (pX X)))] (List.flatten [[(x 0, ob 4 [.ref (n 6), .ref (d 6), .ref (h 0), .ref (g 0)])], [(n 6, ob 3 [.ref (n 0), iv (pH X), iv (pA X), iv (pS X)])], linE T n (pX X), [(d 6, ob 3 [.ref (d 0), iv (pH Y), iv (pA Y), iv (pS Y)])], linE T d (pX Y), hisE T h b st sz nx H, prgE T g tx nm L s e p]) ce sl 365 [] := by
  have hX : WW X := hS.1
  have hH : ∀ k, WW (H k) := SE_H hHS
  have hn0 := hX.1.1.1
  have hwd := hX.1.1.2.1
  have hHH := hX.1.2.1
  have hAn := hX.an
  have hSb := hX.1.2.2.2.2
  have hSs := hX.2
  have hta := tpF_b hX.1.1 (pA X).toNat
  have htn := tpF_b hX.1.1 (gN (pX X)).toNat
  have hzm : 0 < gN (pX X) → 0 ≤ z % gN (pX X) ∧ z % gN (pX X) < gN (pX X) := fun q => ⟨Int.emod_nonneg _ (by omega), Int.emod_lt_of_pos _ (by omega)⟩
  have hzp : 0 ≤ z % (gN (pX X) + 1) ∧ z % (gN (pX X) + 1) < gN (pX X) + 1 := ⟨Int.emod_nonneg _ (by omega), Int.emod_lt_of_pos _ (by omega)⟩
  refine xr_iload hM 6 dL_law_365 rfl ?_
  refine xr_if_eq hM 388 dL_law_367 (by decide) (by omega) (fun c367 => ?_) (fun c367 => ?_)
  · refine xr_iconst hM dL_law_388 ?_
    refine xr_goto hM 393 dL_law_389 (by decide) ?_
    refine xr_istore_n (lv' := [(0, .ref T.2.2.2.2.2.1), (1, .ref (x 0)), (2, iv 1), (3, iv k), (4, iv y), (5, iv z), (6, iv (gN (pX X)))]) hM dL_law_393 rfl (by decide) rfl rfl ?_
    refine xr_goto hM 491 dL_law_394 (by decide) ?_
    refine xr_pick [0, 1, 2, 3] rfl ?_
    exact hK X Y H sz nx (hS) (hHS) (hsz) (hnx) (by omega)
  · refine xr_aload_n hM 1 dL_law_370 rfl rfl ?_
    refine xr_iload hM 5 dL_law_371 rfl ?_
    refine xr_sipush hM dL_law_373 (by decide) ?_
    refine xr_irem hM dL_law_376 (by omega) ?_
    refine xr_callVG (sg := [[(x 0, ob 4 [.ref (n 6), .ref (d 6), .ref (h 0), .ref (g 0)])], [(n 6, ob 3 [.ref (n 0), iv (pH X), iv (pA X), iv (pS X)])], linE T n (pX X), [(d 6, ob 3 [.ref (d 0), iv (pH Y), iv (pA Y), iv (pS Y)])], linE T d (pX Y), hisE T h b st sz nx H, prgE T g tx nm L s e p]) (sg' := [[(x 0, ob 4 [.ref (n 6), .ref (d 6), .ref (h 0), .ref (g 0)])], [(n 6, ob 3 [.ref (n 0), iv (pH ((msR X (z % 1001)).2)), iv (pA ((msR X (z % 1001)).2)), iv (pS ((msR X (z % 1001)).2))])], linE T n (pX ((msR X (z % 1001)).2)), [(d 6, ob 3 [.ref (d 0), iv (pH ((msR X (z % 1001)).2)), iv (pA ((msR X (z % 1001)).2)), iv (pS ((msR X (z % 1001)).2))])], linE T d (pX ((msR X (z % 1001)).2)), hisE T h b st (min (sz + 1) 5) ((nx + 1) % 5) (upW H nx X), prgE T g tx nm L s e p]) (cs := [[(x 0, ob 4 [.ref (n 6), .ref (d 6), .ref (h 0), .ref (g 0)])], [(n 6, ob 3 [.ref (n 0), iv (pH X), iv (pA X), iv (pS X)])], linE T n (pX X), [(d 6, ob 3 [.ref (d 0), iv (pH Y), iv (pA Y), iv (pS Y)])], linE T d (pX Y), hisE T h b st sz nx H, prgE T g tx nm L s e p]) (cs' := [[(x 0, ob 4 [.ref (n 6), .ref (d 6), .ref (h 0), .ref (g 0)])], [(n 6, ob 3 [.ref (n 0), iv (pH ((msR X (z % 1001)).2)), iv (pA ((msR X (z % 1001)).2)), iv (pS ((msR X (z % 1001)).2))])], linE T n (pX ((msR X (z % 1001)).2)), [(d 6, ob 3 [.ref (d 0), iv (pH ((msR X (z % 1001)).2)), iv (pA ((msR X (z % 1001)).2)), iv (pS ((msR X (z % 1001)).2))])], linE T d (pX ((msR X (z % 1001)).2)), hisE T h b st (min (sz + 1) 5) ((nx + 1) % 5) (upW H nx X), prgE T g tx nm L s e p]) (rest := []) (As := [iv (z % 1001)]) (st' := [iv (pA (msR X (z % 1001)).2)]) hM (ct_jump_ok M.2.1 T x n d h g b st X Y H sz nx tx nm L s e p (z % 1001) (hX) (hH) (hst) (hsz) (hnx) (ht) (by omega) (by omega) (hS)) rfl rfl gL_law_X4_jump rfl ⟨rfl, rfl⟩ hy_X4_jump rfl ⟨by decide, by decide⟩ [0, 1, 2, 3, 4, 5, 6] rfl rfl rfl 0 4 rfl rfl rfl rfl rfl (Nat.le_of_ble_eq_true rfl) hce rfl dL_law_377 ?_
    have hf377 := msR_N (hX) (z % 1001)
    have hX1 : WW (msR X (z % 1001)).2 := (SE_ms hS _).1
    have hH1 := WW_up (nx := nx) hH hX
    have hsz1 : 0 ≤ min (sz + 1) 5 ∧ min (sz + 1) 5 ≤ 5 := by omega
    have hnx1 : 0 ≤ (nx + 1) % 5 ∧ (nx + 1) % 5 < 5 := by omega
    have hn1 : ¬ gN (pX (msR X (z % 1001)).2) = 0 := by have := msR_N hX (z % 1001); omega
    refine xr_aload_n hM 1 dL_law_380 rfl rfl ?_
    refine xr_iconst hM dL_law_381 ?_
    refine xr_callVG (sg := [[(x 0, ob 4 [.ref (n 6), .ref (d 6), .ref (h 0), .ref (g 0)])], [(n 6, ob 3 [.ref (n 0), iv (pH ((msR X (z % 1001)).2)), iv (pA ((msR X (z % 1001)).2)), iv (pS ((msR X (z % 1001)).2))])], linE T n (pX ((msR X (z % 1001)).2)), [(d 6, ob 3 [.ref (d 0), iv (pH ((msR X (z % 1001)).2)), iv (pA ((msR X (z % 1001)).2)), iv (pS ((msR X (z % 1001)).2))])], linE T d (pX ((msR X (z % 1001)).2)), hisE T h b st (min (sz + 1) 5) ((nx + 1) % 5) (upW H nx X), prgE T g tx nm L s e p]) (sg' := [[(x 0, ob 4 [.ref (n 6), .ref (d 6), .ref (h 0), .ref (g 0)])], [(n 6, ob 3 [.ref (n 0), iv (pH ((msR X (z % 1001)).2)), iv (pA ((msR X (z % 1001)).2)), iv (pS ((msR X (z % 1001)).2))])], linE T n (pX ((msR X (z % 1001)).2)), [(d 6, ob 3 [.ref (d 0), iv (pH ((msR X (z % 1001)).2)), iv (pA ((msR X (z % 1001)).2)), iv (pS ((msR X (z % 1001)).2))])], linE T d (pX ((msR X (z % 1001)).2)), hisE T h b st (min (sz + 1) 5) ((nx + 1) % 5) (upW H nx X), prgE T g tx nm L s e p]) (cs := [[(x 0, ob 4 [.ref (n 6), .ref (d 6), .ref (h 0), .ref (g 0)])], [(n 6, ob 3 [.ref (n 0), iv (pH ((msR X (z % 1001)).2)), iv (pA ((msR X (z % 1001)).2)), iv (pS ((msR X (z % 1001)).2))])], linE T n (pX ((msR X (z % 1001)).2)), [(d 6, ob 3 [.ref (d 0), iv (pH ((msR X (z % 1001)).2)), iv (pA ((msR X (z % 1001)).2)), iv (pS ((msR X (z % 1001)).2))])], linE T d (pX ((msR X (z % 1001)).2)), hisE T h b st (min (sz + 1) 5) ((nx + 1) % 5) (upW H nx X), prgE T g tx nm L s e p]) (cs' := [[(x 0, ob 4 [.ref (n 6), .ref (d 6), .ref (h 0), .ref (g 0)])], [(n 6, ob 3 [.ref (n 0), iv (pH ((msR X (z % 1001)).2)), iv (pA ((msR X (z % 1001)).2)), iv (pS ((msR X (z % 1001)).2))])], linE T n (pX ((msR X (z % 1001)).2)), [(d 6, ob 3 [.ref (d 0), iv (pH ((msR X (z % 1001)).2)), iv (pA ((msR X (z % 1001)).2)), iv (pS ((msR X (z % 1001)).2))])], linE T d (pX ((msR X (z % 1001)).2)), hisE T h b st (min (sz + 1) 5) ((nx + 1) % 5) (upW H nx X), prgE T g tx nm L s e p]) (rest := [iv (pA (msR X (z % 1001)).2)]) (As := [iv 2]) (st' := [iv (pA ((msR X (z % 1001)).2)), iv (pA (msR X (z % 1001)).2)]) hM (ct_count_2 M.2.1 T x n d h g b st ((msR X (z % 1001)).2) ((msR X (z % 1001)).2) (upW H nx X) (min (sz + 1) 5) ((nx + 1) % 5) tx nm L s e p hX1 hH1 (hst) hsz1 hnx1 (ht) hn1) rfl rfl gL_law_X4_count rfl ⟨rfl, rfl⟩ hy_X4_count rfl ⟨by decide, by decide⟩ [0, 1, 2, 3, 4, 5, 6] rfl rfl rfl 0 4 rfl rfl rfl rfl rfl (Nat.le_of_ble_eq_true rfl) hce rfl dL_law_382 ?_
    have hf382 := hX1.an
    have hf382_1 := hX1.1.1.1
    have hf382_2 := hX1.1.2.2.2.2
    have hf382_3 := hX1.2
    refine xr_icmp_ne hM 392 dL_law_385 (by decide) (by omega) (fun c385 => by exfalso; omega) (fun c385 => ?_)
    refine xr_iconst hM dL_law_388 ?_
    refine xr_goto hM 393 dL_law_389 (by decide) ?_
    refine xr_istore_n (lv' := [(0, .ref T.2.2.2.2.2.1), (1, .ref (x 0)), (2, iv 1), (3, iv k), (4, iv y), (5, iv z), (6, iv (gN (pX X)))]) hM dL_law_393 rfl (by decide) rfl rfl ?_
    refine xr_goto hM 491 dL_law_394 (by decide) ?_
    refine xr_pick [0, 1, 2, 3] rfl ?_
    exact hK ((msR X (z % 1001)).2) ((msR X (z % 1001)).2) (upW H nx X) (min (sz + 1) 5) ((nx + 1) % 5) (SE_ms hS _) (SE_up hHS hS) (by omega) (by omega) (by have := msR_N hX (z % 1001); omega)

theorem lc_397 {T : TT} {M : MB} {ce sl : Nat} (x n d h g : Nat → Nat) (b : Nat → Nat → Nat) (st : Nat → Option Nat) (X Y : WnS) (H : Nat → WnS) (sz nx : Int) (tx nm : Nat → Int) (L s e p : Int) (k y z : Int) (hM : FM T M cL_law RL 11 wsL_law room_1) (hst : HST b st) (ht : TXI tx L) (hT : T.2.2.2.2.2.2.1 < 2147483648) (hce : ce ≤ room_1.cells ∧ sl ≤ room_1.slots) (hS : SE X) (hHS : ∀ k, SE (H k)) (hsz : 0 ≤ sz ∧ sz ≤ 5) (hnx : 0 ≤ nx ∧ nx < 5) (hk : 0 ≤ k ∧ k ≤ 19) (hN : gN (pX X) ≤ k + 6) (hz : 0 ≤ z ∧ z < 2147483648) (hK : LK T M x n d h g b st tx nm L s e p k ce sl) : VV T M 11 [(0, .ref T.2.2.2.2.2.1), (1, .ref (x 0)), (2, iv 1), (3, iv k), (4, iv y), (5, iv z), (6, iv (gN (pX X)))] (List.flatten [[(x 0, ob 4 [.ref (n 6), .ref (d 6), .ref (h 0), .ref (g 0)])], [(n 6, ob 3 [.ref (n 0), iv (pH X), iv (pA X), iv (pS X)])], linE T n (pX X), [(d 6, ob 3 [.ref (d 0), iv (pH Y), iv (pA Y), iv (pS Y)])], linE T d (pX Y), hisE T h b st sz nx H, prgE T g tx nm L s e p]) ce sl 397 [] := by
  have hX : WW X := hS.1
  have hH : ∀ k, WW (H k) := SE_H hHS
  have hn0 := hX.1.1.1
  have hwd := hX.1.1.2.1
  have hHH := hX.1.2.1
  have hAn := hX.an
  have hSb := hX.1.2.2.2.2
  have hSs := hX.2
  have hta := tpF_b hX.1.1 (pA X).toNat
  have htn := tpF_b hX.1.1 (gN (pX X)).toNat
  have hzm : 0 < gN (pX X) → 0 ≤ z % gN (pX X) ∧ z % gN (pX X) < gN (pX X) := fun q => ⟨Int.emod_nonneg _ (by omega), Int.emod_lt_of_pos _ (by omega)⟩
  have hzp : 0 ≤ z % (gN (pX X) + 1) ∧ z % (gN (pX X) + 1) < gN (pX X) + 1 := ⟨Int.emod_nonneg _ (by omega), Int.emod_lt_of_pos _ (by omega)⟩
  refine xr_iload hM 6 dL_law_397 rfl ?_
  refine xr_if_eq hM 419 dL_law_399 (by decide) (by omega) (fun c399 => ?_) (fun c399 => ?_)
  · refine xr_iconst hM dL_law_419 ?_
    refine xr_goto hM 424 dL_law_420 (by decide) ?_
    refine xr_istore_n (lv' := [(0, .ref T.2.2.2.2.2.1), (1, .ref (x 0)), (2, iv 1), (3, iv k), (4, iv y), (5, iv z), (6, iv (gN (pX X)))]) hM dL_law_424 rfl (by decide) rfl rfl ?_
    refine xr_goto hM 491 dL_law_425 (by decide) ?_
    refine xr_pick [0, 1, 2, 3] rfl ?_
    exact hK X Y H sz nx (hS) (hHS) (hsz) (hnx) (by omega)
  · refine xr_aload_n hM 1 dL_law_402 rfl rfl ?_
    refine xr_iload hM 5 dL_law_403 rfl ?_
    refine xr_iload hM 6 dL_law_405 rfl ?_
    refine xr_irem hM dL_law_407 (by omega) ?_
    refine xr_callVG (sg := [[(x 0, ob 4 [.ref (n 6), .ref (d 6), .ref (h 0), .ref (g 0)])], [(n 6, ob 3 [.ref (n 0), iv (pH X), iv (pA X), iv (pS X)])], linE T n (pX X), [(d 6, ob 3 [.ref (d 0), iv (pH Y), iv (pA Y), iv (pS Y)])], linE T d (pX Y), hisE T h b st sz nx H, prgE T g tx nm L s e p]) (sg' := [[(x 0, ob 4 [.ref (n 6), .ref (d 6), .ref (h 0), .ref (g 0)])], [(n 6, ob 3 [.ref (n 0), iv (pH ((mlR X (z % (gN (pX X)))).2)), iv (pA ((mlR X (z % (gN (pX X)))).2)), iv (pS ((mlR X (z % (gN (pX X)))).2))])], linE T n (pX ((mlR X (z % (gN (pX X)))).2)), [(d 6, ob 3 [.ref (d 0), iv (pH ((mlR X (z % (gN (pX X)))).2)), iv (pA ((mlR X (z % (gN (pX X)))).2)), iv (pS ((mlR X (z % (gN (pX X)))).2))])], linE T d (pX ((mlR X (z % (gN (pX X)))).2)), hisE T h b st (min (sz + 1) 5) ((nx + 1) % 5) (upW H nx X), prgE T g tx nm L s e p]) (cs := [[(x 0, ob 4 [.ref (n 6), .ref (d 6), .ref (h 0), .ref (g 0)])], [(n 6, ob 3 [.ref (n 0), iv (pH X), iv (pA X), iv (pS X)])], linE T n (pX X), [(d 6, ob 3 [.ref (d 0), iv (pH Y), iv (pA Y), iv (pS Y)])], linE T d (pX Y), hisE T h b st sz nx H, prgE T g tx nm L s e p]) (cs' := [[(x 0, ob 4 [.ref (n 6), .ref (d 6), .ref (h 0), .ref (g 0)])], [(n 6, ob 3 [.ref (n 0), iv (pH ((mlR X (z % (gN (pX X)))).2)), iv (pA ((mlR X (z % (gN (pX X)))).2)), iv (pS ((mlR X (z % (gN (pX X)))).2))])], linE T n (pX ((mlR X (z % (gN (pX X)))).2)), [(d 6, ob 3 [.ref (d 0), iv (pH ((mlR X (z % (gN (pX X)))).2)), iv (pA ((mlR X (z % (gN (pX X)))).2)), iv (pS ((mlR X (z % (gN (pX X)))).2))])], linE T d (pX ((mlR X (z % (gN (pX X)))).2)), hisE T h b st (min (sz + 1) 5) ((nx + 1) % 5) (upW H nx X), prgE T g tx nm L s e p]) (rest := []) (As := [iv (z % (gN (pX X)))]) (st' := [iv (pA (mlR X (z % (gN (pX X)))).2)]) hM (ct_goTo_ok M.2.1 T x n d h g b st X Y H sz nx tx nm L s e p (z % (gN (pX X))) (hX) (hH) (hst) (hsz) (hnx) (ht) (by omega) (hS)) rfl rfl gL_law_X4_goTo rfl ⟨rfl, rfl⟩ hy_X4_goTo rfl ⟨by decide, by decide⟩ [0, 1, 2, 3, 4, 5, 6] rfl rfl rfl 0 4 rfl rfl rfl rfl rfl (Nat.le_of_ble_eq_true rfl) hce rfl dL_law_408 ?_
    have hf408 := ml_oE X (z % (gN (pX X))) (by omega) (hS)
    have hX1 : WW (mlR X (z % gN (pX X))).2 := (SE_ml hS _).1
    have hH1 := WW_up (nx := nx) hH hX
    have hsz1 : 0 ≤ min (sz + 1) 5 ∧ min (sz + 1) 5 ≤ 5 := by omega
    have hnx1 : 0 ≤ (nx + 1) % 5 ∧ (nx + 1) % 5 < 5 := by omega
    have hn1 : ¬ gN (pX (mlR X (z % gN (pX X))).2) = 0 := by have := (ml_oE X (z % gN (pX X)) (by omega) hS).2; omega
    refine xr_aload_n hM 1 dL_law_411 rfl rfl ?_
    refine xr_iconst hM dL_law_412 ?_
    refine xr_callVG (sg := [[(x 0, ob 4 [.ref (n 6), .ref (d 6), .ref (h 0), .ref (g 0)])], [(n 6, ob 3 [.ref (n 0), iv (pH ((mlR X (z % (gN (pX X)))).2)), iv (pA ((mlR X (z % (gN (pX X)))).2)), iv (pS ((mlR X (z % (gN (pX X)))).2))])], linE T n (pX ((mlR X (z % (gN (pX X)))).2)), [(d 6, ob 3 [.ref (d 0), iv (pH ((mlR X (z % (gN (pX X)))).2)), iv (pA ((mlR X (z % (gN (pX X)))).2)), iv (pS ((mlR X (z % (gN (pX X)))).2))])], linE T d (pX ((mlR X (z % (gN (pX X)))).2)), hisE T h b st (min (sz + 1) 5) ((nx + 1) % 5) (upW H nx X), prgE T g tx nm L s e p]) (sg' := [[(x 0, ob 4 [.ref (n 6), .ref (d 6), .ref (h 0), .ref (g 0)])], [(n 6, ob 3 [.ref (n 0), iv (pH ((mlR X (z % (gN (pX X)))).2)), iv (pA ((mlR X (z % (gN (pX X)))).2)), iv (pS ((mlR X (z % (gN (pX X)))).2))])], linE T n (pX ((mlR X (z % (gN (pX X)))).2)), [(d 6, ob 3 [.ref (d 0), iv (pH ((mlR X (z % (gN (pX X)))).2)), iv (pA ((mlR X (z % (gN (pX X)))).2)), iv (pS ((mlR X (z % (gN (pX X)))).2))])], linE T d (pX ((mlR X (z % (gN (pX X)))).2)), hisE T h b st (min (sz + 1) 5) ((nx + 1) % 5) (upW H nx X), prgE T g tx nm L s e p]) (cs := [[(x 0, ob 4 [.ref (n 6), .ref (d 6), .ref (h 0), .ref (g 0)])], [(n 6, ob 3 [.ref (n 0), iv (pH ((mlR X (z % (gN (pX X)))).2)), iv (pA ((mlR X (z % (gN (pX X)))).2)), iv (pS ((mlR X (z % (gN (pX X)))).2))])], linE T n (pX ((mlR X (z % (gN (pX X)))).2)), [(d 6, ob 3 [.ref (d 0), iv (pH ((mlR X (z % (gN (pX X)))).2)), iv (pA ((mlR X (z % (gN (pX X)))).2)), iv (pS ((mlR X (z % (gN (pX X)))).2))])], linE T d (pX ((mlR X (z % (gN (pX X)))).2)), hisE T h b st (min (sz + 1) 5) ((nx + 1) % 5) (upW H nx X), prgE T g tx nm L s e p]) (cs' := [[(x 0, ob 4 [.ref (n 6), .ref (d 6), .ref (h 0), .ref (g 0)])], [(n 6, ob 3 [.ref (n 0), iv (pH ((mlR X (z % (gN (pX X)))).2)), iv (pA ((mlR X (z % (gN (pX X)))).2)), iv (pS ((mlR X (z % (gN (pX X)))).2))])], linE T n (pX ((mlR X (z % (gN (pX X)))).2)), [(d 6, ob 3 [.ref (d 0), iv (pH ((mlR X (z % (gN (pX X)))).2)), iv (pA ((mlR X (z % (gN (pX X)))).2)), iv (pS ((mlR X (z % (gN (pX X)))).2))])], linE T d (pX ((mlR X (z % (gN (pX X)))).2)), hisE T h b st (min (sz + 1) 5) ((nx + 1) % 5) (upW H nx X), prgE T g tx nm L s e p]) (rest := [iv (pA (mlR X (z % (gN (pX X)))).2)]) (As := [iv 2]) (st' := [iv (pA ((mlR X (z % (gN (pX X)))).2)), iv (pA (mlR X (z % (gN (pX X)))).2)]) hM (ct_count_2 M.2.1 T x n d h g b st ((mlR X (z % (gN (pX X)))).2) ((mlR X (z % (gN (pX X)))).2) (upW H nx X) (min (sz + 1) 5) ((nx + 1) % 5) tx nm L s e p hX1 hH1 (hst) hsz1 hnx1 (ht) hn1) rfl rfl gL_law_X4_count rfl ⟨rfl, rfl⟩ hy_X4_count rfl ⟨by decide, by decide⟩ [0, 1, 2, 3, 4, 5, 6] rfl rfl rfl 0 4 rfl rfl rfl rfl rfl (Nat.le_of_ble_eq_true rfl) hce rfl dL_law_413 ?_
    have hf413 := hX1.an
    have hf413_1 := hX1.1.1.1
    have hf413_2 := hX1.1.2.2.2.2
    have hf413_3 := hX1.2
    refine xr_icmp_ne hM 423 dL_law_416 (by decide) (by omega) (fun c416 => by exfalso; omega) (fun c416 => ?_)
    refine xr_iconst hM dL_law_419 ?_
    refine xr_goto hM 424 dL_law_420 (by decide) ?_
    refine xr_istore_n (lv' := [(0, .ref T.2.2.2.2.2.1), (1, .ref (x 0)), (2, iv 1), (3, iv k), (4, iv y), (5, iv z), (6, iv (gN (pX X)))]) hM dL_law_424 rfl (by decide) rfl rfl ?_
    refine xr_goto hM 491 dL_law_425 (by decide) ?_
    refine xr_pick [0, 1, 2, 3] rfl ?_
    exact hK ((mlR X (z % (gN (pX X)))).2) ((mlR X (z % (gN (pX X)))).2) (upW H nx X) (min (sz + 1) 5) ((nx + 1) % 5) (SE_ml hS _) (SE_up hHS hS) (by omega) (by omega) (by have := (ml_oE X (z % gN (pX X)) (by omega) hS).2; omega)

theorem lc_428 {T : TT} {M : MB} {ce sl : Nat} (x n d h g : Nat → Nat) (b : Nat → Nat → Nat) (st : Nat → Option Nat) (X Y : WnS) (H : Nat → WnS) (sz nx : Int) (tx nm : Nat → Int) (L s e p : Int) (k y z : Int) (hM : FM T M cL_law RL 11 wsL_law room_1) (hst : HST b st) (ht : TXI tx L) (hT : T.2.2.2.2.2.2.1 < 2147483648) (hce : ce ≤ room_1.cells ∧ sl ≤ room_1.slots) (hS : SE X) (hHS : ∀ k, SE (H k)) (hsz : 0 ≤ sz ∧ sz ≤ 5) (hnx : 0 ≤ nx ∧ nx < 5) (hk : 0 ≤ k ∧ k ≤ 19) (hN : gN (pX X) ≤ k + 6) (hz : 0 ≤ z ∧ z < 2147483648) (hK : LK T M x n d h g b st tx nm L s e p k ce sl) : VV T M 11 [(0, .ref T.2.2.2.2.2.1), (1, .ref (x 0)), (2, iv 1), (3, iv k), (4, iv y), (5, iv z), (6, iv (gN (pX X)))] (List.flatten [[(x 0, ob 4 [.ref (n 6), .ref (d 6), .ref (h 0), .ref (g 0)])], [(n 6, ob 3 [.ref (n 0), iv (pH X), iv (pA X), iv (pS X)])], linE T n (pX X), [(d 6, ob 3 [.ref (d 0), iv (pH Y), iv (pA Y), iv (pS Y)])], linE T d (pX Y), hisE T h b st sz nx H, prgE T g tx nm L s e p]) ce sl 428 [] := by
  have hX : WW X := hS.1
  have hH : ∀ k, WW (H k) := SE_H hHS
  have hn0 := hX.1.1.1
  have hwd := hX.1.1.2.1
  have hHH := hX.1.2.1
  have hAn := hX.an
  have hSb := hX.1.2.2.2.2
  have hSs := hX.2
  have hta := tpF_b hX.1.1 (pA X).toNat
  have htn := tpF_b hX.1.1 (gN (pX X)).toNat
  have hzm : 0 < gN (pX X) → 0 ≤ z % gN (pX X) ∧ z % gN (pX X) < gN (pX X) := fun q => ⟨Int.emod_nonneg _ (by omega), Int.emod_lt_of_pos _ (by omega)⟩
  have hzp : 0 ≤ z % (gN (pX X) + 1) ∧ z % (gN (pX X) + 1) < gN (pX X) + 1 := ⟨Int.emod_nonneg _ (by omega), Int.emod_lt_of_pos _ (by omega)⟩
  refine xr_aload_n hM 1 dL_law_428 rfl rfl ?_
  refine xr_iload hM 5 dL_law_429 rfl ?_
  refine xr_callSG (sg := [[(x 0, ob 4 [.ref (n 6), .ref (d 6), .ref (h 0), .ref (g 0)])], [(n 6, ob 3 [.ref (n 0), iv (pH X), iv (pA X), iv (pS X)])], linE T n (pX X), [(d 6, ob 3 [.ref (d 0), iv (pH Y), iv (pA Y), iv (pS Y)])], linE T d (pX Y), hisE T h b st sz nx H, prgE T g tx nm L s e p]) (sg' := [[(x 0, ob 4 [.ref (n 6), .ref (d 6), .ref (h 0), .ref (g 0)])], [(n 6, ob 3 [.ref (n 0), iv (pH X), iv (pA X), iv (pS X)])], linE T n (pX X), [(d 6, ob 3 [.ref (d 0), iv (pH ((puR X (z % (gN (pX X) + 1)) (z / 32 % 3) (z / 128 % 401)).2)), iv (pA ((puR X (z % (gN (pX X) + 1)) (z / 32 % 3) (z / 128 % 401)).2)), iv (pS ((puR X (z % (gN (pX X) + 1)) (z / 32 % 3) (z / 128 % 401)).2))])], linE T d (pX ((puR X (z % (gN (pX X) + 1)) (z / 32 % 3) (z / 128 % 401)).2)), hisE T h b st (min (sz + 1) 5 - 1) nx (upW H nx X), prgE T g tx nm L s e p]) (cs := [[(x 0, ob 4 [.ref (n 6), .ref (d 6), .ref (h 0), .ref (g 0)])], [(n 6, ob 3 [.ref (n 0), iv (pH X), iv (pA X), iv (pS X)])], linE T n (pX X), [(d 6, ob 3 [.ref (d 0), iv (pH Y), iv (pA Y), iv (pS Y)])], linE T d (pX Y), hisE T h b st sz nx H, prgE T g tx nm L s e p]) (cs' := [[(x 0, ob 4 [.ref (n 6), .ref (d 6), .ref (h 0), .ref (g 0)])], [(n 6, ob 3 [.ref (n 0), iv (pH X), iv (pA X), iv (pS X)])], linE T n (pX X), [(d 6, ob 3 [.ref (d 0), iv (pH ((puR X (z % (gN (pX X) + 1)) (z / 32 % 3) (z / 128 % 401)).2)), iv (pA ((puR X (z % (gN (pX X) + 1)) (z / 32 % 3) (z / 128 % 401)).2)), iv (pS ((puR X (z % (gN (pX X) + 1)) (z / 32 % 3) (z / 128 % 401)).2))])], linE T d (pX ((puR X (z % (gN (pX X) + 1)) (z / 32 % 3) (z / 128 % 401)).2)), hisE T h b st (min (sz + 1) 5 - 1) nx (upW H nx X), prgE T g tx nm L s e p]) (rest := []) (As := [.ref (x 0), iv z]) (st' := [iv 1]) hM (ct_L_undoes M.2.1 T x n d h g b st X Y H sz nx tx nm L s e p z (hX) (hH) (hst) (hsz) (hnx) (ht) (by omega) (by omega) (hS)) rfl rfl gL_law_L_undoes rfl ⟨rfl, rfl⟩ hy_L_undoes rfl ⟨by decide, by decide⟩ [0, 1, 2, 3, 4, 5, 6] rfl rfl rfl rfl rfl (Nat.le_of_ble_eq_true rfl) hce rfl dL_law_431 ?_
  refine xr_istore_n (lv' := [(0, .ref T.2.2.2.2.2.1), (1, .ref (x 0)), (2, iv 1), (3, iv k), (4, iv y), (5, iv z), (6, iv (gN (pX X)))]) hM dL_law_434 rfl (by decide) rfl rfl ?_
  refine xr_goto hM 491 dL_law_435 (by decide) ?_
  refine xr_pick [0, 1, 2, 3] rfl ?_
  exact hK X ((puR X (z % (gN (pX X) + 1)) (z / 32 % 3) (z / 128 % 401)).2) (upW H nx X) (min (sz + 1) 5 - 1) nx (hS) (SE_up hHS hS) (by omega) (hnx) (by omega)

theorem lc_438 {T : TT} {M : MB} {ce sl : Nat} (x n d h g : Nat → Nat) (b : Nat → Nat → Nat) (st : Nat → Option Nat) (X Y : WnS) (H : Nat → WnS) (sz nx : Int) (tx nm : Nat → Int) (L s e p : Int) (k y z : Int) (hM : FM T M cL_law RL 11 wsL_law room_1) (hst : HST b st) (ht : TXI tx L) (hT : T.2.2.2.2.2.2.1 < 2147483648) (hce : ce ≤ room_1.cells ∧ sl ≤ room_1.slots) (hS : SE X) (hHS : ∀ k, SE (H k)) (hsz : 0 ≤ sz ∧ sz ≤ 5) (hnx : 0 ≤ nx ∧ nx < 5) (hk : 0 ≤ k ∧ k ≤ 19) (hN : gN (pX X) ≤ k + 6) (hz : 0 ≤ z ∧ z < 2147483648) (hK : LK T M x n d h g b st tx nm L s e p k ce sl) : VV T M 11 [(0, .ref T.2.2.2.2.2.1), (1, .ref (x 0)), (2, iv 1), (3, iv k), (4, iv y), (5, iv z), (6, iv (gN (pX X)))] (List.flatten [[(x 0, ob 4 [.ref (n 6), .ref (d 6), .ref (h 0), .ref (g 0)])], [(n 6, ob 3 [.ref (n 0), iv (pH X), iv (pA X), iv (pS X)])], linE T n (pX X), [(d 6, ob 3 [.ref (d 0), iv (pH Y), iv (pA Y), iv (pS Y)])], linE T d (pX Y), hisE T h b st sz nx H, prgE T g tx nm L s e p]) ce sl 438 [] := by
  have hX : WW X := hS.1
  have hH : ∀ k, WW (H k) := SE_H hHS
  have hn0 := hX.1.1.1
  have hwd := hX.1.1.2.1
  have hHH := hX.1.2.1
  have hAn := hX.an
  have hSb := hX.1.2.2.2.2
  have hSs := hX.2
  have hta := tpF_b hX.1.1 (pA X).toNat
  have htn := tpF_b hX.1.1 (gN (pX X)).toNat
  have hzm : 0 < gN (pX X) → 0 ≤ z % gN (pX X) ∧ z % gN (pX X) < gN (pX X) := fun q => ⟨Int.emod_nonneg _ (by omega), Int.emod_lt_of_pos _ (by omega)⟩
  have hzp : 0 ≤ z % (gN (pX X) + 1) ∧ z % (gN (pX X) + 1) < gN (pX X) + 1 := ⟨Int.emod_nonneg _ (by omega), Int.emod_lt_of_pos _ (by omega)⟩
  refine xr_aload_n hM 1 dL_law_438 rfl rfl ?_
  refine xr_iload hM 5 dL_law_439 rfl ?_
  refine xr_iload hM 6 dL_law_441 rfl ?_
  refine xr_iconst hM dL_law_443 ?_
  refine xr_iadd hM dL_law_444 ?_
  refine xr_irem hM dL_law_445 (by omega) ?_
  refine xr_iload hM 5 dL_law_446 rfl ?_
  refine xr_bipush hM dL_law_448 (by decide) ?_
  refine xr_idiv hM dL_law_450 (by omega) ?_
  refine xr_iconst hM dL_law_451 ?_
  refine xr_irem hM dL_law_452 (by omega) ?_
  refine xr_iload hM 5 dL_law_453 rfl ?_
  refine xr_sipush hM dL_law_455 (by decide) ?_
  refine xr_idiv hM dL_law_458 (by omega) ?_
  refine xr_callSr (rest := [iv ((z / 64) % 3), iv (z % ((gN (pX X)) + 1)), .ref (x 0)]) (As := [iv (z / 256)]) (st' := [iv (sizF (z / 256)), iv ((z / 64) % 3), iv (z % ((gN (pX X)) + 1)), .ref (x 0)]) hM (ct_L_size M.2.1 T (z / 256) (by omega)) gL_law_L_size rfl ⟨rfl, rfl⟩ hy_L_size rfl ⟨by decide, by decide⟩ [] rfl rfl rfl rfl (Nat.le_of_ble_eq_true rfl) hce dL_law_459 ?_
  have hf459 := sizF_b (show 0 ≤ (z / 256) by omega)
  refine xr_callVG (sg := [[(x 0, ob 4 [.ref (n 6), .ref (d 6), .ref (h 0), .ref (g 0)])], [(n 6, ob 3 [.ref (n 0), iv (pH X), iv (pA X), iv (pS X)])], linE T n (pX X), [(d 6, ob 3 [.ref (d 0), iv (pH Y), iv (pA Y), iv (pS Y)])], linE T d (pX Y), hisE T h b st sz nx H, prgE T g tx nm L s e p]) (sg' := [[(x 0, ob 4 [.ref (n 6), .ref (d 6), .ref (h 0), .ref (g 0)])], [(n 6, ob 3 [.ref (n 0), iv (pH ((puR X (z % ((gN (pX X)) + 1)) ((z / 64) % 3) (sizF (z / 256))).2)), iv (pA ((puR X (z % ((gN (pX X)) + 1)) ((z / 64) % 3) (sizF (z / 256))).2)), iv (pS ((puR X (z % ((gN (pX X)) + 1)) ((z / 64) % 3) (sizF (z / 256))).2))])], linE T n (pX ((puR X (z % ((gN (pX X)) + 1)) ((z / 64) % 3) (sizF (z / 256))).2)), [(d 6, ob 3 [.ref (d 0), iv (pH ((puR X (z % ((gN (pX X)) + 1)) ((z / 64) % 3) (sizF (z / 256))).2)), iv (pA ((puR X (z % ((gN (pX X)) + 1)) ((z / 64) % 3) (sizF (z / 256))).2)), iv (pS ((puR X (z % ((gN (pX X)) + 1)) ((z / 64) % 3) (sizF (z / 256))).2))])], linE T d (pX ((puR X (z % ((gN (pX X)) + 1)) ((z / 64) % 3) (sizF (z / 256))).2)), hisE T h b st (min (sz + 1) 5) ((nx + 1) % 5) (upW H nx X), prgE T g tx nm L s e p]) (cs := [[(x 0, ob 4 [.ref (n 6), .ref (d 6), .ref (h 0), .ref (g 0)])], [(n 6, ob 3 [.ref (n 0), iv (pH X), iv (pA X), iv (pS X)])], linE T n (pX X), [(d 6, ob 3 [.ref (d 0), iv (pH Y), iv (pA Y), iv (pS Y)])], linE T d (pX Y), hisE T h b st sz nx H, prgE T g tx nm L s e p]) (cs' := [[(x 0, ob 4 [.ref (n 6), .ref (d 6), .ref (h 0), .ref (g 0)])], [(n 6, ob 3 [.ref (n 0), iv (pH ((puR X (z % ((gN (pX X)) + 1)) ((z / 64) % 3) (sizF (z / 256))).2)), iv (pA ((puR X (z % ((gN (pX X)) + 1)) ((z / 64) % 3) (sizF (z / 256))).2)), iv (pS ((puR X (z % ((gN (pX X)) + 1)) ((z / 64) % 3) (sizF (z / 256))).2))])], linE T n (pX ((puR X (z % ((gN (pX X)) + 1)) ((z / 64) % 3) (sizF (z / 256))).2)), [(d 6, ob 3 [.ref (d 0), iv (pH ((puR X (z % ((gN (pX X)) + 1)) ((z / 64) % 3) (sizF (z / 256))).2)), iv (pA ((puR X (z % ((gN (pX X)) + 1)) ((z / 64) % 3) (sizF (z / 256))).2)), iv (pS ((puR X (z % ((gN (pX X)) + 1)) ((z / 64) % 3) (sizF (z / 256))).2))])], linE T d (pX ((puR X (z % ((gN (pX X)) + 1)) ((z / 64) % 3) (sizF (z / 256))).2)), hisE T h b st (min (sz + 1) 5) ((nx + 1) % 5) (upW H nx X), prgE T g tx nm L s e p]) (rest := []) (As := [iv (z % ((gN (pX X)) + 1)), iv ((z / 64) % 3), iv (sizF (z / 256))]) (st' := [iv ((puR X (z % ((gN (pX X)) + 1)) ((z / 64) % 3) (sizF (z / 256))).1)]) hM (ct_put_ok M.2.1 T x n d h g b st X Y H sz nx tx nm L s e p (z % ((gN (pX X)) + 1)) ((z / 64) % 3) (sizF (z / 256)) (hX) (hH) (hst) (hsz) (hnx) (ht) (by omega) (by omega) (by omega) (by omega) (hS)) rfl rfl gL_law_X4_put rfl ⟨rfl, rfl⟩ hy_X4_put rfl ⟨by decide, by decide⟩ [0, 1, 2, 3, 4, 5, 6] rfl rfl rfl 0 4 rfl rfl rfl rfl rfl (Nat.le_of_ble_eq_true rfl) hce rfl dL_law_462 ?_
  have hf462 := pu_oE X (z % ((gN (pX X)) + 1)) ((z / 64) % 3) (sizF (z / 256)) (hS) (by omega) (by omega) (by omega) (by omega)
  have hf462_1 := puR_v (hX) (z % ((gN (pX X)) + 1)) ((z / 64) % 3) (sizF (z / 256))
  have hX1 : WW (puR X (z % (gN (pX X) + 1)) (z / 64 % 3) (sizF (z / 256))).2 := (SE_pu hS _ _ _).1
  have hH1 := WW_up (nx := nx) hH hX
  have hsz1 : 0 ≤ min (sz + 1) 5 ∧ min (sz + 1) 5 ≤ 5 := by omega
  have hnx1 : 0 ≤ (nx + 1) % 5 ∧ (nx + 1) % 5 < 5 := by omega
  refine xr_aload_n hM 1 dL_law_465 rfl rfl ?_
  refine xr_iconst hM dL_law_466 ?_
  refine xr_callVG (sg := [[(x 0, ob 4 [.ref (n 6), .ref (d 6), .ref (h 0), .ref (g 0)])], [(n 6, ob 3 [.ref (n 0), iv (pH ((puR X (z % ((gN (pX X)) + 1)) ((z / 64) % 3) (sizF (z / 256))).2)), iv (pA ((puR X (z % ((gN (pX X)) + 1)) ((z / 64) % 3) (sizF (z / 256))).2)), iv (pS ((puR X (z % ((gN (pX X)) + 1)) ((z / 64) % 3) (sizF (z / 256))).2))])], linE T n (pX ((puR X (z % ((gN (pX X)) + 1)) ((z / 64) % 3) (sizF (z / 256))).2)), [(d 6, ob 3 [.ref (d 0), iv (pH ((puR X (z % ((gN (pX X)) + 1)) ((z / 64) % 3) (sizF (z / 256))).2)), iv (pA ((puR X (z % ((gN (pX X)) + 1)) ((z / 64) % 3) (sizF (z / 256))).2)), iv (pS ((puR X (z % ((gN (pX X)) + 1)) ((z / 64) % 3) (sizF (z / 256))).2))])], linE T d (pX ((puR X (z % ((gN (pX X)) + 1)) ((z / 64) % 3) (sizF (z / 256))).2)), hisE T h b st (min (sz + 1) 5) ((nx + 1) % 5) (upW H nx X), prgE T g tx nm L s e p]) (sg' := [[(x 0, ob 4 [.ref (n 6), .ref (d 6), .ref (h 0), .ref (g 0)])], [(n 6, ob 3 [.ref (n 0), iv (pH ((puR X (z % ((gN (pX X)) + 1)) ((z / 64) % 3) (sizF (z / 256))).2)), iv (pA ((puR X (z % ((gN (pX X)) + 1)) ((z / 64) % 3) (sizF (z / 256))).2)), iv (pS ((puR X (z % ((gN (pX X)) + 1)) ((z / 64) % 3) (sizF (z / 256))).2))])], linE T n (pX ((puR X (z % ((gN (pX X)) + 1)) ((z / 64) % 3) (sizF (z / 256))).2)), [(d 6, ob 3 [.ref (d 0), iv (pH ((puR X (z % ((gN (pX X)) + 1)) ((z / 64) % 3) (sizF (z / 256))).2)), iv (pA ((puR X (z % ((gN (pX X)) + 1)) ((z / 64) % 3) (sizF (z / 256))).2)), iv (pS ((puR X (z % ((gN (pX X)) + 1)) ((z / 64) % 3) (sizF (z / 256))).2))])], linE T d (pX ((puR X (z % ((gN (pX X)) + 1)) ((z / 64) % 3) (sizF (z / 256))).2)), hisE T h b st (min (sz + 1) 5) ((nx + 1) % 5) (upW H nx X), prgE T g tx nm L s e p]) (cs := [[(x 0, ob 4 [.ref (n 6), .ref (d 6), .ref (h 0), .ref (g 0)])], [(n 6, ob 3 [.ref (n 0), iv (pH ((puR X (z % ((gN (pX X)) + 1)) ((z / 64) % 3) (sizF (z / 256))).2)), iv (pA ((puR X (z % ((gN (pX X)) + 1)) ((z / 64) % 3) (sizF (z / 256))).2)), iv (pS ((puR X (z % ((gN (pX X)) + 1)) ((z / 64) % 3) (sizF (z / 256))).2))])], linE T n (pX ((puR X (z % ((gN (pX X)) + 1)) ((z / 64) % 3) (sizF (z / 256))).2)), [(d 6, ob 3 [.ref (d 0), iv (pH ((puR X (z % ((gN (pX X)) + 1)) ((z / 64) % 3) (sizF (z / 256))).2)), iv (pA ((puR X (z % ((gN (pX X)) + 1)) ((z / 64) % 3) (sizF (z / 256))).2)), iv (pS ((puR X (z % ((gN (pX X)) + 1)) ((z / 64) % 3) (sizF (z / 256))).2))])], linE T d (pX ((puR X (z % ((gN (pX X)) + 1)) ((z / 64) % 3) (sizF (z / 256))).2)), hisE T h b st (min (sz + 1) 5) ((nx + 1) % 5) (upW H nx X), prgE T g tx nm L s e p]) (cs' := [[(x 0, ob 4 [.ref (n 6), .ref (d 6), .ref (h 0), .ref (g 0)])], [(n 6, ob 3 [.ref (n 0), iv (pH ((puR X (z % ((gN (pX X)) + 1)) ((z / 64) % 3) (sizF (z / 256))).2)), iv (pA ((puR X (z % ((gN (pX X)) + 1)) ((z / 64) % 3) (sizF (z / 256))).2)), iv (pS ((puR X (z % ((gN (pX X)) + 1)) ((z / 64) % 3) (sizF (z / 256))).2))])], linE T n (pX ((puR X (z % ((gN (pX X)) + 1)) ((z / 64) % 3) (sizF (z / 256))).2)), [(d 6, ob 3 [.ref (d 0), iv (pH ((puR X (z % ((gN (pX X)) + 1)) ((z / 64) % 3) (sizF (z / 256))).2)), iv (pA ((puR X (z % ((gN (pX X)) + 1)) ((z / 64) % 3) (sizF (z / 256))).2)), iv (pS ((puR X (z % ((gN (pX X)) + 1)) ((z / 64) % 3) (sizF (z / 256))).2))])], linE T d (pX ((puR X (z % ((gN (pX X)) + 1)) ((z / 64) % 3) (sizF (z / 256))).2)), hisE T h b st (min (sz + 1) 5) ((nx + 1) % 5) (upW H nx X), prgE T g tx nm L s e p]) (rest := [iv ((puR X (z % ((gN (pX X)) + 1)) ((z / 64) % 3) (sizF (z / 256))).1)]) (As := [iv 4]) (st' := [iv (tpF (pX ((puR X (z % ((gN (pX X)) + 1)) ((z / 64) % 3) (sizF (z / 256))).2)) (gN (pX ((puR X (z % ((gN (pX X)) + 1)) ((z / 64) % 3) (sizF (z / 256))).2))).toNat), iv ((puR X (z % ((gN (pX X)) + 1)) ((z / 64) % 3) (sizF (z / 256))).1)]) hM (ct_count_4 M.2.1 T x n d h g b st ((puR X (z % ((gN (pX X)) + 1)) ((z / 64) % 3) (sizF (z / 256))).2) ((puR X (z % ((gN (pX X)) + 1)) ((z / 64) % 3) (sizF (z / 256))).2) (upW H nx X) (min (sz + 1) 5) ((nx + 1) % 5) tx nm L s e p hX1 hH1 (hst) hsz1 hnx1 (ht)) rfl rfl gL_law_X4_count rfl ⟨rfl, rfl⟩ hy_X4_count rfl ⟨by decide, by decide⟩ [0, 1, 2, 3, 4, 5, 6] rfl rfl rfl 0 4 rfl rfl rfl rfl rfl (Nat.le_of_ble_eq_true rfl) hce rfl dL_law_467 ?_
  have hf467 := tpF_b hX1.1.1 (gN (pX ((puR X (z % ((gN (pX X)) + 1)) ((z / 64) % 3) (sizF (z / 256))).2))).toNat
  have hf467_1 := hX1.1.1.1
  refine xr_icmp_ne hM 489 dL_law_470 (by decide) (by omega) (fun c470 => by exfalso; omega) (fun c470 => ?_)
  refine xr_aload_n hM 1 dL_law_473 rfl rfl ?_
  refine xr_iconst hM dL_law_474 ?_
  refine xr_callVG (sg := [[(x 0, ob 4 [.ref (n 6), .ref (d 6), .ref (h 0), .ref (g 0)])], [(n 6, ob 3 [.ref (n 0), iv (pH ((puR X (z % ((gN (pX X)) + 1)) ((z / 64) % 3) (sizF (z / 256))).2)), iv (pA ((puR X (z % ((gN (pX X)) + 1)) ((z / 64) % 3) (sizF (z / 256))).2)), iv (pS ((puR X (z % ((gN (pX X)) + 1)) ((z / 64) % 3) (sizF (z / 256))).2))])], linE T n (pX ((puR X (z % ((gN (pX X)) + 1)) ((z / 64) % 3) (sizF (z / 256))).2)), [(d 6, ob 3 [.ref (d 0), iv (pH ((puR X (z % ((gN (pX X)) + 1)) ((z / 64) % 3) (sizF (z / 256))).2)), iv (pA ((puR X (z % ((gN (pX X)) + 1)) ((z / 64) % 3) (sizF (z / 256))).2)), iv (pS ((puR X (z % ((gN (pX X)) + 1)) ((z / 64) % 3) (sizF (z / 256))).2))])], linE T d (pX ((puR X (z % ((gN (pX X)) + 1)) ((z / 64) % 3) (sizF (z / 256))).2)), hisE T h b st (min (sz + 1) 5) ((nx + 1) % 5) (upW H nx X), prgE T g tx nm L s e p]) (sg' := [[(x 0, ob 4 [.ref (n 6), .ref (d 6), .ref (h 0), .ref (g 0)])], [(n 6, ob 3 [.ref (n 0), iv (pH ((puR X (z % ((gN (pX X)) + 1)) ((z / 64) % 3) (sizF (z / 256))).2)), iv (pA ((puR X (z % ((gN (pX X)) + 1)) ((z / 64) % 3) (sizF (z / 256))).2)), iv (pS ((puR X (z % ((gN (pX X)) + 1)) ((z / 64) % 3) (sizF (z / 256))).2))])], linE T n (pX ((puR X (z % ((gN (pX X)) + 1)) ((z / 64) % 3) (sizF (z / 256))).2)), [(d 6, ob 3 [.ref (d 0), iv (pH ((puR X (z % ((gN (pX X)) + 1)) ((z / 64) % 3) (sizF (z / 256))).2)), iv (pA ((puR X (z % ((gN (pX X)) + 1)) ((z / 64) % 3) (sizF (z / 256))).2)), iv (pS ((puR X (z % ((gN (pX X)) + 1)) ((z / 64) % 3) (sizF (z / 256))).2))])], linE T d (pX ((puR X (z % ((gN (pX X)) + 1)) ((z / 64) % 3) (sizF (z / 256))).2)), hisE T h b st (min (sz + 1) 5) ((nx + 1) % 5) (upW H nx X), prgE T g tx nm L s e p]) (cs := [[(x 0, ob 4 [.ref (n 6), .ref (d 6), .ref (h 0), .ref (g 0)])], [(n 6, ob 3 [.ref (n 0), iv (pH ((puR X (z % ((gN (pX X)) + 1)) ((z / 64) % 3) (sizF (z / 256))).2)), iv (pA ((puR X (z % ((gN (pX X)) + 1)) ((z / 64) % 3) (sizF (z / 256))).2)), iv (pS ((puR X (z % ((gN (pX X)) + 1)) ((z / 64) % 3) (sizF (z / 256))).2))])], linE T n (pX ((puR X (z % ((gN (pX X)) + 1)) ((z / 64) % 3) (sizF (z / 256))).2)), [(d 6, ob 3 [.ref (d 0), iv (pH ((puR X (z % ((gN (pX X)) + 1)) ((z / 64) % 3) (sizF (z / 256))).2)), iv (pA ((puR X (z % ((gN (pX X)) + 1)) ((z / 64) % 3) (sizF (z / 256))).2)), iv (pS ((puR X (z % ((gN (pX X)) + 1)) ((z / 64) % 3) (sizF (z / 256))).2))])], linE T d (pX ((puR X (z % ((gN (pX X)) + 1)) ((z / 64) % 3) (sizF (z / 256))).2)), hisE T h b st (min (sz + 1) 5) ((nx + 1) % 5) (upW H nx X), prgE T g tx nm L s e p]) (cs' := [[(x 0, ob 4 [.ref (n 6), .ref (d 6), .ref (h 0), .ref (g 0)])], [(n 6, ob 3 [.ref (n 0), iv (pH ((puR X (z % ((gN (pX X)) + 1)) ((z / 64) % 3) (sizF (z / 256))).2)), iv (pA ((puR X (z % ((gN (pX X)) + 1)) ((z / 64) % 3) (sizF (z / 256))).2)), iv (pS ((puR X (z % ((gN (pX X)) + 1)) ((z / 64) % 3) (sizF (z / 256))).2))])], linE T n (pX ((puR X (z % ((gN (pX X)) + 1)) ((z / 64) % 3) (sizF (z / 256))).2)), [(d 6, ob 3 [.ref (d 0), iv (pH ((puR X (z % ((gN (pX X)) + 1)) ((z / 64) % 3) (sizF (z / 256))).2)), iv (pA ((puR X (z % ((gN (pX X)) + 1)) ((z / 64) % 3) (sizF (z / 256))).2)), iv (pS ((puR X (z % ((gN (pX X)) + 1)) ((z / 64) % 3) (sizF (z / 256))).2))])], linE T d (pX ((puR X (z % ((gN (pX X)) + 1)) ((z / 64) % 3) (sizF (z / 256))).2)), hisE T h b st (min (sz + 1) 5) ((nx + 1) % 5) (upW H nx X), prgE T g tx nm L s e p]) (rest := []) (As := [iv 0]) (st' := [iv (gN (pX ((puR X (z % ((gN (pX X)) + 1)) ((z / 64) % 3) (sizF (z / 256))).2)))]) hM (ct_count_0 M.2.1 T x n d h g b st ((puR X (z % ((gN (pX X)) + 1)) ((z / 64) % 3) (sizF (z / 256))).2) ((puR X (z % ((gN (pX X)) + 1)) ((z / 64) % 3) (sizF (z / 256))).2) (upW H nx X) (min (sz + 1) 5) ((nx + 1) % 5) tx nm L s e p hX1 hH1 (hst) hsz1 hnx1 (ht)) rfl rfl gL_law_X4_count rfl ⟨rfl, rfl⟩ hy_X4_count rfl ⟨by decide, by decide⟩ [0, 1, 2, 3, 4, 5, 6] rfl rfl rfl 0 4 rfl rfl rfl rfl rfl (Nat.le_of_ble_eq_true rfl) hce rfl dL_law_475 ?_
  have hf475 := hX1.1.1.1
  refine xr_iload hM 6 dL_law_478 rfl ?_
  refine xr_iconst hM dL_law_480 ?_
  refine xr_iadd hM dL_law_481 ?_
  refine xr_icmp_ne hM 489 dL_law_482 (by decide) (by omega) (fun c482 => by exfalso; omega) (fun c482 => ?_)
  refine xr_iconst hM dL_law_485 ?_
  refine xr_goto hM 490 dL_law_486 (by decide) ?_
  refine xr_istore_n (lv' := [(0, .ref T.2.2.2.2.2.1), (1, .ref (x 0)), (2, iv 1), (3, iv k), (4, iv y), (5, iv z), (6, iv (gN (pX X)))]) hM dL_law_490 rfl (by decide) rfl rfl ?_
  refine xr_pick [0, 1, 2, 3] rfl ?_
  exact hK ((puR X (z % ((gN (pX X)) + 1)) ((z / 64) % 3) (sizF (z / 256))).2) ((puR X (z % ((gN (pX X)) + 1)) ((z / 64) % 3) (sizF (z / 256))).2) (upW H nx X) (min (sz + 1) 5) ((nx + 1) % 5) (SE_pu hS _ _ _) (SE_up hHS hS) (by omega) (by omega) (by have := (pu_oE X (z % (gN (pX X) + 1)) (z / 64 % 3) (sizF (z / 256)) hS (by omega) (by omega) (by omega) (sizF_b (by omega))).2.1; omega)

