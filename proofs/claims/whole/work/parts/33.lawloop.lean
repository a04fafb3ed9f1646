/-! ===== THE LAW: its loop and its start ===== -/
set_option maxHeartbeats 4000000 in
set_option maxRecDepth 100000 in
theorem law_loop {T : TT} {M : MB} {b N : Nat} {xs : Nat → Int32} (hM : FM T M cL_law RL 4 wsL_law room_1) (hX : va_X b N xs M.2.2.2.2.1 M.2.2.2.2.1.heap) (hbl : b < M.2.2.2.2.1.heap.size) (hbA : ¬ M.2.2.2.2.2.2.2.2.2.2.2 b) (hN : (N : Int) ≤ 2048) (x n d h g r : Nat → Nat) (bb : Nat → Nat → Nat) (st : Nat → Option Nat) (hst : HST bb st) {ce sl : Nat} (hce : ce ≤ room_1.cells ∧ sl ≤ room_1.slots)
    (hret : ∀ (lv : List (Nat × Value)) (ws : va_W), VV T M 4 lv ws ce sl 615 [iv 1]) : ∀ (f : Nat) (i : Int), 0 ≤ i ∧ i ≤ 2052 → (N : Int) - i < f → ∀ (X Y : WnS) (H : Nat → WnS) (sz nx : Int) (tx nm : AR) (L s e p aT fR wR : Int) (w bf tr ps te gs nb : AR), LI X H sz nx tx nm L w ps te nb → VV T M 4 [(0, .ref b), (1, .ref (x 0)), (2, .ref (r 0)), (3, iv i)] (lwW T x n d h g r bb st X Y H sz nx tx nm L s e p sz L aT fR wR w bf tr ps te gs nb).flatten ce sl 18 [] := by
  intro f
  induction f with
  | zero =>
    intro i h0 hf X Y H sz nx tx nm L s e p aT fR wR w bf tr ps te gs nb hI
    refine xr_iload_n hM 3 dL_law_18 rfl rfl ?_
    refine xr_aload_n hM 0 dL_law_19 rfl rfl ?_
    refine xr_slen hM hX hbl hbA dL_law_20 ?_
    refine xr_iconst hM dL_law_21 ?_
    refine xr_isub hM dL_law_22 ?_
    refine xr_icmp_gt hM 614 dL_law_23 (by decide) (by omega) (fun _ => ?_) (fun c => by exfalso; omega)
    refine xr_iconst hM dL_law_614 ?_
    exact hret _ _
  | succ f ih =>
    intro i h0 hf X Y H sz nx tx nm L s e p aT fR wR w bf tr ps te gs nb hI
    refine xr_iload_n hM 3 dL_law_18 rfl rfl ?_
    refine xr_aload_n hM 0 dL_law_19 rfl rfl ?_
    refine xr_slen hM hX hbl hbA dL_law_20 ?_
    refine xr_iconst hM dL_law_21 ?_
    refine xr_isub hM dL_law_22 ?_
    refine xr_icmp_gt hM 614 dL_law_23 (by decide) (by omega) (fun _ => ?_) (fun c => ?_)
    · refine xr_iconst hM dL_law_614 ?_
      exact hret _ _
    have hi : 0 ≤ i ∧ i + 4 ≤ (N : Int) ∧ (N : Int) ≤ 2048 := by omega
    have hk : LK T M b i x n d h g r bb st ce sl := by
      intro X Y H sz nx tx nm L s e p aT fR wR w bf tr ps te gs nb hI
      refine xr_iinc (lv' := [(0, .ref b), (1, .ref (x 0)), (2, .ref (r 0)), (3, iv (i + 4))]) hM 3 dL_law_608 rfl (by decide) rfl rfl ?_
      refine xr_goto hM 18 dL_law_611 (by decide) ?_
      exact ih (i + 4) (by omega) (by omega) X Y H sz nx tx nm L s e p aT fR wR w bf tr ps te gs nb hI
    refine xr_aload_n hM 0 dL_law_26 rfl rfl ?_
    refine xr_iload_n hM 3 dL_law_27 rfl rfl ?_
    refine xr_sld hM hX hbl hbA (by omega) rfl dL_law_28 ?_
    refine xr_bipush hM dL_law_29 (by decide) ?_
    refine xr_iandL hM dL_law_31 (fun y hy => ?_)
    by_cases c0 : y = 0
    · exact xr_tableIn hM 128 dL_law_32 c0 (by decide) (by decide) rfl (by decide) (lc_put hM hX hbl hbA hi x n d h g r bb st hst hce hk X Y H sz nx tx nm L s e p aT fR wR w bf tr ps te gs nb hI)
    by_cases c1 : y = 1
    · exact xr_tableIn hM 171 dL_law_32 c1 (by decide) (by decide) rfl (by decide) (lc_cut hM hX hbl hbA hi x n d h g r bb st hst hce hk X Y H sz nx tx nm L s e p aT fR wR w bf tr ps te gs nb hI)
    by_cases c2 : y = 2
    · exact xr_tableIn hM 194 dL_law_32 c2 (by decide) (by decide) rfl (by decide) (lc_change hM hX hbl hbA hi x n d h g r bb st hst hce hk X Y H sz nx tx nm L s e p aT fR wR w bf tr ps te gs nb hI)
    by_cases c3 : y = 3
    · exact xr_tableIn hM 227 dL_law_32 c3 (by decide) (by decide) rfl (by decide) (lc_setHeight hM hX hbl hbA hi x n d h g r bb st hst hce hk X Y H sz nx tx nm L s e p aT fR wR w bf tr ps te gs nb hI)
    by_cases c4 : y = 4
    · exact xr_tableIn hM 250 dL_law_32 c4 (by decide) (by decide) rfl (by decide) (lc_setWidth hM hX hbl hbA hi x n d h g r bb st hst hce hk X Y H sz nx tx nm L s e p aT fR wR w bf tr ps te gs nb hI)
    by_cases c5 : y = 5
    · exact xr_tableIn hM 273 dL_law_32 c5 (by decide) (by decide) rfl (by decide) (lc_scroll hM hX hbl hbA hi x n d h g r bb st hst hce hk X Y H sz nx tx nm L s e p aT fR wR w bf tr ps te gs nb hI)
    by_cases c6 : y = 6
    · exact xr_tableIn hM 296 dL_law_32 c6 (by decide) (by decide) rfl (by decide) (lc_jump hM hX hbl hbA hi x n d h g r bb st hst hce hk X Y H sz nx tx nm L s e p aT fR wR w bf tr ps te gs nb hI)
    by_cases c7 : y = 7
    · exact xr_tableIn hM 319 dL_law_32 c7 (by decide) (by decide) rfl (by decide) (lc_goTo hM hX hbl hbA hi x n d h g r bb st hst hce hk X Y H sz nx tx nm L s e p aT fR wR w bf tr ps te gs nb hI)
    by_cases c8 : y = 8
    · exact xr_tableIn hM 342 dL_law_32 c8 (by decide) (by decide) rfl (by decide) (lc_undo hM hX hbl hbA hi x n d h g r bb st hst hce hk X Y H sz nx tx nm L s e p aT fR wR w bf tr ps te gs nb hI)
    by_cases c9 : y = 9
    · exact xr_tableIn hM 355 dL_law_32 c9 (by decide) (by decide) rfl (by decide) (lc_append hM hX hbl hbA hi x n d h g r bb st hst hce hk X Y H sz nx tx nm L s e p aT fR wR w bf tr ps te gs nb hI)
    by_cases c10 : y = 10
    · exact xr_tableIn hM 378 dL_law_32 c10 (by decide) (by decide) rfl (by decide) (lc_clearText hM hX hbl hbA hi x n d h g r bb st hst hce hk X Y H sz nx tx nm L s e p aT fR wR w bf tr ps te gs nb hI)
    by_cases c11 : y = 11
    · exact xr_tableIn hM 391 dL_law_32 c11 (by decide) (by decide) rfl (by decide) (lc_run hM hX hbl hbA hi x n d h g r bb st hst hce hk X Y H sz nx tx nm L s e p aT fR wR w bf tr ps te gs nb hI)
    by_cases c12 : y = 12
    · exact xr_tableIn hM 404 dL_law_32 c12 (by decide) (by decide) rfl (by decide) (lc_count hM hX hbl hbA hi x n d h g r bb st hst hce hk X Y H sz nx tx nm L s e p aT fR wR w bf tr ps te gs nb hI)
    by_cases c13 : y = 13
    · exact xr_tableIn hM 427 dL_law_32 c13 (by decide) (by decide) rfl (by decide) (lc_line hM hX hbl hbA hi x n d h g r bb st hst hce hk X Y H sz nx tx nm L s e p aT fR wR w bf tr ps te gs nb hI)
    by_cases c14 : y = 14
    · exact xr_tableIn hM 460 dL_law_32 c14 (by decide) (by decide) rfl (by decide) (lc_seen hM hX hbl hbA hi x n d h g r bb st hst hce hk X Y H sz nx tx nm L s e p aT fR wR w bf tr ps te gs nb hI)
    by_cases c15 : y = 15
    · exact xr_tableIn hM 483 dL_law_32 c15 (by decide) (by decide) rfl (by decide) (lc_at hM hX hbl hbA hi x n d h g r bb st hst hce hk X Y H sz nx tx nm L s e p aT fR wR w bf tr ps te gs nb hI)
    by_cases c16 : y = 16
    · exact xr_tableIn hM 506 dL_law_32 c16 (by decide) (by decide) rfl (by decide) (lc_share hM hX hbl hbA hi x n d h g r bb st hst hce hk X Y H sz nx tx nm L s e p aT fR wR w bf tr ps te gs nb hI)
    by_cases c17 : y = 17
    · exact xr_tableIn hM 519 dL_law_32 c17 (by decide) (by decide) rfl (by decide) (lc_trueSum hM hX hbl hbA hi x n d h g r bb st hst hce hk X Y H sz nx tx nm L s e p aT fR wR w bf tr ps te gs nb hI)
    by_cases c18 : y = 18
    · exact xr_tableIn hM 552 dL_law_32 c18 (by decide) (by decide) rfl (by decide) (lc_scrollsTo hM hX hbl hbA hi x n d h g r bb st hst hce hk X Y H sz nx tx nm L s e p aT fR wR w bf tr ps te gs nb hI)
    by_cases c19 : y = 19
    · exact xr_tableIn hM 585 dL_law_32 c19 (by decide) (by decide) rfl (by decide) (lc_measuredBy hM hX hbl hbA hi x n d h g r bb st hst hce hk X Y H sz nx tx nm L s e p aT fR wR w bf tr ps te gs nb hI)
    exact xr_tableOut hM 608 dL_law_32 hy (by omega) (by decide) (hk X Y H sz nx tx nm L s e p aT fR wR w bf tr ps te gs nb hI)
