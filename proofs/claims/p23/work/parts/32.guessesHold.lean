theorem lp_L_guessesHold {T : TT} {M : MB} (x n d h g : Nat → Nat) (b : Nat → Nat → Nat) (st : Nat → Option Nat) (X Y : WnS) (H : Nat → WnS) (sz nx : Int) (tx nm : Nat → Int) (L s e p : Int) (kd : Int) (hX : WW X) (hH : ∀ k, WW (H k)) (hst : HST b st) (hsz : 0 ≤ sz ∧ sz ≤ 5) (hnx : 0 ≤ nx ∧ nx < 5) (ht : TXI tx L) (hkd : 0 ≤ kd ∧ kd ≤ 2) (hM : FM T M cL_guessesHold RL 7 wsL_guessesHold rm_L_guessesHold) (hK : VV T M 7 [(0, .ref (x 0)), (1, iv 1), (2, iv kd), (3, iv (smF (gW (pX X)) (gK (pX X)) (gL (pX X)) (gM (pX X)) kd (gN (pX X)).toNat)), (4, iv (cntF (gK (pX X)) (gM (pX X)) kd (gN (pX X)).toNat)), (5, iv ((gN (pX X)).toNat : Int))] (List.flatten [[(x 0, ob 4 [.ref (n 6), .ref (d 6), .ref (h 0), .ref (g 0)])], [(n 6, ob 3 [.ref (n 0), iv (pH X), iv (pA X), iv (pS X)])], linE T n (pX X), [(d 6, ob 3 [.ref (d 0), iv (pH Y), iv (pA Y), iv (pS Y)])], linE T d (pX Y), hisE T h b st sz nx H, prgE T g tx nm L s e p]) 0 0 100 []) : ∀ (f j : Nat), j + f = (gN (pX X)).toNat → VV T M 7 [(0, .ref (x 0)), (1, iv 1), (2, iv kd), (3, iv (smF (gW (pX X)) (gK (pX X)) (gL (pX X)) (gM (pX X)) kd j)), (4, iv (cntF (gK (pX X)) (gM (pX X)) kd j)), (5, iv (j : Int))] (List.flatten [[(x 0, ob 4 [.ref (n 6), .ref (d 6), .ref (h 0), .ref (g 0)])], [(n 6, ob 3 [.ref (n 0), iv (pH X), iv (pA X), iv (pS X)])], linE T n (pX X), [(d 6, ob 3 [.ref (d 0), iv (pH Y), iv (pA Y), iv (pS Y)])], linE T d (pX Y), hisE T h b st sz nx H, prgE T g tx nm L s e p]) 0 0 21 [] := by
  intro f
  induction f with
  | zero =>
    intro j h1
    have hn0 := hX.1.1.1
    have hwd := hX.1.1.2.1
    have hHH := hX.1.2.1
    have hAn := hX.an
    have hSb := hX.1.2.2.2.2
    have hSs := hX.2
    have hta := tpF_b hX.1.1 (pA X).toNat
    have htn := tpF_b hX.1.1 (gN (pX X)).toNat
    have hcj := cntF_b (gK (pX X)) (gM (pX X)) kd j
    have hsj := smF_b (gK (pX X)) (gL (pX X)) (gM (pX X)) kd hwd (fun i => (hX.1.1.2.2.1 i).2.1) j
    refine xr_iload hM 5 dL_guessesHold_21 rfl ?_
    refine xr_aload_n hM 0 dL_guessesHold_23 rfl rfl ?_
    refine xr_iconst hM dL_guessesHold_24 ?_
    refine xr_callVG (sg := [[(x 0, ob 4 [.ref (n 6), .ref (d 6), .ref (h 0), .ref (g 0)])], [(n 6, ob 3 [.ref (n 0), iv (pH X), iv (pA X), iv (pS X)])], linE T n (pX X), [(d 6, ob 3 [.ref (d 0), iv (pH Y), iv (pA Y), iv (pS Y)])], linE T d (pX Y), hisE T h b st sz nx H, prgE T g tx nm L s e p]) (sg' := [[(x 0, ob 4 [.ref (n 6), .ref (d 6), .ref (h 0), .ref (g 0)])], [(n 6, ob 3 [.ref (n 0), iv (pH X), iv (pA X), iv (pS X)])], linE T n (pX X), [(d 6, ob 3 [.ref (d 0), iv (pH Y), iv (pA Y), iv (pS Y)])], linE T d (pX Y), hisE T h b st sz nx H, prgE T g tx nm L s e p]) (cs := [[(x 0, ob 4 [.ref (n 6), .ref (d 6), .ref (h 0), .ref (g 0)])], [(n 6, ob 3 [.ref (n 0), iv (pH X), iv (pA X), iv (pS X)])], linE T n (pX X), [(d 6, ob 3 [.ref (d 0), iv (pH Y), iv (pA Y), iv (pS Y)])], linE T d (pX Y), hisE T h b st sz nx H, prgE T g tx nm L s e p]) (cs' := [[(x 0, ob 4 [.ref (n 6), .ref (d 6), .ref (h 0), .ref (g 0)])], [(n 6, ob 3 [.ref (n 0), iv (pH X), iv (pA X), iv (pS X)])], linE T n (pX X), [(d 6, ob 3 [.ref (d 0), iv (pH Y), iv (pA Y), iv (pS Y)])], linE T d (pX Y), hisE T h b st sz nx H, prgE T g tx nm L s e p]) (rest := [iv (j : Int)]) (As := [iv 0]) (st' := [iv (gN (pX X)), iv (j : Int)]) hM (ct_count_0 M.2.1 T x n d h g b st X Y H sz nx tx nm L s e p (hX) (hH) (hst) (hsz) (hnx) (ht)) rfl rfl gL_guessesHold_X4_count rfl ⟨rfl, rfl⟩ hy_X4_count rfl ⟨by decide, by decide⟩ [0, 1, 2, 3, 4, 5, 6] rfl rfl rfl 0 4 rfl rfl rfl rfl rfl (Nat.le_of_ble_eq_true rfl) ⟨by decide, by decide⟩ rfl dL_guessesHold_25 ?_
    have hf25 := (hX).1.1.1
    refine xr_icmp_ge hM 100 dL_guessesHold_28 (by decide) (by omega) (fun c28 => ?_) (fun c28 => by exfalso; omega)
    have hjn : j = (gN (pX X)).toNat := by omega
    rw [hjn]
    exact hK
  | succ f ih =>
    intro j h1
    have hn0 := hX.1.1.1
    have hwd := hX.1.1.2.1
    have hHH := hX.1.2.1
    have hAn := hX.an
    have hSb := hX.1.2.2.2.2
    have hSs := hX.2
    have hta := tpF_b hX.1.1 (pA X).toNat
    have htn := tpF_b hX.1.1 (gN (pX X)).toNat
    have hcj := cntF_b (gK (pX X)) (gM (pX X)) kd j
    have hsj := smF_b (gK (pX X)) (gL (pX X)) (gM (pX X)) kd hwd (fun i => (hX.1.1.2.2.1 i).2.1) j
    have hj3 := hX.1.1.2.2.1 j
    refine xr_iload hM 5 dL_guessesHold_21 rfl ?_
    refine xr_aload_n hM 0 dL_guessesHold_23 rfl rfl ?_
    refine xr_iconst hM dL_guessesHold_24 ?_
    refine xr_callVG (sg := [[(x 0, ob 4 [.ref (n 6), .ref (d 6), .ref (h 0), .ref (g 0)])], [(n 6, ob 3 [.ref (n 0), iv (pH X), iv (pA X), iv (pS X)])], linE T n (pX X), [(d 6, ob 3 [.ref (d 0), iv (pH Y), iv (pA Y), iv (pS Y)])], linE T d (pX Y), hisE T h b st sz nx H, prgE T g tx nm L s e p]) (sg' := [[(x 0, ob 4 [.ref (n 6), .ref (d 6), .ref (h 0), .ref (g 0)])], [(n 6, ob 3 [.ref (n 0), iv (pH X), iv (pA X), iv (pS X)])], linE T n (pX X), [(d 6, ob 3 [.ref (d 0), iv (pH Y), iv (pA Y), iv (pS Y)])], linE T d (pX Y), hisE T h b st sz nx H, prgE T g tx nm L s e p]) (cs := [[(x 0, ob 4 [.ref (n 6), .ref (d 6), .ref (h 0), .ref (g 0)])], [(n 6, ob 3 [.ref (n 0), iv (pH X), iv (pA X), iv (pS X)])], linE T n (pX X), [(d 6, ob 3 [.ref (d 0), iv (pH Y), iv (pA Y), iv (pS Y)])], linE T d (pX Y), hisE T h b st sz nx H, prgE T g tx nm L s e p]) (cs' := [[(x 0, ob 4 [.ref (n 6), .ref (d 6), .ref (h 0), .ref (g 0)])], [(n 6, ob 3 [.ref (n 0), iv (pH X), iv (pA X), iv (pS X)])], linE T n (pX X), [(d 6, ob 3 [.ref (d 0), iv (pH Y), iv (pA Y), iv (pS Y)])], linE T d (pX Y), hisE T h b st sz nx H, prgE T g tx nm L s e p]) (rest := [iv (j : Int)]) (As := [iv 0]) (st' := [iv (gN (pX X)), iv (j : Int)]) hM (ct_count_0 M.2.1 T x n d h g b st X Y H sz nx tx nm L s e p (hX) (hH) (hst) (hsz) (hnx) (ht)) rfl rfl gL_guessesHold_X4_count rfl ⟨rfl, rfl⟩ hy_X4_count rfl ⟨by decide, by decide⟩ [0, 1, 2, 3, 4, 5, 6] rfl rfl rfl 0 4 rfl rfl rfl rfl rfl (Nat.le_of_ble_eq_true rfl) ⟨by decide, by decide⟩ rfl dL_guessesHold_25 ?_
    have hf25 := (hX).1.1.1
    refine xr_icmp_ge hM 100 dL_guessesHold_28 (by decide) (by omega) (fun c28 => by exfalso; omega) (fun c28 => ?_)
    refine xr_aload_n hM 0 dL_guessesHold_31 rfl rfl ?_
    refine xr_iload hM 5 dL_guessesHold_32 rfl ?_
    refine xr_iconst hM dL_guessesHold_34 ?_
    refine xr_callVG (sg := [[(x 0, ob 4 [.ref (n 6), .ref (d 6), .ref (h 0), .ref (g 0)])], [(n 6, ob 3 [.ref (n 0), iv (pH X), iv (pA X), iv (pS X)])], linE T n (pX X), [(d 6, ob 3 [.ref (d 0), iv (pH Y), iv (pA Y), iv (pS Y)])], linE T d (pX Y), hisE T h b st sz nx H, prgE T g tx nm L s e p]) (sg' := [[(x 0, ob 4 [.ref (n 6), .ref (d 6), .ref (h 0), .ref (g 0)])], [(n 6, ob 3 [.ref (n 0), iv (pH X), iv (pA X), iv (pS X)])], linE T n (pX X), [(d 6, ob 3 [.ref (d 0), iv (pH Y), iv (pA Y), iv (pS Y)])], linE T d (pX Y), hisE T h b st sz nx H, prgE T g tx nm L s e p]) (cs := [[(x 0, ob 4 [.ref (n 6), .ref (d 6), .ref (h 0), .ref (g 0)])], [(n 6, ob 3 [.ref (n 0), iv (pH X), iv (pA X), iv (pS X)])], linE T n (pX X), [(d 6, ob 3 [.ref (d 0), iv (pH Y), iv (pA Y), iv (pS Y)])], linE T d (pX Y), hisE T h b st sz nx H, prgE T g tx nm L s e p]) (cs' := [[(x 0, ob 4 [.ref (n 6), .ref (d 6), .ref (h 0), .ref (g 0)])], [(n 6, ob 3 [.ref (n 0), iv (pH X), iv (pA X), iv (pS X)])], linE T n (pX X), [(d 6, ob 3 [.ref (d 0), iv (pH Y), iv (pA Y), iv (pS Y)])], linE T d (pX Y), hisE T h b st sz nx H, prgE T g tx nm L s e p]) (rest := []) (As := [iv (j : Int), iv 0]) (st' := [iv (gK (pX X) j)]) hM (ct_line_0 M.2.1 T x n d h g b st X Y H sz nx tx nm L s e p (j : Int) (hX) (hH) (hst) (hsz) (hnx) (ht) (by omega)) rfl rfl gL_guessesHold_X4_line rfl ⟨rfl, rfl⟩ hy_X4_line rfl ⟨by decide, by decide⟩ [0, 1, 2, 3, 4, 5, 6] rfl rfl rfl 0 4 rfl rfl rfl rfl rfl (Nat.le_of_ble_eq_true rfl) ⟨by decide, by decide⟩ rfl dL_guessesHold_35 ?_
    have hf35 := (hX).1.1.2.2.1 j
    refine xr_iload_n hM 2 dL_guessesHold_38 rfl rfl ?_
    have jK : VV T M 7 [(0, .ref (x 0)), (1, iv 1), (2, iv kd), (3, iv (smF (gW (pX X)) (gK (pX X)) (gL (pX X)) (gM (pX X)) kd j)), (4, iv (cntF (gK (pX X)) (gM (pX X)) kd j)), (5, iv (j : Int))] (List.flatten [[(x 0, ob 4 [.ref (n 6), .ref (d 6), .ref (h 0), .ref (g 0)])], [(n 6, ob 3 [.ref (n 0), iv (pH X), iv (pA X), iv (pS X)])], linE T n (pX X), [(d 6, ob 3 [.ref (d 0), iv (pH Y), iv (pA Y), iv (pS Y)])], linE T d (pX Y), hisE T h b st sz nx H, prgE T g tx nm L s e p]) 0 0 58 [iv (bi (gM (pX X) j = 1 ∧ gK (pX X) j = kd))] := by
      refine xr_istore (lv' := [(0, .ref (x 0)), (1, iv 1), (2, iv kd), (3, iv (smF (gW (pX X)) (gK (pX X)) (gL (pX X)) (gM (pX X)) kd j)), (4, iv (cntF (gK (pX X)) (gM (pX X)) kd j)), (5, iv (j : Int)), (6, iv (bi (gM (pX X) j = 1 ∧ gK (pX X) j = kd)))]) hM dL_guessesHold_58 (by decide) rfl rfl ?_
      refine xr_iload_n hM 3 dL_guessesHold_60 rfl rfl ?_
      refine xr_iload hM 6 dL_guessesHold_61 rfl ?_
      have jK_1 : VV T M 7 [(0, .ref (x 0)), (1, iv 1), (2, iv kd), (3, iv (smF (gW (pX X)) (gK (pX X)) (gL (pX X)) (gM (pX X)) kd j)), (4, iv (cntF (gK (pX X)) (gM (pX X)) kd j)), (5, iv (j : Int)), (6, iv (bi (gM (pX X) j = 1 ∧ gK (pX X) j = kd)))] (List.flatten [[(x 0, ob 4 [.ref (n 6), .ref (d 6), .ref (h 0), .ref (g 0)])], [(n 6, ob 3 [.ref (n 0), iv (pH X), iv (pA X), iv (pS X)])], linE T n (pX X), [(d 6, ob 3 [.ref (d 0), iv (pH Y), iv (pA Y), iv (pS Y)])], linE T d (pX Y), hisE T h b st sz nx H, prgE T g tx nm L s e p]) 0 0 77 [iv (if gM (pX X) j = 1 ∧ gK (pX X) j = kd then tH (gW (pX X)) (gK (pX X) j) (gL (pX X) j) else 0), iv (smF (gW (pX X)) (gK (pX X)) (gL (pX X)) (gM (pX X)) kd j)] := by
        refine xr_iadd hM dL_guessesHold_77 ?_
        refine xr_istore_n (lv' := [(0, .ref (x 0)), (1, iv 1), (2, iv kd), (3, iv ((smF (gW (pX X)) (gK (pX X)) (gL (pX X)) (gM (pX X)) kd j) + (if gM (pX X) j = 1 ∧ gK (pX X) j = kd then tH (gW (pX X)) (gK (pX X) j) (gL (pX X) j) else 0))), (4, iv (cntF (gK (pX X)) (gM (pX X)) kd j)), (5, iv (j : Int)), (6, iv (bi (gM (pX X) j = 1 ∧ gK (pX X) j = kd)))]) hM dL_guessesHold_78 rfl (by decide) rfl rfl ?_
        refine xr_iload hM 4 dL_guessesHold_79 rfl ?_
        refine xr_iload hM 6 dL_guessesHold_81 rfl ?_
        have jK_2 : VV T M 7 [(0, .ref (x 0)), (1, iv 1), (2, iv kd), (3, iv ((smF (gW (pX X)) (gK (pX X)) (gL (pX X)) (gM (pX X)) kd j) + (if gM (pX X) j = 1 ∧ gK (pX X) j = kd then tH (gW (pX X)) (gK (pX X) j) (gL (pX X) j) else 0))), (4, iv (cntF (gK (pX X)) (gM (pX X)) kd j)), (5, iv (j : Int)), (6, iv (bi (gM (pX X) j = 1 ∧ gK (pX X) j = kd)))] (List.flatten [[(x 0, ob 4 [.ref (n 6), .ref (d 6), .ref (h 0), .ref (g 0)])], [(n 6, ob 3 [.ref (n 0), iv (pH X), iv (pA X), iv (pS X)])], linE T n (pX X), [(d 6, ob 3 [.ref (d 0), iv (pH Y), iv (pA Y), iv (pS Y)])], linE T d (pX Y), hisE T h b st sz nx H, prgE T g tx nm L s e p]) 0 0 91 [iv (if gM (pX X) j = 1 ∧ gK (pX X) j = kd then 1 else 0), iv (cntF (gK (pX X)) (gM (pX X)) kd j)] := by
          refine xr_iadd hM dL_guessesHold_91 ?_
          refine xr_istore (lv' := [(0, .ref (x 0)), (1, iv 1), (2, iv kd), (3, iv ((smF (gW (pX X)) (gK (pX X)) (gL (pX X)) (gM (pX X)) kd j) + (if gM (pX X) j = 1 ∧ gK (pX X) j = kd then tH (gW (pX X)) (gK (pX X) j) (gL (pX X) j) else 0))), (4, iv ((cntF (gK (pX X)) (gM (pX X)) kd j) + (if gM (pX X) j = 1 ∧ gK (pX X) j = kd then 1 else 0))), (5, iv (j : Int)), (6, iv (bi (gM (pX X) j = 1 ∧ gK (pX X) j = kd)))]) hM dL_guessesHold_92 (by decide) rfl rfl ?_
          refine xr_iinc (lv' := [(0, .ref (x 0)), (1, iv 1), (2, iv kd), (3, iv ((smF (gW (pX X)) (gK (pX X)) (gL (pX X)) (gM (pX X)) kd j) + (if gM (pX X) j = 1 ∧ gK (pX X) j = kd then tH (gW (pX X)) (gK (pX X) j) (gL (pX X) j) else 0))), (4, iv ((cntF (gK (pX X)) (gM (pX X)) kd j) + (if gM (pX X) j = 1 ∧ gK (pX X) j = kd then 1 else 0))), (5, iv ((j : Int) + 1)), (6, iv (bi (gM (pX X) j = 1 ∧ gK (pX X) j = kd)))]) hM 5 dL_guessesHold_94 rfl (by decide) rfl rfl ?_
          refine xr_goto hM 21 dL_guessesHold_97 (by decide) ?_
          refine xr_pick [0, 1, 2, 3, 4, 5] rfl ?_
          exact ih (j + 1) (by omega)
        refine xr_ifb_eq hM 90 dL_guessesHold_83 (by decide) (fun c83 => ?_) (fun c83 => ?_)
        · refine xr_iconst hM dL_guessesHold_90 ?_
          refine xr_topv (v' := if gM (pX X) j = 1 ∧ gK (pX X) j = kd then 1 else 0) ((if_neg c83).symm) ?_
          exact jK_2
        · refine xr_iconst hM dL_guessesHold_86 ?_
          refine xr_goto hM 91 dL_guessesHold_87 (by decide) ?_
          refine xr_topv (v' := if gM (pX X) j = 1 ∧ gK (pX X) j = kd then 1 else 0) ((if_pos c83).symm) ?_
          exact jK_2
      refine xr_ifb_eq hM 76 dL_guessesHold_63 (by decide) (fun c63 => ?_) (fun c63 => ?_)
      · refine xr_iconst hM dL_guessesHold_76 ?_
        refine xr_topv (v' := if gM (pX X) j = 1 ∧ gK (pX X) j = kd then tH (gW (pX X)) (gK (pX X) j) (gL (pX X) j) else 0) ((if_neg c63).symm) ?_
        exact jK_1
      · refine xr_aload_n hM 0 dL_guessesHold_66 rfl rfl ?_
        refine xr_iload hM 5 dL_guessesHold_67 rfl ?_
        refine xr_iconst hM dL_guessesHold_69 ?_
        refine xr_callVG (sg := [[(x 0, ob 4 [.ref (n 6), .ref (d 6), .ref (h 0), .ref (g 0)])], [(n 6, ob 3 [.ref (n 0), iv (pH X), iv (pA X), iv (pS X)])], linE T n (pX X), [(d 6, ob 3 [.ref (d 0), iv (pH Y), iv (pA Y), iv (pS Y)])], linE T d (pX Y), hisE T h b st sz nx H, prgE T g tx nm L s e p]) (sg' := [[(x 0, ob 4 [.ref (n 6), .ref (d 6), .ref (h 0), .ref (g 0)])], [(n 6, ob 3 [.ref (n 0), iv (pH X), iv (pA X), iv (pS X)])], linE T n (pX X), [(d 6, ob 3 [.ref (d 0), iv (pH Y), iv (pA Y), iv (pS Y)])], linE T d (pX Y), hisE T h b st sz nx H, prgE T g tx nm L s e p]) (cs := [[(x 0, ob 4 [.ref (n 6), .ref (d 6), .ref (h 0), .ref (g 0)])], [(n 6, ob 3 [.ref (n 0), iv (pH X), iv (pA X), iv (pS X)])], linE T n (pX X), [(d 6, ob 3 [.ref (d 0), iv (pH Y), iv (pA Y), iv (pS Y)])], linE T d (pX Y), hisE T h b st sz nx H, prgE T g tx nm L s e p]) (cs' := [[(x 0, ob 4 [.ref (n 6), .ref (d 6), .ref (h 0), .ref (g 0)])], [(n 6, ob 3 [.ref (n 0), iv (pH X), iv (pA X), iv (pS X)])], linE T n (pX X), [(d 6, ob 3 [.ref (d 0), iv (pH Y), iv (pA Y), iv (pS Y)])], linE T d (pX Y), hisE T h b st sz nx H, prgE T g tx nm L s e p]) (rest := [iv (smF (gW (pX X)) (gK (pX X)) (gL (pX X)) (gM (pX X)) kd j)]) (As := [iv (j : Int), iv 5]) (st' := [iv (tH (gW (pX X)) (gK (pX X) j) (gL (pX X) j)), iv (smF (gW (pX X)) (gK (pX X)) (gL (pX X)) (gM (pX X)) kd j)]) hM (ct_line_5 M.2.1 T x n d h g b st X Y H sz nx tx nm L s e p (j : Int) (hX) (hH) (hst) (hsz) (hnx) (ht) (by omega)) rfl rfl gL_guessesHold_X4_line rfl ⟨rfl, rfl⟩ hy_X4_line rfl ⟨by decide, by decide⟩ [0, 1, 2, 3, 4, 5, 6] rfl rfl rfl 0 4 rfl rfl rfl rfl rfl (Nat.le_of_ble_eq_true rfl) ⟨by decide, by decide⟩ rfl dL_guessesHold_70 ?_
        have hf70 := tH_b (kind := gK (pX X) j) ⟨((hX).1.1.2.2.1 j).2.1, (hX).1.1.2.1⟩
        refine xr_goto hM 77 dL_guessesHold_73 (by decide) ?_
        refine xr_topv (v' := if gM (pX X) j = 1 ∧ gK (pX X) j = kd then tH (gW (pX X)) (gK (pX X) j) (gL (pX X) j) else 0) ((if_pos c63).symm) ?_
        exact jK_1
    refine xr_icmp_ne hM 57 dL_guessesHold_39 (by decide) (by omega) (fun c39 => ?_) (fun c39 => ?_)
    · refine xr_iconst hM dL_guessesHold_57 ?_
      refine xr_topv (v' := bi (gM (pX X) j = 1 ∧ gK (pX X) j = kd)) ((bi_f (by omega)).symm) ?_
      exact jK
    · refine xr_aload_n hM 0 dL_guessesHold_42 rfl rfl ?_
      refine xr_iload hM 5 dL_guessesHold_43 rfl ?_
      refine xr_iconst hM dL_guessesHold_45 ?_
      refine xr_callVG (sg := [[(x 0, ob 4 [.ref (n 6), .ref (d 6), .ref (h 0), .ref (g 0)])], [(n 6, ob 3 [.ref (n 0), iv (pH X), iv (pA X), iv (pS X)])], linE T n (pX X), [(d 6, ob 3 [.ref (d 0), iv (pH Y), iv (pA Y), iv (pS Y)])], linE T d (pX Y), hisE T h b st sz nx H, prgE T g tx nm L s e p]) (sg' := [[(x 0, ob 4 [.ref (n 6), .ref (d 6), .ref (h 0), .ref (g 0)])], [(n 6, ob 3 [.ref (n 0), iv (pH X), iv (pA X), iv (pS X)])], linE T n (pX X), [(d 6, ob 3 [.ref (d 0), iv (pH Y), iv (pA Y), iv (pS Y)])], linE T d (pX Y), hisE T h b st sz nx H, prgE T g tx nm L s e p]) (cs := [[(x 0, ob 4 [.ref (n 6), .ref (d 6), .ref (h 0), .ref (g 0)])], [(n 6, ob 3 [.ref (n 0), iv (pH X), iv (pA X), iv (pS X)])], linE T n (pX X), [(d 6, ob 3 [.ref (d 0), iv (pH Y), iv (pA Y), iv (pS Y)])], linE T d (pX Y), hisE T h b st sz nx H, prgE T g tx nm L s e p]) (cs' := [[(x 0, ob 4 [.ref (n 6), .ref (d 6), .ref (h 0), .ref (g 0)])], [(n 6, ob 3 [.ref (n 0), iv (pH X), iv (pA X), iv (pS X)])], linE T n (pX X), [(d 6, ob 3 [.ref (d 0), iv (pH Y), iv (pA Y), iv (pS Y)])], linE T d (pX Y), hisE T h b st sz nx H, prgE T g tx nm L s e p]) (rest := []) (As := [iv (j : Int), iv 3]) (st' := [iv (gM (pX X) j)]) hM (ct_line_3 M.2.1 T x n d h g b st X Y H sz nx tx nm L s e p (j : Int) (hX) (hH) (hst) (hsz) (hnx) (ht) (by omega)) rfl rfl gL_guessesHold_X4_line rfl ⟨rfl, rfl⟩ hy_X4_line rfl ⟨by decide, by decide⟩ [0, 1, 2, 3, 4, 5, 6] rfl rfl rfl 0 4 rfl rfl rfl rfl rfl (Nat.le_of_ble_eq_true rfl) ⟨by decide, by decide⟩ rfl dL_guessesHold_46 ?_
      have hf46 := (hX).1.1.2.2.1 j
      refine xr_iconst hM dL_guessesHold_49 ?_
      refine xr_icmp_ne hM 57 dL_guessesHold_50 (by decide) (by omega) (fun c50 => ?_) (fun c50 => ?_)
      · refine xr_iconst hM dL_guessesHold_57 ?_
        refine xr_topv (v' := bi (gM (pX X) j = 1 ∧ gK (pX X) j = kd)) ((bi_f (by omega)).symm) ?_
        exact jK
      · refine xr_iconst hM dL_guessesHold_53 ?_
        refine xr_goto hM 58 dL_guessesHold_54 (by decide) ?_
        refine xr_topv (v' := bi (gM (pX X) j = 1 ∧ gK (pX X) j = kd)) ((bi_t (by omega)).symm) ?_
        exact jK

theorem ct_L_guessesHold (l : Launch) (T : TT) (x n d h g : Nat → Nat) (b : Nat → Nat → Nat) (st : Nat → Option Nat) (X Y : WnS) (H : Nat → WnS) (sz nx : Int) (tx nm : Nat → Int) (L s e p : Int)  (hX : WW X) (hH : ∀ k, WW (H k)) (hst : HST b st) (hsz : 0 ≤ sz ∧ sz ≤ 5) (hnx : 0 ≤ nx ∧ nx < 5) (ht : TXI tx L) (hS : SE X) : CT l yL_guessesHold wsL_guessesHold rm_L_guessesHold T [.ref (x 0)] (List.flatten [[(x 0, ob 4 [.ref (n 6), .ref (d 6), .ref (h 0), .ref (g 0)])], [(n 6, ob 3 [.ref (n 0), iv (pH X), iv (pA X), iv (pS X)])], linE T n (pX X), [(d 6, ob 3 [.ref (d 0), iv (pH Y), iv (pA Y), iv (pS Y)])], linE T d (pX Y), hisE T h b st sz nx H, prgE T g tx nm L s e p]) (some (iv 1)) (List.flatten [[(x 0, ob 4 [.ref (n 6), .ref (d 6), .ref (h 0), .ref (g 0)])], [(n 6, ob 3 [.ref (n 0), iv (pH X), iv (pA X), iv (pS X)])], linE T n (pX X), [(d 6, ob 3 [.ref (d 0), iv (pH Y), iv (pA Y), iv (pS Y)])], linE T d (pX Y), hisE T h b st sz nx H, prgE T g tx nm L s e p]) := by
  refine CT.Z (maxL := 7) (lv0 := [(0, .ref (x 0))]) hp_L_guessesHold rfl (Nat.le_of_ble_eq_true rfl) rfl rfl (fun M hM hF => ?_)
  have hn0 := hX.1.1.1
  have hwd := hX.1.1.2.1
  have hHH := hX.1.2.1
  have hAn := hX.an
  have hSb := hX.1.2.2.2.2
  have hSs := hX.2
  have hta := tpF_b hX.1.1 (pA X).toNat
  have htn := tpF_b hX.1.1 (gN (pX X)).toNat
  refine xr_iconst hM dL_guessesHold_0 ?_
  refine xr_istore_n (lv' := [(0, .ref (x 0)), (1, iv 1)]) hM dL_guessesHold_1 rfl (by decide) rfl rfl ?_
  refine xr_iconst hM dL_guessesHold_2 ?_
  refine xr_istore_n (lv' := [(0, .ref (x 0)), (1, iv 1), (2, iv 0)]) hM dL_guessesHold_3 rfl (by decide) rfl rfl ?_
  refine xr_iload_n hM 2 dL_guessesHold_4 rfl rfl ?_
  refine xr_iconst hM dL_guessesHold_5 ?_
  refine xr_icmp_ge hM 137 dL_guessesHold_6 (by decide) (by omega) (fun c6 => by exfalso; omega) (fun c6 => ?_)
  refine xr_iload_n hM 1 dL_guessesHold_9 rfl rfl ?_
  refine xr_if_eq hM 137 dL_guessesHold_10 (by decide) (by omega) (fun c10 => by exfalso; omega) (fun c10 => ?_)
  refine xr_iconst hM dL_guessesHold_13 ?_
  refine xr_istore_n (lv' := [(0, .ref (x 0)), (1, iv 1), (2, iv 0), (3, iv 0)]) hM dL_guessesHold_14 rfl (by decide) rfl rfl ?_
  refine xr_iconst hM dL_guessesHold_15 ?_
  refine xr_istore (lv' := [(0, .ref (x 0)), (1, iv 1), (2, iv 0), (3, iv 0), (4, iv 0)]) hM dL_guessesHold_16 (by decide) rfl rfl ?_
  refine xr_iconst hM dL_guessesHold_18 ?_
  refine xr_istore (lv' := [(0, .ref (x 0)), (1, iv 1), (2, iv 0), (3, iv 0), (4, iv 0), (5, iv 0)]) hM dL_guessesHold_19 (by decide) rfl rfl ?_
  refine xr_re (lv' := [(0, .ref (x 0)), (1, iv 1), (2, iv 0), (3, iv (smF (gW (pX X)) (gK (pX X)) (gL (pX X)) (gM (pX X)) 0 0)), (4, iv (cntF (gK (pX X)) (gM (pX X)) 0 0)), (5, iv ((0 : Nat) : Int))]) (ws' := List.flatten [[(x 0, ob 4 [.ref (n 6), .ref (d 6), .ref (h 0), .ref (g 0)])], [(n 6, ob 3 [.ref (n 0), iv (pH X), iv (pA X), iv (pS X)])], linE T n (pX X), [(d 6, ob 3 [.ref (d 0), iv (pH Y), iv (pA Y), iv (pS Y)])], linE T d (pX Y), hisE T h b st sz nx H, prgE T g tx nm L s e p]) (st' := []) rfl rfl rfl ?_
  refine lp_L_guessesHold x n d h g b st X Y H sz nx tx nm L s e p 0 hX hH hst hsz hnx ht (by decide) hM ?_ (gN (pX X)).toNat 0 (by omega)
  have hcn0 := cntF_b (gK (pX X)) (gM (pX X)) 0 (gN (pX X)).toNat
  have hsn0 := smF_b (gK (pX X)) (gL (pX X)) (gM (pX X)) 0 hwd (fun i => (hX.1.1.2.2.1 i).2.1) (gN (pX X)).toNat
  refine xr_aload_n hM 0 dL_guessesHold_100 rfl rfl ?_
  refine xr_bipush hM dL_guessesHold_101 (by decide) ?_
  refine xr_iload_n hM 2 dL_guessesHold_103 rfl rfl ?_
  refine xr_iadd hM dL_guessesHold_104 ?_
  refine xr_callVG (sg := [[(x 0, ob 4 [.ref (n 6), .ref (d 6), .ref (h 0), .ref (g 0)])], [(n 6, ob 3 [.ref (n 0), iv (pH X), iv (pA X), iv (pS X)])], linE T n (pX X), [(d 6, ob 3 [.ref (d 0), iv (pH Y), iv (pA Y), iv (pS Y)])], linE T d (pX Y), hisE T h b st sz nx H, prgE T g tx nm L s e p]) (sg' := [[(x 0, ob 4 [.ref (n 6), .ref (d 6), .ref (h 0), .ref (g 0)])], [(n 6, ob 3 [.ref (n 0), iv (pH X), iv (pA X), iv (pS X)])], linE T n (pX X), [(d 6, ob 3 [.ref (d 0), iv (pH Y), iv (pA Y), iv (pS Y)])], linE T d (pX Y), hisE T h b st sz nx H, prgE T g tx nm L s e p]) (cs := [[(x 0, ob 4 [.ref (n 6), .ref (d 6), .ref (h 0), .ref (g 0)])], [(n 6, ob 3 [.ref (n 0), iv (pH X), iv (pA X), iv (pS X)])], linE T n (pX X), [(d 6, ob 3 [.ref (d 0), iv (pH Y), iv (pA Y), iv (pS Y)])], linE T d (pX Y), hisE T h b st sz nx H, prgE T g tx nm L s e p]) (cs' := [[(x 0, ob 4 [.ref (n 6), .ref (d 6), .ref (h 0), .ref (g 0)])], [(n 6, ob 3 [.ref (n 0), iv (pH X), iv (pA X), iv (pS X)])], linE T n (pX X), [(d 6, ob 3 [.ref (d 0), iv (pH Y), iv (pA Y), iv (pS Y)])], linE T d (pX Y), hisE T h b st sz nx H, prgE T g tx nm L s e p]) (rest := []) (As := [iv (8 + 0)]) (st' := [iv (gsF (pX X) 0)]) hM (ct_count_g M.2.1 T x n d h g b st X Y H sz nx tx nm L s e p 0 (hX) (hH) (hst) (hsz) (hnx) (ht) (by omega)) rfl rfl gL_guessesHold_X4_count rfl ⟨rfl, rfl⟩ hy_X4_count rfl ⟨by decide, by decide⟩ [0, 1, 2, 3, 4, 5, 6] rfl rfl rfl 0 4 rfl rfl rfl rfl rfl (Nat.le_of_ble_eq_true rfl) ⟨by decide, by decide⟩ rfl dL_guessesHold_105 ?_
  have hf105 := gsF_b (hX).1.1 (show 0 ≤ 0 ∧ 0 ≤ 2 by omega)
  refine xr_iload hM 4 dL_guessesHold_108 rfl ?_
  have jK : VV T M 7 [(0, .ref (x 0)), (1, iv 1), (2, iv 0), (3, iv (smF (gW (pX X)) (gK (pX X)) (gL (pX X)) (gM (pX X)) 0 (gN (pX X)).toNat)), (4, iv (cntF (gK (pX X)) (gM (pX X)) 0 (gN (pX X)).toNat)), (5, iv ((gN (pX X)).toNat : Int))] (List.flatten [[(x 0, ob 4 [.ref (n 6), .ref (d 6), .ref (h 0), .ref (g 0)])], [(n 6, ob 3 [.ref (n 0), iv (pH X), iv (pA X), iv (pS X)])], linE T n (pX X), [(d 6, ob 3 [.ref (d 0), iv (pH Y), iv (pA Y), iv (pS Y)])], linE T d (pX Y), hisE T h b st sz nx H, prgE T g tx nm L s e p]) 0 0 122 [iv (gsF (pX X) 0), iv (gsF (pX X) 0)] := by
    refine xr_icmp_ne hM 129 dL_guessesHold_122 (by decide) (by omega) (fun c122 => by exfalso; omega) (fun c122 => ?_)
    refine xr_iconst hM dL_guessesHold_125 ?_
    refine xr_goto hM 130 dL_guessesHold_126 (by decide) ?_
    refine xr_istore_n (lv' := [(0, .ref (x 0)), (1, iv 1), (2, iv 0), (3, iv (smF (gW (pX X)) (gK (pX X)) (gL (pX X)) (gM (pX X)) 0 (gN (pX X)).toNat)), (4, iv (cntF (gK (pX X)) (gM (pX X)) 0 (gN (pX X)).toNat)), (5, iv ((gN (pX X)).toNat : Int))]) hM dL_guessesHold_130 rfl (by decide) rfl rfl ?_
    refine xr_iinc (lv' := [(0, .ref (x 0)), (1, iv 1), (2, iv 1), (3, iv (smF (gW (pX X)) (gK (pX X)) (gL (pX X)) (gM (pX X)) 0 (gN (pX X)).toNat)), (4, iv (cntF (gK (pX X)) (gM (pX X)) 0 (gN (pX X)).toNat)), (5, iv ((gN (pX X)).toNat : Int))]) hM 2 dL_guessesHold_131 rfl (by decide) rfl rfl ?_
    refine xr_goto hM 4 dL_guessesHold_134 (by decide) ?_
    refine xr_iload_n hM 2 dL_guessesHold_4 rfl rfl ?_
    refine xr_iconst hM dL_guessesHold_5 ?_
    refine xr_icmp_ge hM 137 dL_guessesHold_6 (by decide) (by omega) (fun c6_1 => by exfalso; omega) (fun c6_1 => ?_)
    refine xr_iload_n hM 1 dL_guessesHold_9 rfl rfl ?_
    refine xr_if_eq hM 137 dL_guessesHold_10 (by decide) (by omega) (fun c10_1 => by exfalso; omega) (fun c10_1 => ?_)
    refine xr_iconst hM dL_guessesHold_13 ?_
    refine xr_istore_n (lv' := [(0, .ref (x 0)), (1, iv 1), (2, iv 1), (3, iv 0), (4, iv (cntF (gK (pX X)) (gM (pX X)) 0 (gN (pX X)).toNat)), (5, iv ((gN (pX X)).toNat : Int))]) hM dL_guessesHold_14 rfl (by decide) rfl rfl ?_
    refine xr_iconst hM dL_guessesHold_15 ?_
    refine xr_istore (lv' := [(0, .ref (x 0)), (1, iv 1), (2, iv 1), (3, iv 0), (4, iv 0), (5, iv ((gN (pX X)).toNat : Int))]) hM dL_guessesHold_16 (by decide) rfl rfl ?_
    refine xr_iconst hM dL_guessesHold_18 ?_
    refine xr_istore (lv' := [(0, .ref (x 0)), (1, iv 1), (2, iv 1), (3, iv 0), (4, iv 0), (5, iv 0)]) hM dL_guessesHold_19 (by decide) rfl rfl ?_
    refine xr_re (lv' := [(0, .ref (x 0)), (1, iv 1), (2, iv 1), (3, iv (smF (gW (pX X)) (gK (pX X)) (gL (pX X)) (gM (pX X)) 1 0)), (4, iv (cntF (gK (pX X)) (gM (pX X)) 1 0)), (5, iv ((0 : Nat) : Int))]) (ws' := List.flatten [[(x 0, ob 4 [.ref (n 6), .ref (d 6), .ref (h 0), .ref (g 0)])], [(n 6, ob 3 [.ref (n 0), iv (pH X), iv (pA X), iv (pS X)])], linE T n (pX X), [(d 6, ob 3 [.ref (d 0), iv (pH Y), iv (pA Y), iv (pS Y)])], linE T d (pX Y), hisE T h b st sz nx H, prgE T g tx nm L s e p]) (st' := []) rfl rfl rfl ?_
    refine lp_L_guessesHold x n d h g b st X Y H sz nx tx nm L s e p 1 hX hH hst hsz hnx ht (by decide) hM ?_ (gN (pX X)).toNat 0 (by omega)
    have hcn1 := cntF_b (gK (pX X)) (gM (pX X)) 1 (gN (pX X)).toNat
    have hsn1 := smF_b (gK (pX X)) (gL (pX X)) (gM (pX X)) 1 hwd (fun i => (hX.1.1.2.2.1 i).2.1) (gN (pX X)).toNat
    refine xr_aload_n hM 0 dL_guessesHold_100 rfl rfl ?_
    refine xr_bipush hM dL_guessesHold_101 (by decide) ?_
    refine xr_iload_n hM 2 dL_guessesHold_103 rfl rfl ?_
    refine xr_iadd hM dL_guessesHold_104 ?_
    refine xr_callVG (sg := [[(x 0, ob 4 [.ref (n 6), .ref (d 6), .ref (h 0), .ref (g 0)])], [(n 6, ob 3 [.ref (n 0), iv (pH X), iv (pA X), iv (pS X)])], linE T n (pX X), [(d 6, ob 3 [.ref (d 0), iv (pH Y), iv (pA Y), iv (pS Y)])], linE T d (pX Y), hisE T h b st sz nx H, prgE T g tx nm L s e p]) (sg' := [[(x 0, ob 4 [.ref (n 6), .ref (d 6), .ref (h 0), .ref (g 0)])], [(n 6, ob 3 [.ref (n 0), iv (pH X), iv (pA X), iv (pS X)])], linE T n (pX X), [(d 6, ob 3 [.ref (d 0), iv (pH Y), iv (pA Y), iv (pS Y)])], linE T d (pX Y), hisE T h b st sz nx H, prgE T g tx nm L s e p]) (cs := [[(x 0, ob 4 [.ref (n 6), .ref (d 6), .ref (h 0), .ref (g 0)])], [(n 6, ob 3 [.ref (n 0), iv (pH X), iv (pA X), iv (pS X)])], linE T n (pX X), [(d 6, ob 3 [.ref (d 0), iv (pH Y), iv (pA Y), iv (pS Y)])], linE T d (pX Y), hisE T h b st sz nx H, prgE T g tx nm L s e p]) (cs' := [[(x 0, ob 4 [.ref (n 6), .ref (d 6), .ref (h 0), .ref (g 0)])], [(n 6, ob 3 [.ref (n 0), iv (pH X), iv (pA X), iv (pS X)])], linE T n (pX X), [(d 6, ob 3 [.ref (d 0), iv (pH Y), iv (pA Y), iv (pS Y)])], linE T d (pX Y), hisE T h b st sz nx H, prgE T g tx nm L s e p]) (rest := []) (As := [iv (8 + 1)]) (st' := [iv (gsF (pX X) 1)]) hM (ct_count_g M.2.1 T x n d h g b st X Y H sz nx tx nm L s e p 1 (hX) (hH) (hst) (hsz) (hnx) (ht) (by omega)) rfl rfl gL_guessesHold_X4_count rfl ⟨rfl, rfl⟩ hy_X4_count rfl ⟨by decide, by decide⟩ [0, 1, 2, 3, 4, 5, 6] rfl rfl rfl 0 4 rfl rfl rfl rfl rfl (Nat.le_of_ble_eq_true rfl) ⟨by decide, by decide⟩ rfl dL_guessesHold_105 ?_
    have hf105_1 := gsF_b (hX).1.1 (show 0 ≤ 1 ∧ 1 ≤ 2 by omega)
    refine xr_iload hM 4 dL_guessesHold_108 rfl ?_
    have jK_1 : VV T M 7 [(0, .ref (x 0)), (1, iv 1), (2, iv 1), (3, iv (smF (gW (pX X)) (gK (pX X)) (gL (pX X)) (gM (pX X)) 1 (gN (pX X)).toNat)), (4, iv (cntF (gK (pX X)) (gM (pX X)) 1 (gN (pX X)).toNat)), (5, iv ((gN (pX X)).toNat : Int))] (List.flatten [[(x 0, ob 4 [.ref (n 6), .ref (d 6), .ref (h 0), .ref (g 0)])], [(n 6, ob 3 [.ref (n 0), iv (pH X), iv (pA X), iv (pS X)])], linE T n (pX X), [(d 6, ob 3 [.ref (d 0), iv (pH Y), iv (pA Y), iv (pS Y)])], linE T d (pX Y), hisE T h b st sz nx H, prgE T g tx nm L s e p]) 0 0 122 [iv (gsF (pX X) 1), iv (gsF (pX X) 1)] := by
      refine xr_icmp_ne hM 129 dL_guessesHold_122 (by decide) (by omega) (fun c122_1 => by exfalso; omega) (fun c122_1 => ?_)
      refine xr_iconst hM dL_guessesHold_125 ?_
      refine xr_goto hM 130 dL_guessesHold_126 (by decide) ?_
      refine xr_istore_n (lv' := [(0, .ref (x 0)), (1, iv 1), (2, iv 1), (3, iv (smF (gW (pX X)) (gK (pX X)) (gL (pX X)) (gM (pX X)) 1 (gN (pX X)).toNat)), (4, iv (cntF (gK (pX X)) (gM (pX X)) 1 (gN (pX X)).toNat)), (5, iv ((gN (pX X)).toNat : Int))]) hM dL_guessesHold_130 rfl (by decide) rfl rfl ?_
      refine xr_iinc (lv' := [(0, .ref (x 0)), (1, iv 1), (2, iv 2), (3, iv (smF (gW (pX X)) (gK (pX X)) (gL (pX X)) (gM (pX X)) 1 (gN (pX X)).toNat)), (4, iv (cntF (gK (pX X)) (gM (pX X)) 1 (gN (pX X)).toNat)), (5, iv ((gN (pX X)).toNat : Int))]) hM 2 dL_guessesHold_131 rfl (by decide) rfl rfl ?_
      refine xr_goto hM 4 dL_guessesHold_134 (by decide) ?_
      refine xr_iload_n hM 2 dL_guessesHold_4 rfl rfl ?_
      refine xr_iconst hM dL_guessesHold_5 ?_
      refine xr_icmp_ge hM 137 dL_guessesHold_6 (by decide) (by omega) (fun c6_2 => by exfalso; omega) (fun c6_2 => ?_)
      refine xr_iload_n hM 1 dL_guessesHold_9 rfl rfl ?_
      refine xr_if_eq hM 137 dL_guessesHold_10 (by decide) (by omega) (fun c10_2 => by exfalso; omega) (fun c10_2 => ?_)
      refine xr_iconst hM dL_guessesHold_13 ?_
      refine xr_istore_n (lv' := [(0, .ref (x 0)), (1, iv 1), (2, iv 2), (3, iv 0), (4, iv (cntF (gK (pX X)) (gM (pX X)) 1 (gN (pX X)).toNat)), (5, iv ((gN (pX X)).toNat : Int))]) hM dL_guessesHold_14 rfl (by decide) rfl rfl ?_
      refine xr_iconst hM dL_guessesHold_15 ?_
      refine xr_istore (lv' := [(0, .ref (x 0)), (1, iv 1), (2, iv 2), (3, iv 0), (4, iv 0), (5, iv ((gN (pX X)).toNat : Int))]) hM dL_guessesHold_16 (by decide) rfl rfl ?_
      refine xr_iconst hM dL_guessesHold_18 ?_
      refine xr_istore (lv' := [(0, .ref (x 0)), (1, iv 1), (2, iv 2), (3, iv 0), (4, iv 0), (5, iv 0)]) hM dL_guessesHold_19 (by decide) rfl rfl ?_
      refine xr_re (lv' := [(0, .ref (x 0)), (1, iv 1), (2, iv 2), (3, iv (smF (gW (pX X)) (gK (pX X)) (gL (pX X)) (gM (pX X)) 2 0)), (4, iv (cntF (gK (pX X)) (gM (pX X)) 2 0)), (5, iv ((0 : Nat) : Int))]) (ws' := List.flatten [[(x 0, ob 4 [.ref (n 6), .ref (d 6), .ref (h 0), .ref (g 0)])], [(n 6, ob 3 [.ref (n 0), iv (pH X), iv (pA X), iv (pS X)])], linE T n (pX X), [(d 6, ob 3 [.ref (d 0), iv (pH Y), iv (pA Y), iv (pS Y)])], linE T d (pX Y), hisE T h b st sz nx H, prgE T g tx nm L s e p]) (st' := []) rfl rfl rfl ?_
      refine lp_L_guessesHold x n d h g b st X Y H sz nx tx nm L s e p 2 hX hH hst hsz hnx ht (by decide) hM ?_ (gN (pX X)).toNat 0 (by omega)
      have hcn2 := cntF_b (gK (pX X)) (gM (pX X)) 2 (gN (pX X)).toNat
      have hsn2 := smF_b (gK (pX X)) (gL (pX X)) (gM (pX X)) 2 hwd (fun i => (hX.1.1.2.2.1 i).2.1) (gN (pX X)).toNat
      refine xr_aload_n hM 0 dL_guessesHold_100 rfl rfl ?_
      refine xr_bipush hM dL_guessesHold_101 (by decide) ?_
      refine xr_iload_n hM 2 dL_guessesHold_103 rfl rfl ?_
      refine xr_iadd hM dL_guessesHold_104 ?_
      refine xr_callVG (sg := [[(x 0, ob 4 [.ref (n 6), .ref (d 6), .ref (h 0), .ref (g 0)])], [(n 6, ob 3 [.ref (n 0), iv (pH X), iv (pA X), iv (pS X)])], linE T n (pX X), [(d 6, ob 3 [.ref (d 0), iv (pH Y), iv (pA Y), iv (pS Y)])], linE T d (pX Y), hisE T h b st sz nx H, prgE T g tx nm L s e p]) (sg' := [[(x 0, ob 4 [.ref (n 6), .ref (d 6), .ref (h 0), .ref (g 0)])], [(n 6, ob 3 [.ref (n 0), iv (pH X), iv (pA X), iv (pS X)])], linE T n (pX X), [(d 6, ob 3 [.ref (d 0), iv (pH Y), iv (pA Y), iv (pS Y)])], linE T d (pX Y), hisE T h b st sz nx H, prgE T g tx nm L s e p]) (cs := [[(x 0, ob 4 [.ref (n 6), .ref (d 6), .ref (h 0), .ref (g 0)])], [(n 6, ob 3 [.ref (n 0), iv (pH X), iv (pA X), iv (pS X)])], linE T n (pX X), [(d 6, ob 3 [.ref (d 0), iv (pH Y), iv (pA Y), iv (pS Y)])], linE T d (pX Y), hisE T h b st sz nx H, prgE T g tx nm L s e p]) (cs' := [[(x 0, ob 4 [.ref (n 6), .ref (d 6), .ref (h 0), .ref (g 0)])], [(n 6, ob 3 [.ref (n 0), iv (pH X), iv (pA X), iv (pS X)])], linE T n (pX X), [(d 6, ob 3 [.ref (d 0), iv (pH Y), iv (pA Y), iv (pS Y)])], linE T d (pX Y), hisE T h b st sz nx H, prgE T g tx nm L s e p]) (rest := []) (As := [iv (8 + 2)]) (st' := [iv (gsF (pX X) 2)]) hM (ct_count_g M.2.1 T x n d h g b st X Y H sz nx tx nm L s e p 2 (hX) (hH) (hst) (hsz) (hnx) (ht) (by omega)) rfl rfl gL_guessesHold_X4_count rfl ⟨rfl, rfl⟩ hy_X4_count rfl ⟨by decide, by decide⟩ [0, 1, 2, 3, 4, 5, 6] rfl rfl rfl 0 4 rfl rfl rfl rfl rfl (Nat.le_of_ble_eq_true rfl) ⟨by decide, by decide⟩ rfl dL_guessesHold_105 ?_
      have hf105_2 := gsF_b (hX).1.1 (show 0 ≤ 2 ∧ 2 ≤ 2 by omega)
      refine xr_iload hM 4 dL_guessesHold_108 rfl ?_
      have jK_2 : VV T M 7 [(0, .ref (x 0)), (1, iv 1), (2, iv 2), (3, iv (smF (gW (pX X)) (gK (pX X)) (gL (pX X)) (gM (pX X)) 2 (gN (pX X)).toNat)), (4, iv (cntF (gK (pX X)) (gM (pX X)) 2 (gN (pX X)).toNat)), (5, iv ((gN (pX X)).toNat : Int))] (List.flatten [[(x 0, ob 4 [.ref (n 6), .ref (d 6), .ref (h 0), .ref (g 0)])], [(n 6, ob 3 [.ref (n 0), iv (pH X), iv (pA X), iv (pS X)])], linE T n (pX X), [(d 6, ob 3 [.ref (d 0), iv (pH Y), iv (pA Y), iv (pS Y)])], linE T d (pX Y), hisE T h b st sz nx H, prgE T g tx nm L s e p]) 0 0 122 [iv (gsF (pX X) 2), iv (gsF (pX X) 2)] := by
        refine xr_icmp_ne hM 129 dL_guessesHold_122 (by decide) (by omega) (fun c122_2 => by exfalso; omega) (fun c122_2 => ?_)
        refine xr_iconst hM dL_guessesHold_125 ?_
        refine xr_goto hM 130 dL_guessesHold_126 (by decide) ?_
        refine xr_istore_n (lv' := [(0, .ref (x 0)), (1, iv 1), (2, iv 2), (3, iv (smF (gW (pX X)) (gK (pX X)) (gL (pX X)) (gM (pX X)) 2 (gN (pX X)).toNat)), (4, iv (cntF (gK (pX X)) (gM (pX X)) 2 (gN (pX X)).toNat)), (5, iv ((gN (pX X)).toNat : Int))]) hM dL_guessesHold_130 rfl (by decide) rfl rfl ?_
        refine xr_iinc (lv' := [(0, .ref (x 0)), (1, iv 1), (2, iv 3), (3, iv (smF (gW (pX X)) (gK (pX X)) (gL (pX X)) (gM (pX X)) 2 (gN (pX X)).toNat)), (4, iv (cntF (gK (pX X)) (gM (pX X)) 2 (gN (pX X)).toNat)), (5, iv ((gN (pX X)).toNat : Int))]) hM 2 dL_guessesHold_131 rfl (by decide) rfl rfl ?_
        refine xr_goto hM 4 dL_guessesHold_134 (by decide) ?_
        refine xr_iload_n hM 2 dL_guessesHold_4 rfl rfl ?_
        refine xr_iconst hM dL_guessesHold_5 ?_
        refine xr_icmp_ge hM 137 dL_guessesHold_6 (by decide) (by omega) (fun c6_3 => ?_) (fun c6_3 => by exfalso; omega)
        refine xr_iload_n hM 1 dL_guessesHold_137 rfl rfl ?_
        exact xr_iret hF dL_guessesHold_138 rfl rfl
      refine xr_if_ne hM 118 dL_guessesHold_110 (by decide) (by omega) (fun c110 => ?_) (fun c110 => ?_)
      · refine xr_iload_n hM 3 dL_guessesHold_118 rfl rfl ?_
        refine xr_iload hM 4 dL_guessesHold_119 rfl ?_
        refine xr_idiv hM dL_guessesHold_121 (by omega) ?_
        refine xr_topv (v' := gsF (pX X) 2) (by rw [gsF_e hX.1.1 (by decide), if_neg (by omega)]) ?_
        exact jK_2
      · refine xr_bipush hM dL_guessesHold_113 (by decide) ?_
        refine xr_goto hM 122 dL_guessesHold_115 (by decide) ?_
        refine xr_topv (v' := gsF (pX X) 2) (by rw [gsF_e hX.1.1 (by decide), if_pos (by omega)]) ?_
        exact jK_2
    refine xr_if_ne hM 118 dL_guessesHold_110 (by decide) (by omega) (fun c110_1 => ?_) (fun c110_1 => ?_)
    · refine xr_iload_n hM 3 dL_guessesHold_118 rfl rfl ?_
      refine xr_iload hM 4 dL_guessesHold_119 rfl ?_
      refine xr_idiv hM dL_guessesHold_121 (by omega) ?_
      refine xr_topv (v' := gsF (pX X) 1) (by rw [gsF_e hX.1.1 (by decide), if_neg (by omega)]) ?_
      exact jK_1
    · refine xr_bipush hM dL_guessesHold_113 (by decide) ?_
      refine xr_goto hM 122 dL_guessesHold_115 (by decide) ?_
      refine xr_topv (v' := gsF (pX X) 1) (by rw [gsF_e hX.1.1 (by decide), if_pos (by omega)]) ?_
      exact jK_1
  refine xr_if_ne hM 118 dL_guessesHold_110 (by decide) (by omega) (fun c110_2 => ?_) (fun c110_2 => ?_)
  · refine xr_iload_n hM 3 dL_guessesHold_118 rfl rfl ?_
    refine xr_iload hM 4 dL_guessesHold_119 rfl ?_
    refine xr_idiv hM dL_guessesHold_121 (by omega) ?_
    refine xr_topv (v' := gsF (pX X) 0) (by rw [gsF_e hX.1.1 (by decide), if_neg (by omega)]) ?_
    exact jK
  · refine xr_bipush hM dL_guessesHold_113 (by decide) ?_
    refine xr_goto hM 122 dL_guessesHold_115 (by decide) ?_
    refine xr_topv (v' := gsF (pX X) 0) (by rw [gsF_e hX.1.1 (by decide), if_pos (by omega)]) ?_
    exact jK

