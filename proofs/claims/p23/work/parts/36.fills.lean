/-- what a filling call does to the state, and some of them -/
abbrev QS : Type := WnS × WnS × Int × Int × (Nat → WnS)
def flP (T : TT) (k : Nat) (X : WnS) : Int × WnS := puR X (celF T (k : Int) % ((k : Int) + 1)) (celF T (k : Int) / 64 % 3) (sizF (celF T (k : Int) / 256))
def flS (T : TT) (k : Nat) (R : QS) : QS := ((flP T k R.1).2, (flP T k R.1).2, min (R.2.2.1 + 1) 5, (R.2.2.2.1 + 1) % 5, upW R.2.2.2.2 R.2.2.2.1 R.1)
def flL (T : TT) : Nat → Nat → QS → QS
  | 0, _, R => R
  | f + 1, k, R => flL T f (k + 1) (flS T k R)
def FLI (k : Int) (R : QS) : Prop := SE R.1 ∧ (∀ j, SE (R.2.2.2.2 j)) ∧ (0 ≤ R.2.2.1 ∧ R.2.2.1 ≤ 5) ∧ (0 ≤ R.2.2.2.1 ∧ R.2.2.2.1 < 5) ∧ gN (pX R.1) = k
theorem FLI_s {T : TT} {k : Nat} {R : QS} (h : FLI (k : Int) R) (hk : k < 50) : FLI ((k + 1 : Nat) : Int) (flS T k R) := by
  obtain ⟨h1, h2, h3, h4, h5⟩ := h
  have hc := celF_b T (k : Int)
  have hs := sizF_b (show 0 ≤ celF T (k : Int) / 256 by omega)
  have hm : 0 ≤ celF T (k : Int) % ((k : Int) + 1) ∧ celF T (k : Int) % ((k : Int) + 1) < (k : Int) + 1 := ⟨Int.emod_nonneg _ (by omega), Int.emod_lt_of_pos _ (by omega)⟩
  have hp := pu_ok h1 (i := celF T (k : Int) % ((k : Int) + 1)) (kd := celF T (k : Int) / 64 % 3) (ln := sizF (celF T (k : Int) / 256)) (by omega) (by omega) (by omega) hs
  refine ⟨SE_pu h1 _ _ _, SE_up h2 h1, ?_, ?_, ?_⟩
  · show 0 ≤ min (R.2.2.1 + 1) 5 ∧ min (R.2.2.1 + 1) 5 ≤ 5
    omega
  · show 0 ≤ (R.2.2.2.1 + 1) % 5 ∧ (R.2.2.2.1 + 1) % 5 < 5
    omega
  · show gN (pX (flP T k R.1).2) = ((k + 1 : Nat) : Int)
    unfold flP
    omega
theorem FLI_L {T : TT} : ∀ (f k : Nat) (R : QS), FLI (k : Int) R → k + f ≤ 50 → FLI ((k + f : Nat) : Int) (flL T f k R) := by
  intro f
  induction f with
  | zero => intro k R h _; exact h
  | succ f ih =>
    intro k R h hk
    have h2 := ih (k + 1) (flS T k R) (FLI_s h (by omega)) (by omega)
    rw [show k + (f + 1) = k + 1 + f by omega]
    exact h2

theorem lp_L_fills {T : TT} {M : MB} (x n d h g : Nat → Nat) (b : Nat → Nat → Nat) (st : Nat → Option Nat) (tx nm : Nat → Int) (L s e p : Int) (R : QS) (hst : HST b st) (ht : TXI tx L) (hT : T.2.2.2.2.2.2.1 < 2147483648) (hM : FM T M cL_fills RL 6 wsL_fills rm_L_fills) (hF : FinI T M cL_fills 6 (iv 1) (List.flatten [[(x 0, ob 4 [.ref (n 6), .ref (d 6), .ref (h 0), .ref (g 0)])], [(n 6, ob 3 [.ref (n 0), iv (pH R.1), iv (pA R.1), iv (pS R.1)])], linE T n (pX R.1), [(d 6, ob 3 [.ref (d 0), iv (pH R.2.1), iv (pA R.2.1), iv (pS R.2.1)])], linE T d (pX R.2.1), hisE T h b st R.2.2.1 R.2.2.2.1 R.2.2.2.2, prgE T g tx nm L s e p])) : ∀ (f k : Nat) (X Y : WnS) (H : Nat → WnS) (sz nx : Int), WW X → (∀ k, WW (H k)) → (0 ≤ sz ∧ sz ≤ 5) → (0 ≤ nx ∧ nx < 5) → FLI (k : Int) (X, Y, sz, nx, H) → k + f = 6 → flL T f k (X, Y, sz, nx, H) = R → VV T M 6 [(0, .ref (x 0)), (1, .ref T.2.2.2.2.2.1), (2, iv 6), (3, iv 1), (4, iv (k : Int))] (List.flatten [[(x 0, ob 4 [.ref (n 6), .ref (d 6), .ref (h 0), .ref (g 0)])], [(n 6, ob 3 [.ref (n 0), iv (pH X), iv (pA X), iv (pS X)])], linE T n (pX X), [(d 6, ob 3 [.ref (d 0), iv (pH Y), iv (pA Y), iv (pS Y)])], linE T d (pX Y), hisE T h b st sz nx H, prgE T g tx nm L s e p]) 0 0 5 [] := by
  intro f
  induction f with
  | zero =>
    intro k X Y H sz nx hX hH hsz hnx hI hk hR
    have hn0 := hX.1.1.1
    have hwd := hX.1.1.2.1
    have hHH := hX.1.2.1
    have hAn := hX.an
    have hSb := hX.1.2.2.2.2
    have hSs := hX.2
    have hta := tpF_b hX.1.1 (pA X).toNat
    have htn := tpF_b hX.1.1 (gN (pX X)).toNat
    refine xr_iload hM 4 dL_fills_5 rfl ?_
    refine xr_iload_n hM 2 dL_fills_7 rfl rfl ?_
    refine xr_icmp_ge hM 65 dL_fills_8 (by decide) (by omega) (fun c8 => ?_) (fun c8 => by exfalso; omega)
    refine xr_iload_n hM 3 dL_fills_65 rfl rfl ?_
    exact xr_iret hF dL_fills_66 rfl (by rw [← hR] <;> rfl)
  | succ f ih =>
    intro k X Y H sz nx hX hH hsz hnx hI hk hR
    have hn0 := hX.1.1.1
    have hwd := hX.1.1.2.1
    have hHH := hX.1.2.1
    have hAn := hX.an
    have hSb := hX.1.2.2.2.2
    have hSs := hX.2
    have hta := tpF_b hX.1.1 (pA X).toNat
    have htn := tpF_b hX.1.1 (gN (pX X)).toNat
    have hI1 := FLI_s (T := T) hI (by omega)
    have hgk : gN (pX X) = (k : Int) := hI.2.2.2.2
    refine xr_iload hM 4 dL_fills_5 rfl ?_
    refine xr_iload_n hM 2 dL_fills_7 rfl rfl ?_
    refine xr_icmp_ge hM 65 dL_fills_8 (by decide) (by omega) (fun c8 => by exfalso; omega) (fun c8 => ?_)
    refine xr_iload_n hM 3 dL_fills_11 rfl rfl ?_
    refine xr_if_eq hM 65 dL_fills_12 (by decide) (by omega) (fun c12 => by exfalso; omega) (fun c12 => ?_)
    refine xr_aload_n hM 1 dL_fills_15 rfl rfl ?_
    refine xr_iload hM 4 dL_fills_16 rfl ?_
    refine xr_callSr (rest := []) (As := [.ref T.2.2.2.2.2.1, iv (k : Int)]) (st' := [iv (celF T (k : Int))]) hM (ct_L_cell M.2.1 T (k : Int) (by omega) (hT)) gL_fills_L_cell rfl ⟨rfl, rfl⟩ hy_L_cell rfl ⟨by decide, by decide⟩ [] rfl rfl rfl rfl (Nat.le_of_ble_eq_true rfl) ⟨by decide, by decide⟩ dL_fills_18 ?_
    have hf18 := celF_b T (k : Int)
    refine xr_istore (lv' := [(0, .ref (x 0)), (1, .ref T.2.2.2.2.2.1), (2, iv 6), (3, iv 1), (4, iv (k : Int)), (5, iv (celF T (k : Int)))]) hM dL_fills_21 (by decide) rfl rfl ?_
    have hzm : 0 ≤ celF T (k : Int) % ((k : Int) + 1) ∧ celF T (k : Int) % ((k : Int) + 1) < (k : Int) + 1 := ⟨Int.emod_nonneg _ (by omega), Int.emod_lt_of_pos _ (by omega)⟩
    refine xr_aload_n hM 0 dL_fills_23 rfl rfl ?_
    refine xr_iload hM 5 dL_fills_24 rfl ?_
    refine xr_iload hM 4 dL_fills_26 rfl ?_
    refine xr_iconst hM dL_fills_28 ?_
    refine xr_iadd hM dL_fills_29 ?_
    refine xr_irem hM dL_fills_30 (by omega) ?_
    refine xr_iload hM 5 dL_fills_31 rfl ?_
    refine xr_bipush hM dL_fills_33 (by decide) ?_
    refine xr_idiv hM dL_fills_35 (by omega) ?_
    refine xr_iconst hM dL_fills_36 ?_
    refine xr_irem hM dL_fills_37 (by omega) ?_
    refine xr_iload hM 5 dL_fills_38 rfl ?_
    refine xr_sipush hM dL_fills_40 (by decide) ?_
    refine xr_idiv hM dL_fills_43 (by omega) ?_
    refine xr_callSr (rest := [iv (((celF T (k : Int)) / 64) % 3), iv ((celF T (k : Int)) % ((k : Int) + 1)), .ref (x 0)]) (As := [iv ((celF T (k : Int)) / 256)]) (st' := [iv (sizF ((celF T (k : Int)) / 256)), iv (((celF T (k : Int)) / 64) % 3), iv ((celF T (k : Int)) % ((k : Int) + 1)), .ref (x 0)]) hM (ct_L_size M.2.1 T ((celF T (k : Int)) / 256) (by omega)) gL_fills_L_size rfl ⟨rfl, rfl⟩ hy_L_size rfl ⟨by decide, by decide⟩ [] rfl rfl rfl rfl (Nat.le_of_ble_eq_true rfl) ⟨by decide, by decide⟩ dL_fills_44 ?_
    have hf44 := sizF_b (show 0 ≤ ((celF T (k : Int)) / 256) by omega)
    have hS : SE X := hI.1
    refine xr_callVG (sg := [[(x 0, ob 4 [.ref (n 6), .ref (d 6), .ref (h 0), .ref (g 0)])], [(n 6, ob 3 [.ref (n 0), iv (pH X), iv (pA X), iv (pS X)])], linE T n (pX X), [(d 6, ob 3 [.ref (d 0), iv (pH Y), iv (pA Y), iv (pS Y)])], linE T d (pX Y), hisE T h b st sz nx H, prgE T g tx nm L s e p]) (sg' := [[(x 0, ob 4 [.ref (n 6), .ref (d 6), .ref (h 0), .ref (g 0)])], [(n 6, ob 3 [.ref (n 0), iv (pH ((puR X ((celF T (k : Int)) % ((k : Int) + 1)) (((celF T (k : Int)) / 64) % 3) (sizF ((celF T (k : Int)) / 256))).2)), iv (pA ((puR X ((celF T (k : Int)) % ((k : Int) + 1)) (((celF T (k : Int)) / 64) % 3) (sizF ((celF T (k : Int)) / 256))).2)), iv (pS ((puR X ((celF T (k : Int)) % ((k : Int) + 1)) (((celF T (k : Int)) / 64) % 3) (sizF ((celF T (k : Int)) / 256))).2))])], linE T n (pX ((puR X ((celF T (k : Int)) % ((k : Int) + 1)) (((celF T (k : Int)) / 64) % 3) (sizF ((celF T (k : Int)) / 256))).2)), [(d 6, ob 3 [.ref (d 0), iv (pH ((puR X ((celF T (k : Int)) % ((k : Int) + 1)) (((celF T (k : Int)) / 64) % 3) (sizF ((celF T (k : Int)) / 256))).2)), iv (pA ((puR X ((celF T (k : Int)) % ((k : Int) + 1)) (((celF T (k : Int)) / 64) % 3) (sizF ((celF T (k : Int)) / 256))).2)), iv (pS ((puR X ((celF T (k : Int)) % ((k : Int) + 1)) (((celF T (k : Int)) / 64) % 3) (sizF ((celF T (k : Int)) / 256))).2))])], linE T d (pX ((puR X ((celF T (k : Int)) % ((k : Int) + 1)) (((celF T (k : Int)) / 64) % 3) (sizF ((celF T (k : Int)) / 256))).2)), hisE T h b st (min (sz + 1) 5) ((nx + 1) % 5) (upW H nx X), prgE T g tx nm L s e p]) (cs := [[(x 0, ob 4 [.ref (n 6), .ref (d 6), .ref (h 0), .ref (g 0)])], [(n 6, ob 3 [.ref (n 0), iv (pH X), iv (pA X), iv (pS X)])], linE T n (pX X), [(d 6, ob 3 [.ref (d 0), iv (pH Y), iv (pA Y), iv (pS Y)])], linE T d (pX Y), hisE T h b st sz nx H, prgE T g tx nm L s e p]) (cs' := [[(x 0, ob 4 [.ref (n 6), .ref (d 6), .ref (h 0), .ref (g 0)])], [(n 6, ob 3 [.ref (n 0), iv (pH ((puR X ((celF T (k : Int)) % ((k : Int) + 1)) (((celF T (k : Int)) / 64) % 3) (sizF ((celF T (k : Int)) / 256))).2)), iv (pA ((puR X ((celF T (k : Int)) % ((k : Int) + 1)) (((celF T (k : Int)) / 64) % 3) (sizF ((celF T (k : Int)) / 256))).2)), iv (pS ((puR X ((celF T (k : Int)) % ((k : Int) + 1)) (((celF T (k : Int)) / 64) % 3) (sizF ((celF T (k : Int)) / 256))).2))])], linE T n (pX ((puR X ((celF T (k : Int)) % ((k : Int) + 1)) (((celF T (k : Int)) / 64) % 3) (sizF ((celF T (k : Int)) / 256))).2)), [(d 6, ob 3 [.ref (d 0), iv (pH ((puR X ((celF T (k : Int)) % ((k : Int) + 1)) (((celF T (k : Int)) / 64) % 3) (sizF ((celF T (k : Int)) / 256))).2)), iv (pA ((puR X ((celF T (k : Int)) % ((k : Int) + 1)) (((celF T (k : Int)) / 64) % 3) (sizF ((celF T (k : Int)) / 256))).2)), iv (pS ((puR X ((celF T (k : Int)) % ((k : Int) + 1)) (((celF T (k : Int)) / 64) % 3) (sizF ((celF T (k : Int)) / 256))).2))])], linE T d (pX ((puR X ((celF T (k : Int)) % ((k : Int) + 1)) (((celF T (k : Int)) / 64) % 3) (sizF ((celF T (k : Int)) / 256))).2)), hisE T h b st (min (sz + 1) 5) ((nx + 1) % 5) (upW H nx X), prgE T g tx nm L s e p]) (rest := []) (As := [iv ((celF T (k : Int)) % ((k : Int) + 1)), iv (((celF T (k : Int)) / 64) % 3), iv (sizF ((celF T (k : Int)) / 256))]) (st' := [iv ((puR X ((celF T (k : Int)) % ((k : Int) + 1)) (((celF T (k : Int)) / 64) % 3) (sizF ((celF T (k : Int)) / 256))).1)]) hM (ct_put_ok M.2.1 T x n d h g b st X Y H sz nx tx nm L s e p ((celF T (k : Int)) % ((k : Int) + 1)) (((celF T (k : Int)) / 64) % 3) (sizF ((celF T (k : Int)) / 256)) (hX) (hH) (hst) (hsz) (hnx) (ht) (by omega) (by omega) (by omega) (by omega) (hS)) rfl rfl gL_fills_X4_put rfl ⟨rfl, rfl⟩ hy_X4_put rfl ⟨by decide, by decide⟩ [0, 1, 2, 3, 4, 5, 6] rfl rfl rfl 0 4 rfl rfl rfl rfl rfl (Nat.le_of_ble_eq_true rfl) ⟨by decide, by decide⟩ rfl dL_fills_47 ?_
    have hf47 := pu_oE X ((celF T (k : Int)) % ((k : Int) + 1)) (((celF T (k : Int)) / 64) % 3) (sizF ((celF T (k : Int)) / 256)) (hS) (by omega) (by omega) (by omega) (by omega)
    have hf47_1 := puR_v (hX) ((celF T (k : Int)) % ((k : Int) + 1)) (((celF T (k : Int)) / 64) % 3) (sizF ((celF T (k : Int)) / 256))
    refine xr_if_lt hM 57 dL_fills_50 (by decide) (by omega) (fun c50 => by exfalso; omega) (fun c50 => ?_)
    refine xr_iconst hM dL_fills_53 ?_
    refine xr_goto hM 58 dL_fills_54 (by decide) ?_
    refine xr_istore_n (lv' := [(0, .ref (x 0)), (1, .ref T.2.2.2.2.2.1), (2, iv 6), (3, iv 1), (4, iv (k : Int)), (5, iv (celF T (k : Int)))]) hM dL_fills_58 rfl (by decide) rfl rfl ?_
    refine xr_iinc (lv' := [(0, .ref (x 0)), (1, .ref T.2.2.2.2.2.1), (2, iv 6), (3, iv 1), (4, iv ((k : Int) + 1)), (5, iv (celF T (k : Int)))]) hM 4 dL_fills_59 rfl (by decide) rfl rfl ?_
    refine xr_goto hM 5 dL_fills_62 (by decide) ?_
    refine xr_pick [0, 1, 2, 3, 4] rfl ?_
    exact ih (k + 1) (flP T k X).2 (flP T k X).2 (upW H nx X) (min (sz + 1) 5) ((nx + 1) % 5) hI1.1.1 (fun j => (hI1.2.1 j).1) hI1.2.2.1 hI1.2.2.2.1 hI1 (by omega) hR

theorem ct_L_fills (l : Launch) (T : TT) (x n d h g : Nat → Nat) (b : Nat → Nat → Nat) (st : Nat → Option Nat) (X Y : WnS) (H : Nat → WnS) (sz nx : Int) (tx nm : Nat → Int) (L s e p : Int)  (hX : WW X) (hH : ∀ k, WW (H k)) (hst : HST b st) (hsz : 0 ≤ sz ∧ sz ≤ 5) (hnx : 0 ≤ nx ∧ nx < 5) (ht : TXI tx L) (hI : FLI 0 (X, Y, sz, nx, H)) (hT : T.2.2.2.2.2.2.1 < 2147483648) : CT l yL_fills wsL_fills rm_L_fills T [.ref (x 0), .ref T.2.2.2.2.2.1, iv 6] (List.flatten [[(x 0, ob 4 [.ref (n 6), .ref (d 6), .ref (h 0), .ref (g 0)])], [(n 6, ob 3 [.ref (n 0), iv (pH X), iv (pA X), iv (pS X)])], linE T n (pX X), [(d 6, ob 3 [.ref (d 0), iv (pH Y), iv (pA Y), iv (pS Y)])], linE T d (pX Y), hisE T h b st sz nx H, prgE T g tx nm L s e p]) (some (iv 1)) (List.flatten [[(x 0, ob 4 [.ref (n 6), .ref (d 6), .ref (h 0), .ref (g 0)])], [(n 6, ob 3 [.ref (n 0), iv (pH ((flL T 6 0 (X, Y, sz, nx, H)).1)), iv (pA ((flL T 6 0 (X, Y, sz, nx, H)).1)), iv (pS ((flL T 6 0 (X, Y, sz, nx, H)).1))])], linE T n (pX ((flL T 6 0 (X, Y, sz, nx, H)).1)), [(d 6, ob 3 [.ref (d 0), iv (pH ((flL T 6 0 (X, Y, sz, nx, H)).2.1)), iv (pA ((flL T 6 0 (X, Y, sz, nx, H)).2.1)), iv (pS ((flL T 6 0 (X, Y, sz, nx, H)).2.1))])], linE T d (pX ((flL T 6 0 (X, Y, sz, nx, H)).2.1)), hisE T h b st ((flL T 6 0 (X, Y, sz, nx, H)).2.2.1) ((flL T 6 0 (X, Y, sz, nx, H)).2.2.2.1) ((flL T 6 0 (X, Y, sz, nx, H)).2.2.2.2), prgE T g tx nm L s e p]) := by
  refine CT.Z (maxL := 6) (lv0 := [(0, .ref (x 0)), (1, .ref T.2.2.2.2.2.1), (2, iv 6)]) hp_L_fills rfl (Nat.le_of_ble_eq_true rfl) rfl rfl (fun M hM hF => ?_)
  have hn := hX.1.1.1
  have hwd := hX.1.1.2.1
  have hHH := hX.1.2.1
  have hSb := hX.1.2.2.2.2
  have hSs := hX.2
  have hAn := hX.an
  refine xr_iconst hM dL_fills_0 ?_
  refine xr_istore_n (lv' := [(0, .ref (x 0)), (1, .ref T.2.2.2.2.2.1), (2, iv 6), (3, iv 1)]) hM dL_fills_1 rfl (by decide) rfl rfl ?_
  refine xr_iconst hM dL_fills_2 ?_
  refine xr_istore (lv' := [(0, .ref (x 0)), (1, .ref T.2.2.2.2.2.1), (2, iv 6), (3, iv 1), (4, iv 0)]) hM dL_fills_3 (by decide) rfl rfl ?_
  exact lp_L_fills x n d h g b st tx nm L s e p _ hst ht hT hM hF 6 0 X Y H sz nx hX hH hsz hnx hI rfl rfl

