/-! ===== PURE: a settled window, and what the law asks of it ===== -/
theorem xr_topv {T : TT} {M : MB} {nL : Nat} {lv : List (Nat × Value)} {ws : va_W} {ce sl pc : Nat} {rest : List Value} {v v' : Int} (h : v = v') (k : VV T M nL lv ws ce sl pc (iv v' :: rest)) : VV T M nL lv ws ce sl pc (iv v :: rest) := by
  subst h
  exact k
theorem xr_pick {T : TT} {M : MB} {nL : Nat} {lv lv' : List (Nat × Value)} {ws : va_W} {ce sl pc : Nat} {rest : List Value} (ks : List Nat) (h : lv_pick lv ks = lv') (k : VV T M nL lv' ws ce sl pc rest) : VV T M nL lv ws ce sl pc rest :=
  fun ls H locs hl hP hD hS => k ls H locs (lv_sub hl ks h) hP hD hS
theorem CT.ret {l : Launch} {y : MethodName} {wy : List Cond} {rm : Room} {T : TT} {vals : List Value} {ws ws' : va_W} {v v' : Int} (h : CT l y wy rm T vals ws (some (iv v)) ws') (e : v = v') : CT l y wy rm T vals ws (some (iv v')) ws' := e ▸ h
theorem htF_m {x : LnS} {i : Nat} (h : gM x i = 1) : htF x i = tH (gW x) (gK x i) (gL x i) := if_pos h
theorem htF_g {x : LnS} {i : Nat} (h : gM x i ≠ 1) : htF x i = gsF x (gK x i) := if_neg h
theorem dsF_W (X : WnS) : gW (pX (dsF X)) = gW (pX X) := (itL_inv (fun Y : WnS => gW (pX Y) = gW (pX X)) (c := dsC) (s := dsS) (fun Y hY _ => (meF_W _ _).trans hY) _ (ds0 X) (meF_W _ _))
theorem clF_W (X : WnS) : gW (pX (clF X)) = gW (pX X) := (itL_inv (fun Y : WnS => gW (pX Y) = gW (pX X)) (c := clC) (s := clS) (fun Y hY _ => (meF_W _ _).trans hY) _ X rfl)
theorem fiF_W (Y : WnS) : gW (fiF Y).1 = gW (pX Y) := (itL_inv (fun Z : LnS × Int × Int => gW Z.1 = gW (pX Y)) (c := fiC (pS Y + pH Y)) (s := fiS) (fun Z hZ _ => (meF_W _ _).trans hZ) _ (pX Y, pA Y + 1, htF (pX Y) (pA Y).toNat) rfl)
theorem seF_W (X : WnS) : gW (pX (seF X)) = gW (pX X) := by
  unfold seF
  split
  · rfl
  · unfold enF
    split
    · rw [clF_W]; exact (fiF_W _).trans (dsF_W X)
    · exact (fiF_W _).trans (dsF_W X)
theorem dsF_L (X : WnS) : gL (pX (dsF X)) = gL (pX X) := (itL_inv (fun Y : WnS => gL (pX Y) = gL (pX X)) (c := dsC) (s := dsS) (fun Y hY _ => (meF_L _ _).trans hY) _ (ds0 X) (meF_L _ _))
theorem clF_L (X : WnS) : gL (pX (clF X)) = gL (pX X) := (itL_inv (fun Y : WnS => gL (pX Y) = gL (pX X)) (c := clC) (s := clS) (fun Y hY _ => (meF_L _ _).trans hY) _ X rfl)
theorem fiF_L (Y : WnS) : gL (fiF Y).1 = gL (pX Y) := (itL_inv (fun Z : LnS × Int × Int => gL Z.1 = gL (pX Y)) (c := fiC (pS Y + pH Y)) (s := fiS) (fun Z hZ _ => (meF_L _ _).trans hZ) _ (pX Y, pA Y + 1, htF (pX Y) (pA Y).toNat) rfl)
theorem seF_L (X : WnS) : gL (pX (seF X)) = gL (pX X) := by
  unfold seF
  split
  · rfl
  · unfold enF
    split
    · rw [clF_L]; exact (fiF_L _).trans (dsF_L X)
    · exact (fiF_L _).trans (dsF_L X)
def sumM (x : LnS) (n : Nat) : Int := sumN (gM x) n
theorem sumM_c {x : LnS} (h : WFL x) (n : Nat) : sumM x n = cntF (gK x) (gM x) 0 n + cntF (gK x) (gM x) 1 n + cntF (gK x) (gM x) 2 n := by
  induction n with
  | zero => rfl
  | succ j ih =>
    have h3 := h.2.2.1 j
    unfold sumM at ih ⊢
    simp only [sumN, cntF, ih]
    rcases h3.2.2 with q | q
    · simp [q]
    · rcases (show gK x j = 0 ∨ gK x j = 1 ∨ gK x j = 2 by omega) with q2 | q2 | q2 <;> simp [q, q2] <;> omega
theorem sumM_g {x : LnS} (h : WFL x) : sumM x (gN x).toNat = gC x 0 + gC x 1 + gC x 2 := by
  rw [sumM_c h]
  have e0 := (h.2.2.2 0 (by omega)).1
  have e1 := (h.2.2.2 1 (by omega)).1
  have e2 := (h.2.2.2 2 (by omega)).1
  rw [e0, e1, e2]
  rfl
theorem sumM_b {x : LnS} (h : WFL x) (n : Nat) : 0 ≤ sumM x n ∧ sumM x n ≤ n := by
  induction n with
  | zero => exact ⟨Int.le_refl (0 : Int), Int.le_refl (0 : Int)⟩
  | succ j ih =>
    have h3 := (h.2.2.1 j).2.2
    unfold sumM at ih ⊢
    simp only [sumN]
    omega
theorem gsF_e {x : LnS} (h : WFL x) {k : Int} (hk : 0 ≤ k ∧ k ≤ 2) : gsF x k = if cntF (gK x) (gM x) k (gN x).toNat = 0 then 20 else smF (gW x) (gK x) (gL x) (gM x) k (gN x).toNat / cntF (gK x) (gM x) k (gN x).toNat := by
  have e := h.2.2.2 k.toNat (by omega)
  rw [show ((k.toNat : Nat) : Int) = k by omega] at e
  have b := cntF_b (gK x) (gM x) k (gN x).toNat
  unfold gsF
  rw [e.1, e.2]
  by_cases q : cntF (gK x) (gM x) k (gN x).toNat = 0
  · rw [if_pos q, if_neg (by omega)]
  · rw [if_neg q, if_pos (by omega)]
-- what is measured stays measured
theorem up_1 {w : Nat → Int} {i j : Nat} (h : w j = 1) : va_up w i 1 j = 1 := by
  unfold va_up
  split
  · rfl
  · exact h
theorem meF_1 {x : LnS} (h : WFL x) (i : Nat) {j : Nat} (hj : gM x j = 1) : gM (meF x i) j = 1 := by
  rw [meF_M h]; exact up_1 hj
theorem meF_i {x : LnS} (h : WFL x) (i : Nat) : gM (meF x i) i = 1 := by
  rw [meF_M h]; exact up_at
/-- lines that are measured on both sides take the same room -/
theorem tpF_dm {x y : LnS} (hW : gW y = gW x) (hK : gK y = gK x) (hL : gL y = gL x) {a b : Nat} (hab : a ≤ b) (hx : ∀ j, a ≤ j → j < b → gM x j = 1) (hy : ∀ j, a ≤ j → j < b → gM y j = 1) : tpF y b - tpF y a = tpF x b - tpF x a := by
  induction b with
  | zero =>
    have e : a = 0 := by omega
    rw [e]
    omega
  | succ b ih =>
    by_cases e : a = b + 1
    · rw [e]
      omega
    · have h1 := ih (by omega) (fun j h1 h2 => hx j h1 (by omega)) (fun j h1 h2 => hy j h1 (by omega))
      have e1 : htF x b = tH (gW x) (gK x b) (gL x b) := htF_m (hx b (by omega) (by omega))
      have e2 : htF y b = tH (gW y) (gK y b) (gL y b) := htF_m (hy b (by omega) (by omega))
      rw [hW, hK, hL, ← e1] at e2
      show tpF y b + htF y b - tpF y a = tpF x b + htF x b - tpF x a
      omega
/-- what settling leaves, where there are lines -/
def SQ (X : WnS) : Prop := gM (pX X) (pA X).toNat = 1 ∧ pS X < htF (pX X) (pA X).toNat ∧
  (∀ j : Nat, (j : Int) < gN (pX X) → tpF (pX X) j - (tpF (pX X) (pA X).toNat + pS X) < pH X → 0 < tpF (pX X) j - (tpF (pX X) (pA X).toNat + pS X) + htF (pX X) j → gM (pX X) j = 1) ∧
  (tpF (pX X) (pA X).toNat + pS X = 0 ∨ tpF (pX X) (pA X).toNat + pS X + pH X ≤ tpF (pX X) (gN (pX X)).toNat)
def SE (X : WnS) : Prop := WW X ∧ (0 < gN (pX X) → SQ X)
theorem dsF_1 {N hi : Int} {X : WnS} (h : DI N 0 hi X) : gM (pX (dsF X)) (pA (dsF X)).toNat = 1 := by
  have h0 : DI N 0 hi (ds0 X) := ⟨WFL_me h.1 (by have := h.2; omega), (meF_N _ _).trans h.2.1, h.2.2⟩
  have h1 : gM (pX (ds0 X)) (pA (ds0 X)).toNat = 1 := meF_i h.1 _
  exact (itL_inv (fun Y : WnS => DI N 0 hi Y ∧ gM (pX Y) (pA Y).toNat = 1) (c := dsC) (s := dsS) (fun Y hY hc => ⟨(DI_ds hY.1 hc).1, meF_i hY.1.1 _⟩) _ _ ⟨h0, h1⟩).2
-- the lines behind the anchor
def MF (N : Int) (a : Nat) (y : LnS) (Z : LnS × Int × Int) : Prop := FI N Z ∧ ((a : Int) < Z.2.1 ∧ gW Z.1 = gW y ∧ gK Z.1 = gK y ∧ gL Z.1 = gL y) ∧ (∀ j, a ≤ j → j < Z.2.1.toNat → gM Z.1 j = 1) ∧ Z.2.2 = tpF Z.1 Z.2.1.toNat - tpF Z.1 a
theorem MF_s {N b : Int} {a : Nat} {y : LnS} {Z : LnS × Int × Int} (h : MF N a y Z) (hc : fiC b Z = true) : MF N a y (fiS Z) := by
  obtain ⟨h1, ⟨h2, hW, hK, hL⟩, h3, h4⟩ := h
  have hf := (FI_s h1 hc).1
  have hr := h1.2.2.1
  have e1 : (fiS Z).2.1 = Z.2.1 + 1 := rfl
  have e2 : (fiS Z).2.2 = Z.2.2 + htF (meF Z.1 Z.2.1.toNat) Z.2.1.toNat := rfl
  have e3 : (fiS Z).1 = meF Z.1 Z.2.1.toNat := rfl
  have en : (Z.2.1 + 1).toNat = Z.2.1.toNat + 1 := by omega
  refine ⟨hf, ⟨by rw [e1]; omega, (meF_W _ _).trans hW, (meF_K _ _).trans hK, (meF_L _ _).trans hL⟩, fun j ha hj => ?_, ?_⟩
  · rw [e1, en] at hj
    rw [e3]
    by_cases q : j = Z.2.1.toNat
    · rw [q]; exact meF_i h1.1 _
    · exact meF_1 h1.1 _ (h3 j ha (by omega))
  · have hd := tpF_dm (x := Z.1) (y := meF Z.1 Z.2.1.toNat) (meF_W _ _) (meF_K _ _) (meF_L _ _) (a := a) (b := Z.2.1.toNat) (by omega) h3 (fun j p q => meF_1 h1.1 _ (h3 j p q))
    rw [e1, e2, e3, en, h4]
    show tpF Z.1 Z.2.1.toNat - tpF Z.1 a + htF (meF Z.1 Z.2.1.toNat) Z.2.1.toNat = tpF (meF Z.1 Z.2.1.toNat) Z.2.1.toNat + htF (meF Z.1 Z.2.1.toNat) Z.2.1.toNat - tpF (meF Z.1 Z.2.1.toNat) a
    omega
theorem MF_F {N : Int} {Y : WnS} (h : DI N 0 400000 Y) (h1 : gM (pX Y) (pA Y).toNat = 1) : MF N (pA Y).toNat (pX Y) (fiF Y) := by
  have hr := h.2.2.1
  have en : (pA Y + 1).toNat = (pA Y).toNat + 1 := by omega
  refine itL_inv (MF N (pA Y).toNat (pX Y)) (fun Z hZ hc => MF_s hZ hc) _ _ ⟨FI_0 h, ⟨?_, rfl, rfl, rfl⟩, fun j ha hj => ?_, ?_⟩
  · show (((pA Y).toNat : Nat) : Int) < pA Y + 1
    omega
  · have hj : j < (pA Y + 1).toNat := hj
    have e : j = (pA Y).toNat := by omega
    rw [e]
    exact h1
  · show htF (pX Y) (pA Y).toNat = tpF (pX Y) (pA Y + 1).toNat - tpF (pX Y) (pA Y).toNat
    rw [en]
    show _ = tpF (pX Y) (pA Y).toNat + htF (pX Y) (pA Y).toNat - tpF (pX Y) (pA Y).toNat
    omega
-- climbing at the end
def MC (N : Int) (W : WnS) : Prop := DI N (-600000) 400000 W ∧ (∀ j, (pA W).toNat ≤ j → (j : Int) < N → gM (pX W) j = 1) ∧ pS W + pH W = tpF (pX W) N.toNat - tpF (pX W) (pA W).toNat ∧ pS W < htF (pX W) (pA W).toNat
theorem MC_s {N : Int} {W : WnS} (h : MC N W) (hc : clC W = true) : MC N (clS W) := by
  obtain ⟨h1, h2, h3, h4⟩ := h
  have hd := (DI_cl (by omega) h1 hc).1
  have hq : 0 < pA W ∧ pS W < 0 := of_decide_eq_true hc
  have hr := h1.2.2.1
  have e1 : pX (clS W) = meF (pX W) (pA W - 1).toNat := rfl
  have e2 : pA (clS W) = pA W - 1 := rfl
  have e3 : pS (clS W) = pS W + htF (meF (pX W) (pA W - 1).toNat) (pA W - 1).toNat := rfl
  have e4 : pH (clS W) = pH W := rfl
  have en : (pA W).toNat = (pA W - 1).toNat + 1 := by omega
  have hdm := tpF_dm (x := pX W) (y := meF (pX W) (pA W - 1).toNat) (meF_W _ _) (meF_K _ _) (meF_L _ _) (a := (pA W).toNat) (b := N.toNat) (by omega) (fun j p q => h2 j p (by omega)) (fun j p q => meF_1 h1.1 _ (h2 j p (by omega)))
  refine ⟨hd, fun j p q => ?_, ?_, ?_⟩
  · rw [e2] at p
    rw [e1]
    by_cases z : j = (pA W - 1).toNat
    · rw [z]; exact meF_i h1.1 _
    · exact meF_1 h1.1 _ (h2 j (by omega) q)
  · rw [e1, e2, e3, e4]
    rw [en] at hdm
    have e5 : tpF (meF (pX W) (pA W - 1).toNat) ((pA W - 1).toNat + 1) = tpF (meF (pX W) (pA W - 1).toNat) (pA W - 1).toNat + htF (meF (pX W) (pA W - 1).toNat) (pA W - 1).toNat := rfl
    rw [en] at h3
    omega
  · rw [e1, e2, e3]
    omega
theorem SQ_cl {N : Int} {W : WnS} (h : MC N W) (hH : 20 ≤ pH W) : SQ (clF W) := by
  have hm : MC N (clL W) := itL_inv (MC N) (fun Y hY hc => MC_s hY hc) _ _ h
  have hx : ¬ clC (clL W) = true := itL_exit (DI N (-600000) 400000) (fun Y => (pA Y).toNat) (fun Y hY hc => DI_cl (by omega) hY hc) _ _ h.1 (Nat.le_refl _)
  have hHl : pH (clL W) = pH W := itL_pH (c := clC) (s := clS) (fun _ => rfl) _ _
  have hx2 : ¬ (0 < pA (clL W) ∧ pS (clL W) < 0) := fun q => hx (decide_eq_true q)
  show SQ (pX (clL W), pH (clL W), pA (clL W), max 0 (pS (clL W)))
  generalize clL W = V at hm hx2 hHl ⊢
  obtain ⟨⟨h1, h2, h3, h4, h5⟩, h6, h7, h8⟩ := hm
  have hb := htF_b h1 (pA V).toNat
  have ht0 := tpF_b h1 (pA V).toNat
  refine ⟨?_, ?_, fun j hj c1 c2 => ?_, ?_⟩
  · show gM (pX V) (pA V).toNat = 1
    exact h6 _ (Nat.le_refl _) (by omega)
  · show max 0 (pS V) < htF (pX V) (pA V).toNat
    omega
  · have hj : (j : Int) < gN (pX V) := hj
    have c2 : 0 < tpF (pX V) j - (tpF (pX V) (pA V).toNat + max 0 (pS V)) + htF (pX V) j := c2
    refine h6 j ?_ (by omega)
    by_cases q : (pA V).toNat ≤ j
    · exact q
    · have hmo := tpF_mono h1 (show j + 1 ≤ (pA V).toNat by omega)
      simp only [tpF] at hmo
      omega
  · show tpF (pX V) (pA V).toNat + max 0 (pS V) = 0 ∨ tpF (pX V) (pA V).toNat + max 0 (pS V) + pH V ≤ tpF (pX V) (gN (pX V)).toNat
    rw [h2]
    by_cases q : pS V < 0
    · have e : (pA V).toNat = 0 := by omega
      rw [e]
      left
      show (0 : Int) + max 0 (pS V) = 0
      omega
    · right
      omega
theorem SE_se {X : WnS} (h : PW X) : SE (seF X) := by
  refine ⟨(WW_se h).1, fun hn => ?_⟩
  rw [(WW_se h).2] at hn
  have h0 : ¬ gN (pX X) = 0 := by omega
  have hd := DI_dsF (h.di h0)
  have hm := dsF_1 (h.di h0)
  have hHd : pH (dsF X) = pH X := dsF_H X
  have hHx := h.2.1
  have e : seF X = enF (dsF X) (fiF (dsF X)) := if_neg h0
  rw [e]
  generalize dsF X = Y at hd hm hHd ⊢
  obtain ⟨hD, hnc⟩ := hd
  have hF := MF_F hD hm
  have hx := (FI_F hD).2
  have hd2 : ¬ (pA Y + 1 < gN (pX Y) ∧ htF (pX Y) (pA Y).toNat ≤ pS Y) := fun q => hnc (decide_eq_true q)
  have hx2 : ¬ ((fiF Y).2.1 < gN (fiF Y).1 ∧ (fiF Y).2.2 < pS Y + pH Y) := fun q => hx (decide_eq_true q)
  generalize fiF Y = Z at hF hx2 ⊢
  obtain ⟨⟨f1, f2, f3, f4, f5⟩, ⟨g1, gw, gk, gl⟩, g3, g4⟩ := hF
  obtain ⟨d1, d2, d3, d4, d5⟩ := hD
  have hma : gM Z.1 (pA Y).toNat = 1 := g3 _ (Nat.le_refl _) (by omega)
  have hta : htF Z.1 (pA Y).toNat = htF (pX Y) (pA Y).toNat := by rw [htF_m hma, htF_m hm, gw, gk, gl]
  have hb := htF_b f1 (pA Y).toNat
  have hz1 := tpF_mono f1 (show (pA Y).toNat + 1 ≤ Z.2.1.toNat by omega)
  simp only [tpF] at hz1
  have hz2 := tpF_mono f1 (show Z.2.1.toNat ≤ (gN Z.1).toNat by omega)
  unfold enF
  split
  · rename_i c
    have hzN : Z.2.1 = gN (pX X) := by omega
    refine SQ_cl (N := gN (pX X)) ⟨⟨f1, f2, d3, ?_, ?_⟩, fun j p q => ?_, ?_, ?_⟩ ?_
    · show -600000 ≤ pS Y - (pS Y + pH Y - Z.2.2)
      omega
    · show pS Y - (pS Y + pH Y - Z.2.2) ≤ 400000
      omega
    · exact g3 j p (by omega)
    · show pS Y - (pS Y + pH Y - Z.2.2) + pH Y = tpF Z.1 (gN (pX X)).toNat - tpF Z.1 (pA Y).toNat
      rw [← hzN]
      omega
    · show pS Y - (pS Y + pH Y - Z.2.2) < htF Z.1 (pA Y).toNat
      by_cases q : pA Y + 1 < gN (pX Y)
      · omega
      · have e9 : Z.2.1.toNat = (pA Y).toNat + 1 := by omega
        rw [e9] at g4
        have e8 : tpF Z.1 ((pA Y).toNat + 1) = tpF Z.1 (pA Y).toNat + htF Z.1 (pA Y).toNat := rfl
        omega
    · show 20 ≤ pH Y
      omega
  · rename_i c
    have hc2 : pS Y + pH Y ≤ Z.2.2 := by omega
    refine ⟨hma, ?_, fun j hj c1 c2 => ?_, ?_⟩
    · show pS Y < htF Z.1 (pA Y).toNat
      by_cases q : pA Y + 1 < gN (pX Y)
      · omega
      · have e9 : Z.2.1.toNat = (pA Y).toNat + 1 := by omega
        rw [e9] at g4
        have e8 : tpF Z.1 ((pA Y).toNat + 1) = tpF Z.1 (pA Y).toNat + htF Z.1 (pA Y).toNat := rfl
        omega
    · have hj : (j : Int) < gN Z.1 := hj
      have c1 : tpF Z.1 j - (tpF Z.1 (pA Y).toNat + pS Y) < pH Y := c1
      have c2 : 0 < tpF Z.1 j - (tpF Z.1 (pA Y).toNat + pS Y) + htF Z.1 j := c2
      show gM Z.1 j = 1
      refine g3 j ?_ ?_
      · by_cases q : (pA Y).toNat ≤ j
        · exact q
        · have hmo := tpF_mono f1 (show j + 1 ≤ (pA Y).toNat by omega)
          simp only [tpF] at hmo
          omega
      · by_cases q : j < Z.2.1.toNat
        · exact q
        · have hmo := tpF_mono f1 (show Z.2.1.toNat ≤ j by omega)
          omega
    · show tpF Z.1 (pA Y).toNat + pS Y = 0 ∨ tpF Z.1 (pA Y).toNat + pS Y + pH Y ≤ tpF Z.1 (gN Z.1).toNat
      right
      omega
-- every call leaves a settled window
theorem SE_pu {X : WnS} (h : SE X) (i kd ln : Int) : SE (puR X i kd ln).2 := by
  unfold puR
  split
  · exact h
  · split
    · exact h
    · exact SE_se (PW_pu h.1 (by omega) (by omega) (by omega) (by omega))
theorem SE_cu {X : WnS} (h : SE X) (i : Int) : SE (cuR X i).2 := by
  unfold cuR
  split
  · exact h
  · exact SE_se (PW_cu h.1 (by omega)).1
theorem SE_ch {X : WnS} (h : SE X) (i ln : Int) : SE (chR X i ln).2 := by
  unfold chR
  split
  · exact h
  · exact SE_se (PW_ch h.1 (by omega) (by omega))
theorem SE_sh {X : WnS} (h : SE X) (v : Int) : SE (shR X v).2 := by
  unfold shR
  split
  · exact h
  · exact SE_se (PW_sh h.1 (by omega))
theorem SE_sw {X : WnS} (h : SE X) (w : Int) : SE (swR X w).2 := by
  unfold swR
  split
  · exact h
  · exact SE_se (PW_sw h.1 (by omega))
theorem SE_mb {X : WnS} (h : SE X) (d : Int) : SE (mbR X d).2 := by
  unfold mbR
  split
  · exact h
  · split
    · exact h
    · rename_i hn
      exact SE_se (PW_mb h.1 (by omega) hn).1
theorem SE_ms {X : WnS} (h : SE X) (s : Int) : SE (msR X s).2 := by
  unfold msR
  split
  · exact h
  · split
    · exact h
    · rename_i hn
      exact SE_se (PW_ms h.1 (by omega) hn)
theorem SE_ml {X : WnS} (h : SE X) (i : Int) : SE (mlR X i).2 := by
  unfold mlR
  split
  · exact h
  · exact SE_se (PW_ml h.1 (by omega))
theorem SE_kp {r : Int} {X Y : WnS} (hX : SE X) (hY : SE Y) : SE (kpX r X Y) := by
  unfold kpX
  split
  · exact hY
  · exact hX
theorem kpZ_b {r sz : Int} (h : 0 ≤ sz ∧ sz ≤ 5) : 0 ≤ kpZ r sz ∧ kpZ r sz ≤ 5 := by
  unfold kpZ
  split <;> omega
theorem kpN_b {r nx : Int} (h : 0 ≤ nx ∧ nx < 5) : 0 ≤ kpN r nx ∧ kpN r nx < 5 := by
  unfold kpN
  split <;> omega
theorem SE_kpH {r nx : Int} {H : Nat → WnS} {X : WnS} (hH : ∀ k, SE (H k)) (hX : SE X) : ∀ k, SE (kpH r H nx X k) := by
  intro k
  unfold kpH
  split
  · unfold upW
    split
    · exact hX
    · exact hH k
  · exact hH k
theorem SE_H {H : Nat → WnS} (h : ∀ k, SE (H k)) : ∀ k, WW (H k) := fun k => (h k).1
-- what the looks say
theorem la_at {x : LnS} (h : WFL x) {y : Int} {k n : Nat} (hk : k < n) (h1 : tpF x k ≤ y) (h2 : y < tpF x (k + 1)) : laF x y n 0 = (k : Int) := by
  have hmo := tpF_mono h (show k + 1 ≤ n by omega)
  have h0 := tpF_mono h (Nat.zero_le k)
  have e0 : tpF x 0 = 0 := rfl
  obtain ⟨j, a1, a2, a3, a4, a5⟩ := laF_b h (y := y) n 0 (by rw [Nat.zero_add]; omega) (by omega)
  rw [a3]
  rcases Nat.lt_trichotomy j k with q | q | q
  · have := tpF_mono h (show j + 1 ≤ k by omega)
    omega
  · rw [q]
  · have := tpF_mono h (show k + 1 ≤ j by omega)
    omega
theorem at_top {X : WnS} (h : WFL (pX X)) {k : Nat} (hk : (k : Int) < gN (pX X)) : atF X (tpF (pX X) k) = (k : Int) := by
  have hb := tpF_b h k
  have h2 := htF_b h k
  unfold atF
  rw [if_neg (by omega)]
  exact la_at h (by omega) (Int.le_refl _) (by show tpF (pX X) k < tpF (pX X) k + htF (pX X) k; omega)
theorem at_end {X : WnS} (h : WFL (pX X)) {k : Nat} (hk : (k : Int) < gN (pX X)) : atF X (tpF (pX X) k + htF (pX X) k - 1) = (k : Int) := by
  have hb := tpF_b h k
  have h2 := htF_b h k
  unfold atF
  rw [if_neg (by omega)]
  exact la_at h (by omega) (by omega) (by show tpF (pX X) k + htF (pX X) k - 1 < tpF (pX X) k + htF (pX X) k; omega)
theorem at_no {X : WnS} (h : WFL (pX X)) : atF X (tpF (pX X) (gN (pX X)).toNat) = -100009 := by
  have hb := tpF_b h (gN (pX X)).toNat
  unfold atF
  rw [if_neg (by omega)]
  exact laF_n _ 0 (fun j hj => tpF_mono h (by omega))
theorem seen_0 {X : WnS} (h : SE X) (hn : 0 < gN (pX X)) : seenF X 0 = pA X := by
  have hq := h.2 hn
  have h2 := h.1.1.2.1
  have h4 := h.1.1.2.2.2.1 hn
  have h5 := h.1.1.2.2.2.2
  have e : (((pA X).toNat : Nat) : Int) = pA X := by omega
  unfold seenF
  rw [if_neg (by omega), Int.add_zero, ← e]
  rw [show ((((pA X).toNat : Nat) : Int)).toNat = (pA X).toNat by omega]
  exact la_at h.1.1.1 (by omega) (by omega) (by show tpF (pX X) (pA X).toNat + pS X < tpF (pX X) (pA X).toNat + htF (pX X) (pA X).toNat; have := hq.2.1; omega)
theorem seen_b {X : WnS} (h : SE X) : seenF X (pH X - 1) = atF X (tpF (pX X) (pA X).toNat + pS X + pH X - 1) := by
  have h2 := h.1.1.2.1
  have h5 := h.1.1.2.2.2.2
  have hb := tpF_b h.1.1.1 (pA X).toNat
  unfold seenF atF
  rw [if_neg (by omega), if_neg (by omega)]
  exact congrArg (fun y => laF (pX X) y (gN (pX X)).toNat 0) (by omega)
theorem sha_le {X : WnS} (h : SE X) (hn : 0 < gN (pX X)) : 0 ≤ shaF X ∧ shaF X ≤ 1000 := by
  have hq := (h.2 hn).2.2.2
  have h5 := h.1.1.2.2.2.2
  have hb := tpF_b h.1.1.1 (pA X).toNat
  unfold shaF
  split
  · omega
  · rename_i c
    constructor
    · exact Int.ediv_nonneg (by omega) (by omega)
    · refine Int.le_of_lt_add_one (Int.ediv_lt_of_lt_mul (by omega) ?_)
      omega
theorem sha_0 {X : WnS} (h : SE X) (hn : gN (pX X) = 0) : shaF X = 0 := by
  have h2 := h.1.1.2.1
  unfold shaF
  rw [if_pos]
  rw [hn]
  show (0 : Int) - pH X ≤ 0
  omega
theorem seen_no {X : WnS} (h : SE X) (hn : gN (pX X) = 0) : seenF X 0 = -100009 := by
  have h2 := h.1.1.2.1
  unfold seenF
  rw [if_neg (by omega), hn]
  rfl
theorem snF_m {x : LnS} {tp H : Int} (k : Nat) : snF x tp H (k + 1) = snF x tp H k + (if tpF x k - tp < H ∧ 0 < tpF x k - tp + htF x k then 1 else 0) := rfl
theorem tot_0 {X : WnS} (hn : gN (pX X) = 0) : tpF (pX X) (gN (pX X)).toNat = 0 := by
  rw [hn]; rfl
theorem top_0 {X : WnS} (h : SE X) (hn : gN (pX X) = 0) : tpF (pX X) (pA X).toNat + pS X = 0 := by
  have h3 := h.1.1.2.2.1 hn
  rw [h3.1, h3.2]; rfl
-- what the acts say
theorem pu_ok {X : WnS} (h : SE X) {i kd ln : Int} (hi : 0 ≤ i ∧ i ≤ gN (pX X)) (hn : gN (pX X) < 100) (hk : 0 ≤ kd ∧ kd ≤ 2) (hl : 0 ≤ ln ∧ ln ≤ 400) : 0 ≤ (puR X i kd ln).1 ∧ gN (pX (puR X i kd ln).2) = gN (pX X) + 1 ∧ (puR X i kd ln).1 = tpF (pX (puR X i kd ln).2) (gN (pX (puR X i kd ln).2)).toNat := by
  have hP := PW_pu h.1 hi hn hk hl
  have e : puR X i kd ln = _ := (if_neg (by omega)).trans (if_neg (by omega))
  rw [e]
  have hw := WW_se hP
  have hb := tpF_b hw.1.1.1 (gN (pX (seF (inF (pX X) i kd ln, pH X, (if 0 < gN (pX X) ∧ i ≤ pA X then pA X + 1 else pA X), pS X)))).toNat
  refine ⟨?_, hw.2, rfl⟩
  dsimp only
  omega
theorem pu_bad {X : WnS} {i kd ln : Int} (h : ¬ ((0 ≤ i ∧ i ≤ gN (pX X)) ∧ (0 ≤ kd ∧ kd < 3) ∧ 0 ≤ ln ∧ ln ≤ 400)) : puR X i kd ln = (-100001, X) := if_pos h
theorem cu_ok {X : WnS} (h : SE X) {i : Int} (hi : 0 ≤ i ∧ i < gN (pX X)) : (cuR X i).1 = gN (pX X) - 1 ∧ gN (pX (cuR X i).2) = gN (pX X) - 1 ∧ (i + 1 < gN (pX X) → gL (pX (cuR X i).2) i.toNat = gL (pX X) (i + 1).toNat) := by
  have hP := PW_cu h.1 hi
  have e : cuR X i = _ := if_neg (by omega)
  have hw := WW_se hP.1
  rw [e]
  refine ⟨hw.2.trans hP.2, hw.2.trans hP.2, fun h1 => ?_⟩
  show gL (pX (seF (cuP X i))) i.toNat = _
  rw [seF_L]
  show va_cpy (gL (fgF (pX X) i.toNat)) (gL (fgF (pX X) i.toNat)) (i + 1).toNat i.toNat (gN (fgF (pX X) i.toNat) - 1 - i).toNat i.toNat = _
  rw [fgF_N, fgF_L, cp_in (by omega) (by omega)]
  exact congrArg (gL (pX X)) (by omega)
theorem cu_bad {X : WnS} {i : Int} (h : ¬ (0 ≤ i ∧ i < gN (pX X))) : cuR X i = (-100001, X) := if_pos h
theorem ch_ok {X : WnS} {i ln : Int} (hi : 0 ≤ i ∧ i < gN (pX X)) (hl : 0 ≤ ln ∧ ln ≤ 400) (h : SE X) : (chR X i ln).1 = gL (pX X) i.toNat ∧ gN (pX (chR X i ln).2) = gN (pX X) := by
  have e : chR X i ln = _ := if_neg (by omega)
  rw [e]
  exact ⟨rfl, (WW_se (PW_ch h.1 hi hl)).2.trans (slF_N _ _ _)⟩
theorem ch_bad {X : WnS} {i ln : Int} (h : ¬ ((0 ≤ i ∧ i < gN (pX X)) ∧ 0 ≤ ln ∧ ln ≤ 400)) : chR X i ln = (-100001, X) := if_pos h
theorem sh_ok {X : WnS} {v : Int} (hv : 20 ≤ v ∧ v ≤ 600) (h : SE X) : (shR X v).1 = pH X ∧ pH (shR X v).2 = v ∧ gN (pX (shR X v).2) = gN (pX X) := by
  have e : shR X v = _ := if_neg (by omega)
  rw [e]
  exact ⟨rfl, seF_H _, (WW_se (PW_sh h.1 hv)).2⟩
theorem sh_bad {X : WnS} {v : Int} (h : ¬ (20 ≤ v ∧ v ≤ 600)) : shR X v = (-100001, X) := if_pos h
theorem sw_ok {X : WnS} {v : Int} (hv : 5 ≤ v ∧ v ≤ 80) (h : SE X) : (swR X v).1 = gW (pX X) ∧ gW (pX (swR X v).2) = v ∧ gN (pX (swR X v).2) = gN (pX X) := by
  have e : swR X v = _ := if_neg (by omega)
  rw [e]
  exact ⟨rfl, seF_W _, (WW_se (PW_sw h.1 hv)).2.trans (fgA_N _ _)⟩
theorem sw_bad {X : WnS} {v : Int} (h : ¬ (5 ≤ v ∧ v ≤ 80)) : swR X v = (-100001, X) := if_pos h
theorem mb_ok {X : WnS} {d : Int} (hd : -9999 ≤ d ∧ d ≤ 9999) (hn : ¬ gN (pX X) = 0) : (mbR X d).1 = pA (mbR X d).2 := by
  have e : mbR X d = _ := (if_neg (by omega)).trans (if_neg hn)
  rw [e]
theorem mb_no {X : WnS} {d : Int} (hd : -9999 ≤ d ∧ d ≤ 9999) (hn : gN (pX X) = 0) : mbR X d = (-100002, X) := (if_neg (by omega)).trans (if_pos hn)
theorem mb_bad {X : WnS} {d : Int} (h : ¬ (-9999 ≤ d ∧ d ≤ 9999)) : mbR X d = (-100001, X) := if_pos h
theorem ms_ok {X : WnS} {s : Int} (hs : 0 ≤ s ∧ s ≤ 1000) (hn : ¬ gN (pX X) = 0) : (msR X s).1 = pA (msR X s).2 := by
  have e : msR X s = _ := (if_neg (by omega)).trans (if_neg hn)
  rw [e]
theorem ms_no {X : WnS} {s : Int} (hs : 0 ≤ s ∧ s ≤ 1000) (hn : gN (pX X) = 0) : msR X s = (-100002, X) := (if_neg (by omega)).trans (if_pos hn)
theorem ms_bad {X : WnS} {s : Int} (h : ¬ (0 ≤ s ∧ s ≤ 1000)) : msR X s = (-100001, X) := if_pos h
theorem ml_ok {X : WnS} {i : Int} (hi : 0 ≤ i ∧ i < gN (pX X)) (h : SE X) : (mlR X i).1 = pA (mlR X i).2 ∧ gN (pX (mlR X i).2) = gN (pX X) := by
  have e : mlR X i = _ := if_neg (by omega)
  rw [e]
  exact ⟨rfl, (WW_se (PW_ml h.1 hi)).2⟩
theorem ml_bad {X : WnS} {i : Int} (h : ¬ (0 ≤ i ∧ i < gN (pX X))) : mlR X i = (-100001, X) := if_pos h
