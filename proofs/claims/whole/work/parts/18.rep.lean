/-! ===== PURE: what the reference's row of numbers stands for ===== -/
def rI (i : Int) (c : Nat) : Nat := 5 + 3 * i.toNat + c
def RG (w : AR) (N A S H W : Int) (x : LnS) : Prop := w 0 = N ∧ w 1 = A ∧ w 2 = S ∧ w 3 = H ∧ w 4 = W ∧ ∀ i : Nat, (i : Int) < gN x → w (5 + 3 * i) = gK x i ∧ w (5 + 3 * i + 1) = gL x i ∧ w (5 + 3 * i + 2) = gM x i
theorem RG.k {w : AR} {N A S H W : Int} {x : LnS} (h : RG w N A S H W x) {i : Int} (hi : 0 ≤ i ∧ i < gN x) : w (rI i 0) = gK x i.toNat := (h.2.2.2.2.2 i.toNat (by omega)).1
theorem RG.l {w : AR} {N A S H W : Int} {x : LnS} (h : RG w N A S H W x) {i : Int} (hi : 0 ≤ i ∧ i < gN x) : w (rI i 1) = gL x i.toNat := (h.2.2.2.2.2 i.toNat (by omega)).2.1
theorem RG.m {w : AR} {N A S H W : Int} {x : LnS} (h : RG w N A S H W x) {i : Int} (hi : 0 ≤ i ∧ i < gN x) : w (rI i 2) = gM x i.toNat := (h.2.2.2.2.2 i.toNat (by omega)).2.2
theorem RG.lo {w w' : AR} {N A S H W N' A' S' H' W' : Int} {x : LnS} (h : RG w N A S H W x) (e : ∀ j, 5 ≤ j → w' j = w j) (h0 : w' 0 = N') (h1 : w' 1 = A') (h2 : w' 2 = S') (h3 : w' 3 = H') (h4 : w' 4 = W') : RG w' N' A' S' H' W' x :=
  ⟨h0, h1, h2, h3, h4, fun i hi => by rw [e _ (by omega), e _ (by omega), e _ (by omega)]; exact h.2.2.2.2.2 i hi⟩
theorem RG.s0 {w : AR} {N A S H W : Int} {x : LnS} (h : RG w N A S H W x) (v : Int) : RG (va_up w 0 v) v A S H W x := h.lo (fun j hj => up_ne (by omega)) up_at ((up_ne (by omega)).trans h.2.1) ((up_ne (by omega)).trans h.2.2.1) ((up_ne (by omega)).trans h.2.2.2.1) ((up_ne (by omega)).trans h.2.2.2.2.1)
theorem RG.s1 {w : AR} {N A S H W : Int} {x : LnS} (h : RG w N A S H W x) (v : Int) : RG (va_up w 1 v) N v S H W x := h.lo (fun j hj => up_ne (by omega)) ((up_ne (by omega)).trans h.1) up_at ((up_ne (by omega)).trans h.2.2.1) ((up_ne (by omega)).trans h.2.2.2.1) ((up_ne (by omega)).trans h.2.2.2.2.1)
theorem RG.s2 {w : AR} {N A S H W : Int} {x : LnS} (h : RG w N A S H W x) (v : Int) : RG (va_up w 2 v) N A v H W x := h.lo (fun j hj => up_ne (by omega)) ((up_ne (by omega)).trans h.1) ((up_ne (by omega)).trans h.2.1) up_at ((up_ne (by omega)).trans h.2.2.2.1) ((up_ne (by omega)).trans h.2.2.2.2.1)
theorem RG.s3 {w : AR} {N A S H W : Int} {x : LnS} (h : RG w N A S H W x) (v : Int) : RG (va_up w 3 v) N A S v W x := h.lo (fun j hj => up_ne (by omega)) ((up_ne (by omega)).trans h.1) ((up_ne (by omega)).trans h.2.1) ((up_ne (by omega)).trans h.2.2.1) up_at ((up_ne (by omega)).trans h.2.2.2.2.1)
theorem RG.s4 {w : AR} {N A S H W : Int} {x : LnS} (h : RG w N A S H W x) (v : Int) : RG (va_up w 4 v) N A S H v x := h.lo (fun j hj => up_ne (by omega)) ((up_ne (by omega)).trans h.1) ((up_ne (by omega)).trans h.2.1) ((up_ne (by omega)).trans h.2.2.1) ((up_ne (by omega)).trans h.2.2.2.1) up_at
theorem RG.mk {w w' : AR} {N A S H W : Int} {x y : LnS} (h : RG w N A S H W x) (e : ∀ j, j < 5 → w' j = w j) (hl : ∀ i : Nat, (i : Int) < gN y → w' (5 + 3 * i) = gK y i ∧ w' (5 + 3 * i + 1) = gL y i ∧ w' (5 + 3 * i + 2) = gM y i) : RG w' N A S H W y :=
  ⟨(e 0 (by omega)).trans h.1, (e 1 (by omega)).trans h.2.1, (e 2 (by omega)).trans h.2.2.1, (e 3 (by omega)).trans h.2.2.2.1, (e 4 (by omega)).trans h.2.2.2.2.1, hl⟩
theorem RG.m1 {w : AR} {N A S H W : Int} {x : LnS} (h : RG w N A S H W x) (hx : WFL x) {i : Int} (hi : 0 ≤ i ∧ i < gN x) : RG (va_up w (rI i 2) 1) N A S H W (meF x i.toNat) := by
  refine h.mk (fun j hj => up_ne (by unfold rI; omega)) (fun j hj => ?_)
  rw [meF_N] at hj
  have hl := h.2.2.2.2.2 j hj
  rw [meF_K, meF_L, meF_M hx, up_ne (by unfold rI; omega), up_ne (by unfold rI; omega)]
  refine ⟨hl.1, hl.2.1, ?_⟩
  unfold va_up rI
  by_cases e : j = i.toNat
  · subst e; simp
  · rw [if_neg (by omega), if_neg e]; exact hl.2.2
theorem RG.m0 {w : AR} {N A S H W : Int} {x : LnS} (h : RG w N A S H W x) {i : Int} (hi : 0 ≤ i ∧ i < gN x) : RG (va_up w (rI i 2) 0) N A S H W (fgF x i.toNat) := by
  refine h.mk (fun j hj => up_ne (by unfold rI; omega)) (fun j hj => ?_)
  rw [fgF_N] at hj
  have hl := h.2.2.2.2.2 j hj
  rw [fgF_K, fgF_L, fgF_M, up_ne (by unfold rI; omega), up_ne (by unfold rI; omega)]
  refine ⟨hl.1, hl.2.1, ?_⟩
  unfold va_up rI
  by_cases e : j = i.toNat
  · subst e; simp
  · rw [if_neg (by omega), if_neg e]; exact hl.2.2
theorem RG.sl {w : AR} {N A S H W : Int} {x : LnS} (h : RG w N A S H W x) {i : Int} (hi : 0 ≤ i ∧ i < gN x) (v : Int) : RG (va_up (va_up w (rI i 1) v) (rI i 2) 0) N A S H W (slF x i v) := by
  refine h.mk (fun j hj => by rw [up_ne (by unfold rI; omega), up_ne (by unfold rI; omega)]) (fun j hj => ?_)
  rw [slF_N] at hj
  have hl := h.2.2.2.2.2 j hj
  show _ = gK (fgF x i.toNat) j ∧ _ = va_up (gL (fgF x i.toNat)) i.toNat v j ∧ _ = gM (fgF x i.toNat) j
  rw [fgF_K, fgF_L, fgF_M]
  refine ⟨?_, ?_, ?_⟩
  · rw [up_ne (by unfold rI; omega), up_ne (by unfold rI; omega)]; exact hl.1
  · rw [up_ne (by unfold rI; omega)]
    unfold va_up rI
    by_cases e : j = i.toNat
    · subst e; simp
    · rw [if_neg (by omega), if_neg e]; exact hl.2.1
  · by_cases e : j = i.toNat
    · subst e
      rw [show 5 + 3 * i.toNat + 2 = rI i 2 from rfl, up_at, up_at]
    · rw [up_ne (by unfold rI; omega), up_ne (by unfold rI; omega), up_ne e]; exact hl.2.2
/-- the lines shifted up by one, for a line put in -/
theorem RG.inn {w w' : AR} {N A S H W : Int} {x : LnS} (h : RG w N A S H W x) {i kd ln : Int} (hi : 0 ≤ i ∧ i ≤ gN x) (e : ∀ j : Nat, w' j = if 5 + 3 * i.toNat + 2 < j ∧ j ≤ 5 + 3 * (gN x).toNat + 2 then w (j - 3) else w j) :
    RG (va_up (va_up (va_up w' (rI i 0) kd) (rI i 1) ln) (rI i 2) 0) N A S H W (inF x i kd ln) := by
  refine h.mk (fun j hj => by rw [up_ne (by unfold rI; omega), up_ne (by unfold rI; omega), up_ne (by unfold rI; omega), e, if_neg (by omega)]) (fun j hj => ?_)
  rw [inF_N] at hj
  show _ = va_up (va_cpy (gK x) (gK x) i.toNat (i + 1).toNat (gN x - i).toNat) i.toNat kd j ∧ _ = va_up (va_cpy (gL x) (gL x) i.toNat (i + 1).toNat (gN x - i).toNat) i.toNat ln j ∧ _ = va_up (va_cpy (gM x) (gM x) i.toNat (i + 1).toNat (gN x - i).toNat) i.toNat 0 j
  by_cases e1 : j = i.toNat
  · subst e1
    rw [up_at, up_at, up_at, show 5 + 3 * i.toNat = rI i 0 from rfl, show rI i 0 + 1 = rI i 1 from rfl, show rI i 0 + 2 = rI i 2 from rfl, up_at]
    refine ⟨?_, ?_, rfl⟩
    · rw [up_ne (by unfold rI; omega), up_ne (by unfold rI; omega), up_at]
    · rw [up_ne (by unfold rI; omega), up_at]
  · have ne : ∀ c k : Nat, c < 3 → k < 3 → 5 + 3 * j + c ≠ rI i k := fun c k h1 h2 => by unfold rI; omega
    rw [up_ne e1, up_ne e1, up_ne e1]
    have g0 : ∀ c : Nat, c < 3 → va_up (va_up (va_up w' (rI i 0) kd) (rI i 1) ln) (rI i 2) 0 (5 + 3 * j + c) = w' (5 + 3 * j + c) := fun c hc => by rw [up_ne (ne c 2 hc (by omega)), up_ne (ne c 1 hc (by omega)), up_ne (ne c 0 hc (by omega))]
    have g1 := g0 0 (by omega)
    rw [Nat.add_zero] at g1
    rw [g1, g0 1 (by omega), g0 2 (by omega), e, e, e]
    by_cases e2 : j < i.toNat
    · have hl := h.2.2.2.2.2 j (by omega)
      rw [cp_out (by omega), cp_out (by omega), cp_out (by omega), if_neg (by omega), if_neg (by omega), if_neg (by omega)]
      exact hl
    · have hl := h.2.2.2.2.2 (j - 1) (by omega)
      rw [cp_in (by omega) (by omega), cp_in (by omega) (by omega), cp_in (by omega) (by omega), if_pos (by omega), if_pos (by omega), if_pos (by omega)]
      rw [show 5 + 3 * j - 3 = 5 + 3 * (j - 1) by omega, show 5 + 3 * j + 1 - 3 = 5 + 3 * (j - 1) + 1 by omega, show 5 + 3 * j + 2 - 3 = 5 + 3 * (j - 1) + 2 by omega, show i.toNat + (j - (i + 1).toNat) = j - 1 by omega]
      exact hl
/-- the lines shifted down by one, for a line taken out -/
theorem RG.rm {w w' : AR} {N A S H W : Int} {x : LnS} (h : RG w N A S H W x) {i : Int} (hi : 0 ≤ i ∧ i < gN x) (e : ∀ j : Nat, w' j = if 5 + 3 * i.toNat ≤ j ∧ j < 5 + 3 * (gN x - 1).toNat then w (j + 3) else w j) : RG w' N A S H W (rmF x i) := by
  refine h.mk (fun j hj => by rw [e, if_neg (by omega)]) (fun j hj => ?_)
  rw [rmF_N] at hj
  show _ = va_cpy (gK (fgF x i.toNat)) (gK (fgF x i.toNat)) (i + 1).toNat i.toNat (gN (fgF x i.toNat) - 1 - i).toNat j ∧ _ = va_cpy (gL (fgF x i.toNat)) (gL (fgF x i.toNat)) (i + 1).toNat i.toNat (gN (fgF x i.toNat) - 1 - i).toNat j ∧ _ = va_cpy (gM (fgF x i.toNat)) (gM (fgF x i.toNat)) (i + 1).toNat i.toNat (gN (fgF x i.toNat) - 1 - i).toNat j
  rw [fgF_K, fgF_L, fgF_N, fgF_M, e, e, e]
  by_cases e2 : j < i.toNat
  · have hl := h.2.2.2.2.2 j (by omega)
    rw [cp_out (by omega), cp_out (by omega), cp_out (by omega), if_neg (by omega), if_neg (by omega), if_neg (by omega), up_ne (by omega)]
    exact hl
  · have hl := h.2.2.2.2.2 (j + 1) (by omega)
    rw [cp_in (by omega) (by omega), cp_in (by omega) (by omega), cp_in (by omega) (by omega), if_pos (by omega), if_pos (by omega), if_pos (by omega)]
    rw [show 5 + 3 * j + 3 = 5 + 3 * (j + 1) by omega, show 5 + 3 * j + 1 + 3 = 5 + 3 * (j + 1) + 1 by omega, show 5 + 3 * j + 2 + 3 = 5 + 3 * (j + 1) + 2 by omega, show (i + 1).toNat + (j - i.toNat) = j + 1 by omega, up_ne (by omega)]
    exact hl
theorem RG.cp {w u : AR} {N A S H W : Int} {x : LnS} (h : RG w N A S H W x) (e : ∀ j, j < 305 → u j = w j) (hn : gN x ≤ 100) : RG u N A S H W x :=
  ⟨(e 0 (by omega)).trans h.1, (e 1 (by omega)).trans h.2.1, (e 2 (by omega)).trans h.2.2.1, (e 3 (by omega)).trans h.2.2.2.1, (e 4 (by omega)).trans h.2.2.2.2.1, fun i hi => by rw [e _ (by omega), e _ (by omega), e _ (by omega)]; exact h.2.2.2.2.2 i hi⟩
theorem htF_me {x : LnS} (h : WFL x) (i : Nat) : htF (meF x i) i = tH (gW x) (gK x i) (gL x i) := by
  unfold htF
  rw [meF_M h, meF_W, meF_K, meF_L, if_pos up_at]
theorem htF_m {x : LnS} {i : Nat} (h : gM x i = 1) : htF x i = tH (gW x) (gK x i) (gL x i) := if_pos h
theorem dsF_W (X : WnS) : gW (pX (dsF X)) = gW (pX X) := (itL_inv (fun Y : WnS => gW (pX Y) = gW (pX X)) (c := dsC) (s := dsS) (fun Y hY _ => (meF_W _ _).trans hY) _ (ds0 X) (meF_W _ _))
theorem clF_W (X : WnS) : gW (pX (clF X)) = gW (pX X) := (itL_inv (fun Y : WnS => gW (pX Y) = gW (pX X)) (c := clC) (s := clS) (fun Y hY _ => (meF_W _ _).trans hY) _ X rfl)
theorem fiF_W (Y : WnS) : gW (fiF Y).1 = gW (pX Y) := (itL_inv (fun Z : LnS × Int × Int => gW Z.1 = gW (pX Y)) (c := fiC (pS Y + pH Y)) (s := fiS) (fun Z hZ _ => (meF_W _ _).trans hZ) _ (pX Y, pA Y + 1, htF (pX Y) (pA Y).toNat) rfl)
theorem seF_W (X : WnS) : gW (pX (seF X)) = gW (pX X) := by
  unfold seF
  split
  · rfl
  · unfold enF
    split
    · rw [clF_W]; exact (fiF_W _).trans (dsF_W X)
    · exact (fiF_W _).trans (dsF_W X)
theorem xr_topv {T : TT} {M : MB} {nL : Nat} {lv : List (Nat × Value)} {ws : va_W} {ce sl pc : Nat} {rest : List Value} {v v' : Int} (h : v = v') (k : VV T M nL lv ws ce sl pc (iv v' :: rest)) : VV T M nL lv ws ce sl pc (iv v :: rest) := by
  subst h
  exact k
abbrev Rep (w : AR) (X : WnS) : Prop := RG w (gN (pX X)) (pA X) (pS X) (pH X) (gW (pX X)) (pX X)
theorem RG.m1t {w : AR} {A S H : Int} {x : LnS} (h : RG w (gN x) A S H (gW x) x) (hx : WFL x) {i : Int} (hi : 0 ≤ i ∧ i < gN x) : RG (va_up w (rI i 2) 1) (gN (meF x i.toNat)) A S H (gW (meF x i.toNat)) (meF x i.toNat) := by
  rw [meF_N, meF_W]; exact h.m1 hx hi
theorem RG.m0t {w : AR} {A S H : Int} {x : LnS} (h : RG w (gN x) A S H (gW x) x) {i : Int} (hi : 0 ≤ i ∧ i < gN x) : RG (va_up w (rI i 2) 0) (gN (fgF x i.toNat)) A S H (gW (fgF x i.toNat)) (fgF x i.toNat) := by
  rw [fgF_N, fgF_W]; exact h.m0 hi
abbrev GI (g : AR) (x : LnS) : Prop := ∀ k : Nat, k < 3 → g k = gsF x (k : Int)
theorem GI_3 (gs : AR) (x : LnS) : GI (va_up (va_up (va_up gs 0 (gsF x 0)) 1 (gsF x 1)) 2 (gsF x 2)) x := by
  intro k hk
  rcases (show k = 0 ∨ k = 1 ∨ k = 2 by omega) with rfl | rfl | rfl <;> rfl
theorem gsF_e {x : LnS} (h : WFL x) {k : Int} (hk : 0 ≤ k ∧ k ≤ 2) : gsF x k = if cntF (gK x) (gM x) k (gN x).toNat = 0 then 20 else smF (gW x) (gK x) (gL x) (gM x) k (gN x).toNat / cntF (gK x) (gM x) k (gN x).toNat := by
  have e := h.2.2.2 k.toNat (by omega)
  rw [show ((k.toNat : Nat) : Int) = k by omega] at e
  have b := cntF_b (gK x) (gM x) k (gN x).toNat
  unfold gsF
  rw [e.1, e.2]
  by_cases q : cntF (gK x) (gM x) k (gN x).toNat = 0
  · rw [if_pos q, if_neg (by omega)]
  · rw [if_neg q, if_pos (by omega)]
theorem xr_pick {T : TT} {M : MB} {nL : Nat} {lv lv' : List (Nat × Value)} {ws : va_W} {ce sl pc : Nat} {rest : List Value} (ks : List Nat) (h : lv_pick lv ks = lv') (k : VV T M nL lv' ws ce sl pc rest) : VV T M nL lv ws ce sl pc rest :=
  fun ls H locs hl hP hD hS => k ls H locs (lv_sub hl ks h) hP hD hS
def sumM (x : LnS) (n : Nat) : Int := sumN (gM x) n
theorem sumM_c {x : LnS} (h : WFL x) (n : Nat) : sumM x n = cntF (gK x) (gM x) 0 n + cntF (gK x) (gM x) 1 n + cntF (gK x) (gM x) 2 n := by
  induction n with
  | zero => rfl
  | succ j ih =>
    have h3 := h.2.2.1 j
    unfold sumM at ih ⊢
    simp only [sumN, cntF, ih]
    rcases h3.2.2 with q | q
    · simp [q]
    · rcases (show gK x j = 0 ∨ gK x j = 1 ∨ gK x j = 2 by omega) with q2 | q2 | q2 <;> simp [q, q2] <;> omega
theorem sumM_g {x : LnS} (h : WFL x) : sumM x (gN x).toNat = gC x 0 + gC x 1 + gC x 2 := by
  rw [sumM_c h]
  have e0 := (h.2.2.2 0 (by omega)).1
  have e1 := (h.2.2.2 1 (by omega)).1
  have e2 := (h.2.2.2 2 (by omega)).1
  rw [e0, e1, e2]
  rfl
theorem shP_i {X : WnS} (h : WW X) {i : Int} (hi : 0 ≤ i ∧ i < gN (pX X)) : shP X i ↔ (tpF (pX X) i.toNat - (tpF (pX X) (pA X).toNat + pS X) < pH X ∧ 0 < tpF (pX X) i.toNat - (tpF (pX X) (pA X).toNat + pS X) + htF (pX X) i.toNat) := by
  constructor
  · exact fun q => q.2
  · intro q
    refine ⟨?_, q⟩
    by_cases ha : pA X ≤ i
    · exact ha
    · have h1 := tpF_mono h.1.1 (show i.toNat + 1 ≤ (pA X).toNat by omega)
      have h2 := h.1.2.2.2.2
      simp only [tpF] at h1
      omega
theorem pX_t (x : LnS) (h a s : Int) : pX (x, h, a, s) = x := rfl
theorem pH_t (x : LnS) (h a s : Int) : pH (x, h, a, s) = h := rfl
theorem pA_t (x : LnS) (h a s : Int) : pA (x, h, a, s) = a := rfl
theorem pS_t (x : LnS) (h a s : Int) : pS (x, h, a, s) = s := rfl
theorem cpy_step (f g : AR) (a b k : Nat) : va_up (va_cpy f g a b k) (b + k) (f (a + k)) = va_cpy f g a b (k + 1) := by
  funext j
  unfold va_up va_cpy
  by_cases h1 : j = b + k
  · subst h1
    rw [if_pos rfl, if_pos (by omega)]
    congr 1
    omega
  · rw [if_neg h1]
    by_cases h2 : b ≤ j ∧ j < b + k
    · rw [if_pos h2, if_pos (by omega)]
    · rw [if_neg h2, if_neg (by omega)]
theorem cpy_0 (f g : AR) (a b : Nat) : va_cpy f g a b 0 = g := by
  funext j
  unfold va_cpy
  rw [if_neg (by omega)]
/-- the reference's row of states: the k-th oldest of sz, as the class has it in its ring -/
def RHc (ps : AR) (H : Nat → WnS) (sz nx : Int) : Prop := ∀ k : Nat, (k : Int) < sz → Rep (fun j => ps (305 * k + j)) (H ((nx + 5 - sz + k) % 5).toNat)
theorem RHc_err {ps : AR} {H : Nat → WnS} {sz nx r : Int} {X : WnS} (h : RHc ps H sz nx) (hr : ¬ 0 ≤ r) : RHc ps (kpH r H nx X) (kpZ r sz) (kpN r nx) := by
  unfold kpH kpZ kpN
  rw [if_neg hr, if_neg hr, if_neg hr]
  exact h
theorem RHc_push {ps bf : AR} {H : Nat → WnS} {sz nx : Int} {X : WnS} (h : RHc ps H sz nx) (hX : Rep bf X) (hn : gN (pX X) ≤ 100) (hH : ∀ k, gN (pX (H k)) ≤ 100) (hsz : 0 ≤ sz ∧ sz < 5) (hnx : 0 ≤ nx ∧ nx < 5) : RHc (va_cpy bf ps 0 (305 * sz).toNat 305) (upW H nx X) (sz + 1) ((nx + 1) % 5) := by
  intro k hk
  by_cases e : (k : Int) = sz
  · have e1 : (((nx + 1) % 5 + 5 - (sz + 1) + k) % 5).toNat = nx.toNat := by omega
    rw [e1, show upW H nx X nx.toNat = X from if_pos rfl]
    exact RG.cp hX (fun j hj => by rw [cp_in (by omega) (by omega)]; congr 1; omega) hn
  · have e1 : (((nx + 1) % 5 + 5 - (sz + 1) + k) % 5).toNat = ((nx + 5 - sz + k) % 5).toNat := by omega
    have e2 : nx.toNat ≠ ((nx + 5 - sz + k) % 5).toNat := by omega
    rw [e1, show upW H nx X ((nx + 5 - sz + k) % 5).toNat = H ((nx + 5 - sz + k) % 5).toNat from if_neg e2]
    exact RG.cp (h k (by omega)) (fun j hj => by rw [cp_out (by omega)]) (hH _)
theorem RHc_shift {ps u : AR} {H : Nat → WnS} {nx : Int} (h : RHc ps H 5 nx) (hH : ∀ k, gN (pX (H k)) ≤ 100) (hnx : 0 ≤ nx ∧ nx < 5) (hu : ∀ j : Nat, u j = if j < 1220 then ps (j + 305) else ps j) : RHc u H 4 nx := by
  intro k hk
  have e1 : ((nx + 5 - 4 + k) % 5).toNat = ((nx + 5 - 5 + ((k + 1 : Nat) : Int)) % 5).toNat := by omega
  rw [e1]
  exact RG.cp (h (k + 1) (by omega)) (fun j hj => by rw [hu, if_pos (by omega)]; congr 1; omega) (hH _)
theorem puR_w {X : WnS} (h : WW X) (i kd ln : Int) : (-100003 ≤ (puR X i kd ln).1 ∧ (puR X i kd ln).1 ≤ -100001) ∨ (0 ≤ (puR X i kd ln).1 ∧ (puR X i kd ln).1 < 1000000) := by
  have hv := puR_v h i kd ln
  unfold puR at hv ⊢
  split
  · dsimp only; omega
  · split
    · dsimp only; omega
    · have hP := WW_se (PW_pu h (i := i) (kd := kd) (ln := ln) (by omega) (by omega) (by omega) (by omega))
      have h1 := tpF_b hP.1.1.1 (gN (pX (seF (inF (pX X) i kd ln, pH X, (if 0 < gN (pX X) ∧ i ≤ pA X then pA X + 1 else pA X), pS X)))).toNat
      have h2 := hP.1.1.1.1
      dsimp only
      omega
theorem cuR_w {X : WnS} (h : WW X) (i : Int) : (-100003 ≤ (cuR X i).1 ∧ (cuR X i).1 ≤ -100001) ∨ (0 ≤ (cuR X i).1 ∧ (cuR X i).1 < 1000000) := by
  unfold cuR
  split
  · dsimp only; omega
  · have hP := WW_se (PW_cu h (i := i) (by omega)).1
    have h2 := hP.1.1.1.1
    dsimp only
    omega
theorem mbR_w {X : WnS} (h : WW X) (d : Int) : (-100003 ≤ (mbR X d).1 ∧ (mbR X d).1 ≤ -100001) ∨ (0 ≤ (mbR X d).1 ∧ (mbR X d).1 < 1000000) := by
  unfold mbR
  split
  · dsimp only; omega
  · split
    · dsimp only; omega
    · rename_i hn
      have hP := (WW_se (PW_mb h (d := d) (by omega) hn).1).1
      have h2 := hP.an
      have h3 := hP.1.1.1
      dsimp only
      omega
theorem msR_w {X : WnS} (h : WW X) (d : Int) : (-100003 ≤ (msR X d).1 ∧ (msR X d).1 ≤ -100001) ∨ (0 ≤ (msR X d).1 ∧ (msR X d).1 < 1000000) := by
  unfold msR
  split
  · dsimp only; omega
  · split
    · dsimp only; omega
    · rename_i hn
      have hP := (WW_se (PW_ms h (s := d) (by omega) hn)).1
      have h2 := hP.an
      have h3 := hP.1.1.1
      dsimp only
      omega
theorem mlR_w {X : WnS} (h : WW X) (i : Int) : (-100003 ≤ (mlR X i).1 ∧ (mlR X i).1 ≤ -100001) ∨ (0 ≤ (mlR X i).1 ∧ (mlR X i).1 < 1000000) := by
  unfold mlR
  split
  · dsimp only; omega
  · have hP := (WW_se (PW_ml h (i := i) (by omega))).1
    have h2 := hP.an
    have h3 := hP.1.1.1
    dsimp only
    omega
