/-! ===== PURE: the window of the class ===== -/
def itL {α : Type} (c : α → Bool) (s : α → α) : Nat → α → α
  | 0, X => X
  | f + 1, X => if c X = true then itL c s f (s X) else X
theorem itL_inv {α : Type} {c : α → Bool} {s : α → α} (P : α → Prop) (h : ∀ X, P X → c X = true → P (s X)) (f : Nat) (X : α) (hP : P X) : P (itL c s f X) := by
  induction f generalizing X with
  | zero => exact hP
  | succ f ih =>
    unfold itL
    split
    · rename_i hc
      exact ih _ (h X hP hc)
    · exact hP
theorem itL_exit {α : Type} {c : α → Bool} {s : α → α} (P : α → Prop) (m : α → Nat) (h : ∀ X, P X → c X = true → P (s X) ∧ m (s X) < m X) (f : Nat) (X : α) (hP : P X) (hm : m X ≤ f) : ¬ c (itL c s f X) = true := by
  induction f generalizing X with
  | zero =>
    intro hc
    have := (h X hP hc).2
    omega
  | succ f ih =>
    unfold itL
    split
    · rename_i hc
      have h2 := h X hP hc
      exact ih _ h2.1 (by omega)
    · rename_i hc
      exact hc
theorem itL_t {α : Type} {c : α → Bool} {s : α → α} {f : Nat} {X R : α} (h : itL c s (f + 1) X = R) (hc : c X = true) : itL c s f (s X) = R := by
  rw [← h]; exact (if_pos hc).symm
theorem itL_f {α : Type} {c : α → Bool} {s : α → α} {f : Nat} {X R : α} (h : itL c s f X = R) (hc : ¬ c X = true) : X = R := by
  rw [← h]
  cases f with
  | zero => rfl
  | succ f => exact (if_neg hc).symm
def PW (X : WnS) : Prop := WFL (pX X) ∧ (20 ≤ pH X ∧ pH X ≤ 600) ∧ (gN (pX X) = 0 → pA X = 0 ∧ pS X = 0) ∧ (0 < gN (pX X) → 0 ≤ pA X ∧ pA X < gN (pX X)) ∧ 0 ≤ pS X ∧ pS X ≤ 400000
def WW (X : WnS) : Prop := PW X ∧ pS X ≤ 1450
-- descend
def dsC (X : WnS) : Bool := decide (pA X + 1 < gN (pX X) ∧ htF (pX X) (pA X).toNat ≤ pS X)
def dsS (X : WnS) : WnS := (meF (pX X) (pA X + 1).toNat, pH X, pA X + 1, pS X - htF (pX X) (pA X).toNat)
def ds0 (X : WnS) : WnS := (meF (pX X) (pA X).toNat, pH X, pA X, pS X)
def dsF (X : WnS) : WnS := itL dsC dsS (gN (pX X) - pA X).toNat (ds0 X)
/-- lines are there, the anchor is one of them, the shift lies between bounds -/
def DI (N lo hi : Int) (X : WnS) : Prop := WFL (pX X) ∧ gN (pX X) = N ∧ (0 ≤ pA X ∧ pA X < N) ∧ lo ≤ pS X ∧ pS X ≤ hi
theorem DI_ds {N hi : Int} {X : WnS} (h : DI N 0 hi X) (hc : dsC X = true) : DI N 0 hi (dsS X) ∧ (N - pA (dsS X)).toNat < (N - pA X).toNat := by
  obtain ⟨h1, h2, h3, h4, h5⟩ := h
  have hc := of_decide_eq_true hc
  have hb := htF_b h1 (pA X).toNat
  have e1 : pA (dsS X) = pA X + 1 := rfl
  have e2 : pS (dsS X) = pS X - htF (pX X) (pA X).toNat := rfl
  refine ⟨⟨WFL_me h1 (by omega), (meF_N _ _).trans h2, ?_, ?_, ?_⟩, ?_⟩
  · rw [e1]; omega
  · rw [e2]; omega
  · rw [e2]; omega
  · rw [e1]; omega
-- climb
def clC (X : WnS) : Bool := decide (0 < pA X ∧ pS X < 0)
def clS (X : WnS) : WnS := (meF (pX X) (pA X - 1).toNat, pH X, pA X - 1, pS X + htF (meF (pX X) (pA X - 1).toNat) (pA X - 1).toNat)
def clL (X : WnS) : WnS := itL clC clS (pA X).toNat X
def clF (X : WnS) : WnS := (pX (clL X), pH (clL X), pA (clL X), max 0 (pS (clL X)))
theorem DI_cl {N lo hi : Int} (hhi : 1450 ≤ hi) {X : WnS} (h : DI N lo hi X) (hc : clC X = true) : DI N lo hi (clS X) ∧ (pA (clS X)).toNat < (pA X).toNat := by
  obtain ⟨h1, h2, h3, h4, h5⟩ := h
  have hc := of_decide_eq_true hc
  have hw := WFL_me h1 (i := (pA X - 1).toNat) (by omega)
  have hb := htF_b hw (pA X - 1).toNat
  have e1 : pA (clS X) = pA X - 1 := rfl
  have e2 : pS (clS X) = pS X + htF (meF (pX X) (pA X - 1).toNat) (pA X - 1).toNat := rfl
  refine ⟨⟨hw, (meF_N _ _).trans h2, ?_, ?_, ?_⟩, ?_⟩
  · rw [e1]; omega
  · rw [e2]; omega
  · rw [e2]; omega
  · rw [e1]; omega
theorem DI_clF {N lo hi : Int} (hhi : 1450 ≤ hi) {X : WnS} (h : DI N lo hi X) : DI N 0 hi (clF X) := by
  have h1 : DI N lo hi (clL X) := itL_inv (DI N lo hi) (fun Y hY hc => (DI_cl hhi hY hc).1) _ _ h
  obtain ⟨h1, h2, h3, h4, h5⟩ := h1
  have e : pS (clF X) = max 0 (pS (clL X)) := rfl
  exact ⟨h1, h2, h3, by rw [e]; omega, by rw [e]; omega⟩
theorem itL_pH {c : WnS → Bool} {s : WnS → WnS} (hs : ∀ X, pH (s X) = pH X) (f : Nat) (X : WnS) : pH (itL c s f X) = pH X :=
  itL_inv (fun Y => pH Y = pH X) (fun Y hY _ => (hs Y).trans hY) f X rfl
theorem clF_H (X : WnS) : pH (clF X) = pH X := itL_pH (c := clC) (s := clS) (fun _ => rfl) _ _
theorem dsF_H (X : WnS) : pH (dsF X) = pH X := itL_pH (c := dsC) (s := dsS) (fun _ => rfl) _ (ds0 X)
theorem DI_dsF {N hi : Int} {X : WnS} (h : DI N 0 hi X) : DI N 0 hi (dsF X) ∧ ¬ dsC (dsF X) = true := by
  have h0 : DI N 0 hi (ds0 X) := ⟨WFL_me h.1 (by have := h.2; omega), (meF_N _ _).trans h.2.1, h.2.2⟩
  refine ⟨itL_inv (DI N 0 hi) (fun Y hY hc => (DI_ds hY hc).1) _ _ h0, ?_⟩
  refine itL_exit (DI N 0 hi) (fun Y => (N - pA Y).toNat) (fun Y hY hc => DI_ds hY hc) _ _ h0 ?_
  show (N - pA X).toNat ≤ (gN (pX X) - pA X).toNat
  rw [h.2.1]
  exact Nat.le_refl _
-- fill
def fiC (b : Int) (Z : LnS × Int × Int) : Bool := decide (Z.2.1 < gN Z.1 ∧ Z.2.2 < b)
def fiS (Z : LnS × Int × Int) : LnS × Int × Int := (meF Z.1 Z.2.1.toNat, Z.2.1 + 1, Z.2.2 + htF (meF Z.1 Z.2.1.toNat) Z.2.1.toNat)
def fiF (Y : WnS) : LnS × Int × Int := itL (fiC (pS Y + pH Y)) fiS (gN (pX Y) - pA Y).toNat (pX Y, pA Y + 1, htF (pX Y) (pA Y).toNat)
def FI (N : Int) (Z : LnS × Int × Int) : Prop := WFL Z.1 ∧ gN Z.1 = N ∧ (1 ≤ Z.2.1 ∧ Z.2.1 ≤ N) ∧ 0 ≤ Z.2.2 ∧ Z.2.2 ≤ 1450 * Z.2.1
theorem FI_s {N b : Int} {Z : LnS × Int × Int} (h : FI N Z) (hc : fiC b Z = true) : FI N (fiS Z) ∧ (N - (fiS Z).2.1).toNat < (N - Z.2.1).toNat := by
  obtain ⟨h1, h2, h3, h4, h5⟩ := h
  have hc := of_decide_eq_true hc
  have hw := WFL_me h1 (i := Z.2.1.toNat) (by omega)
  have hb := htF_b hw Z.2.1.toNat
  have e1 : (fiS Z).2.1 = Z.2.1 + 1 := rfl
  have e2 : (fiS Z).2.2 = Z.2.2 + htF (meF Z.1 Z.2.1.toNat) Z.2.1.toNat := rfl
  refine ⟨⟨hw, (meF_N _ _).trans h2, ?_, ?_, ?_⟩, ?_⟩
  · rw [e1]; omega
  · rw [e2]; omega
  · rw [e1, e2]; omega
  · rw [e1]; omega
theorem FI_0 {N lo hi : Int} {Y : WnS} (h : DI N lo hi Y) : FI N (pX Y, pA Y + 1, htF (pX Y) (pA Y).toNat) := by
  have hb := htF_b h.1 (pA Y).toNat
  obtain ⟨h1, h2, h3, h4, h5⟩ := h
  refine ⟨h1, h2, ?_, ?_, ?_⟩
  · show 1 ≤ pA Y + 1 ∧ pA Y + 1 ≤ N; omega
  · show 0 ≤ htF (pX Y) (pA Y).toNat; omega
  · show htF (pX Y) (pA Y).toNat ≤ 1450 * (pA Y + 1); omega
theorem FI_F {N lo hi : Int} {Y : WnS} (h : DI N lo hi Y) : FI N (fiF Y) ∧ ¬ fiC (pS Y + pH Y) (fiF Y) = true := by
  refine ⟨itL_inv (FI N) (fun Z hZ hc => (FI_s hZ hc).1) _ _ (FI_0 h), ?_⟩
  refine itL_exit (FI N) (fun Z => (N - Z.2.1).toNat) (fun Z hZ hc => FI_s hZ hc) _ _ (FI_0 h) ?_
  show (N - (pA Y + 1)).toNat ≤ (gN (pX Y) - pA Y).toNat
  rw [h.2.1]
  omega
/-- the end of the settling: climb if the last line ends above the bottom -/
def enF (Y : WnS) (Z : LnS × Int × Int) : WnS := if gN Z.1 ≤ Z.2.1 ∧ Z.2.2 < pS Y + pH Y then clF (Z.1, pH Y, pA Y, pS Y - (pS Y + pH Y - Z.2.2)) else (Z.1, pH Y, pA Y, pS Y)
def seF (X : WnS) : WnS := if gN (pX X) = 0 then X else enF (dsF X) (fiF (dsF X))
theorem fiF_ge {Y : WnS} (f : Nat) (b : Int) (Z : LnS × Int × Int) : Z.2.1 ≤ (itL (fiC b) fiS f Z).2.1 := by
  induction f generalizing Z with
  | zero => exact Int.le_refl _
  | succ f ih =>
    unfold itL
    split
    · have := ih (fiS Z)
      have e : (fiS Z).2.1 = Z.2.1 + 1 := rfl
      omega
    · exact Int.le_refl _
theorem seF_H (X : WnS) : pH (seF X) = pH X := by
  unfold seF
  split
  · rfl
  · unfold enF
    split
    · rw [clF_H]; exact dsF_H X
    · exact dsF_H X
theorem fi_N (f : Nat) (b : Int) (Z : LnS × Int × Int) : gN (itL (fiC b) fiS f Z).1 = gN Z.1 :=
  itL_inv (fun Y : LnS × Int × Int => gN Y.1 = gN Z.1) (fun Y hY _ => (meF_N _ _).trans hY) f Z rfl
theorem DI_enF {N : Int} {Y : WnS} (hH : 20 ≤ pH Y ∧ pH Y ≤ 600) (h : DI N 0 400000 Y) (hnc : ¬ dsC Y = true) : DI N 0 1450 (enF Y (fiF Y)) := by
  obtain ⟨hF, hx⟩ := FI_F h
  have hb := htF_b h.1 (pA Y).toNat
  have hd : ¬ (pA Y + 1 < gN (pX Y) ∧ htF (pX Y) (pA Y).toNat ≤ pS Y) := fun q => hnc (decide_eq_true q)
  obtain ⟨h1, h2, h3, h4, h5⟩ := h
  have hge : pA Y + 1 ≤ (fiF Y).2.1 := fiF_ge (Y := Y) _ _ (pX Y, pA Y + 1, htF (pX Y) (pA Y).toNat)
  have hx2 : ¬ ((fiF Y).2.1 < gN (fiF Y).1 ∧ (fiF Y).2.2 < pS Y + pH Y) := fun q => hx (decide_eq_true q)
  obtain ⟨f1, f2, f3, f4, f5⟩ := hF
  unfold enF
  by_cases hs : pS Y ≤ 1450
  · split
    · refine DI_clF (lo := -600000) (by omega) ⟨f1, f2, h3, ?_, ?_⟩
      · show -600000 ≤ pS Y - (pS Y + pH Y - (fiF Y).2.2); omega
      · show pS Y - (pS Y + pH Y - (fiF Y).2.2) ≤ 1450; omega
    · exact ⟨f1, f2, h3, h4, hs⟩
  · have hlast : pA Y + 1 = N := by omega
    have hfi : fiF Y = (pX Y, pA Y + 1, htF (pX Y) (pA Y).toNat) := by
      unfold fiF
      exact (itL_f rfl (by
        intro q
        have q2 := of_decide_eq_true q
        have q3 : pA Y + 1 < gN (pX Y) := q2.1
        omega)).symm
    rw [hfi] at f1 f2 f3 f4 f5 ⊢
    rw [if_pos (show gN (pX Y) ≤ pA Y + 1 ∧ htF (pX Y) (pA Y).toNat < pS Y + pH Y by omega)]
    refine DI_clF (lo := -600000) (by omega) ⟨f1, f2, h3, ?_, ?_⟩
    · show -600000 ≤ pS Y - (pS Y + pH Y - htF (pX Y) (pA Y).toNat); omega
    · show pS Y - (pS Y + pH Y - htF (pX Y) (pA Y).toNat) ≤ 1450; omega
theorem PW.di {X : WnS} (h : PW X) (hn : ¬ gN (pX X) = 0) : DI (gN (pX X)) 0 400000 X := ⟨h.1, rfl, h.2.2.2.1 (by have := h.1.1; omega), h.2.2.2.2.1, h.2.2.2.2.2⟩
theorem WW_se {X : WnS} (h : PW X) : WW (seF X) ∧ gN (pX (seF X)) = gN (pX X) := by
  have hH := seF_H X
  unfold seF at hH ⊢
  split
  · rename_i h0
    exact ⟨⟨h, by have := h.2.2.1 h0; omega⟩, rfl⟩
  · rename_i h0
    rw [if_neg h0] at hH
    have hd := DI_dsF (h.di h0)
    have he := DI_enF (by rw [dsF_H]; exact h.2.1) hd.1 hd.2
    obtain ⟨e1, e2, e3, e4, e5⟩ := he
    refine ⟨⟨⟨e1, by rw [hH]; exact h.2.1, fun q => absurd (e2.symm.trans q) h0, fun _ => by rw [e2]; exact e3, e4, by omega⟩, e5⟩, e2⟩
-- the operations
def puR (X : WnS) (i kd ln : Int) : Int × WnS :=
  if ¬ ((0 ≤ i ∧ i ≤ gN (pX X)) ∧ (0 ≤ kd ∧ kd < 3) ∧ 0 ≤ ln ∧ ln ≤ 400) then (-100001, X) else if 100 ≤ gN (pX X) then (-100003, X) else
  (tpF (pX (seF (inF (pX X) i kd ln, pH X, (if 0 < gN (pX X) ∧ i ≤ pA X then pA X + 1 else pA X), pS X))) (gN (pX (seF (inF (pX X) i kd ln, pH X, (if 0 < gN (pX X) ∧ i ≤ pA X then pA X + 1 else pA X), pS X)))).toNat, seF (inF (pX X) i kd ln, pH X, (if 0 < gN (pX X) ∧ i ≤ pA X then pA X + 1 else pA X), pS X))
def cuP (X : WnS) (i : Int) : WnS := (rmF (pX X) i, pH X, (if i < pA X ∨ (i = pA X ∧ i = gN (pX X) - 1 ∧ 0 < pA X) then pA X - 1 else pA X), (if i = pA X then 0 else pS X))
def cuR (X : WnS) (i : Int) : Int × WnS := if ¬ (0 ≤ i ∧ i < gN (pX X)) then (-100001, X) else (gN (pX (seF (cuP X i))), seF (cuP X i))
def chR (X : WnS) (i ln : Int) : Int × WnS := if ¬ ((0 ≤ i ∧ i < gN (pX X)) ∧ 0 ≤ ln ∧ ln ≤ 400) then (-100001, X) else (gL (pX X) i.toNat, seF (slF (pX X) i ln, pH X, pA X, pS X))
def shR (X : WnS) (h : Int) : Int × WnS := if ¬ (20 ≤ h ∧ h ≤ 600) then (-100001, X) else (pH X, seF (pX X, h, pA X, pS X))
def swR (X : WnS) (w : Int) : Int × WnS := if ¬ (5 ≤ w ∧ w ≤ 80) then (-100001, X) else (gW (pX X), seF (faF (pX X) w, pH X, pA X, pS X))
def mbP (X : WnS) (d : Int) : WnS := clF (pX X, pH X, pA X, pS X + d)
def mbR (X : WnS) (d : Int) : Int × WnS := if ¬ (-9999 ≤ d ∧ d ≤ 9999) then (-100001, X) else if gN (pX X) = 0 then (-100002, X) else (pA (seF (mbP X d)), seF (mbP X d))
def plF (X : WnS) (s : Int) : Int := max 0 (tpF (pX X) (gN (pX X)).toNat - pH X) * s / 1000
def anF (X : WnS) (s : Int) : Int := max 0 (laF (pX X) (plF X s) (gN (pX X)).toNat 0)
def msP (X : WnS) (s : Int) : WnS := (pX X, pH X, anF X s, plF X s - tpF (pX X) (anF X s).toNat)
def msR (X : WnS) (s : Int) : Int × WnS := if ¬ (0 ≤ s ∧ s ≤ 1000) then (-100001, X) else if gN (pX X) = 0 then (-100002, X) else (pA (seF (msP X s)), seF (msP X s))
def mlR (X : WnS) (i : Int) : Int × WnS := if ¬ (0 ≤ i ∧ i < gN (pX X)) then (-100001, X) else (pA (seF (pX X, pH X, i, 0)), seF (pX X, pH X, i, 0))
-- a place below the total lies in a line
theorem laF_b {x : LnS} (h : WFL x) {y : Int} : ∀ (f k : Nat), y < tpF x (k + f) → tpF x k ≤ y → ∃ j : Nat, k ≤ j ∧ j < k + f ∧ laF x y f k = j ∧ tpF x j ≤ y ∧ y < tpF x (j + 1) := by
  intro f
  induction f with
  | zero => intro k h1 h2; simp at h1; omega
  | succ f ih =>
    intro k h1 h2
    unfold laF
    by_cases hy : y < tpF x (k + 1)
    · exact ⟨k, by omega, by omega, if_pos hy, h2, hy⟩
    · obtain ⟨j, a1, a2, a3, a4, a5⟩ := ih (k + 1) (by rw [show k + 1 + f = k + (f + 1) by omega]; exact h1) (by omega)
      exact ⟨j, by omega, by omega, by rw [if_neg hy]; exact a3, a4, a5⟩
theorem laF_n {x : LnS} {y : Int} : ∀ (f k : Nat), (∀ j, j ≤ k + f → tpF x j ≤ y) → laF x y f k = -100009 := by
  intro f
  induction f with
  | zero => intro k _; rfl
  | succ f ih =>
    intro k h
    unfold laF
    rw [if_neg (by have := h (k + 1) (by omega); omega)]
    exact ih (k + 1) (fun j hj => h j (by omega))
theorem laF_r {x : LnS} (y : Int) : ∀ (f k : Nat), laF x y f k = -100009 ∨ ∃ j : Nat, k ≤ j ∧ j < k + f ∧ laF x y f k = j := by
  intro f
  induction f with
  | zero => intro k; exact Or.inl rfl
  | succ f ih =>
    intro k
    unfold laF
    split
    · exact Or.inr ⟨k, by omega, by omega, rfl⟩
    · rcases ih (k + 1) with h | ⟨j, a1, a2, a3⟩
      · exact Or.inl h
      · exact Or.inr ⟨j, by omega, by omega, a3⟩
theorem plF_b {X : WnS} (h : PW X) {s : Int} (hs : 0 ≤ s ∧ s ≤ 1000) (hn : ¬ gN (pX X) = 0) : 0 ≤ plF X s ∧ plF X s < tpF (pX X) (gN (pX X)).toNat := by
  have h1 := tpF_b h.1 (gN (pX X)).toNat
  have h2 := h.1.1
  have h3 := h.2.1
  unfold plF
  have hm : 0 ≤ max 0 (tpF (pX X) (gN (pX X)).toNat - pH X) := by omega
  generalize hM : max 0 (tpF (pX X) (gN (pX X)).toNat - pH X) = m at hm
  have hms : 0 ≤ m * s := Int.mul_nonneg hm hs.1
  have hms2 : m * s ≤ m * 1000 := Int.mul_le_mul_of_nonneg_left hs.2 hm
  constructor
  · exact Int.ediv_nonneg hms (by omega)
  · omega
theorem anF_b {X : WnS} (h : PW X) {s : Int} (hs : 0 ≤ s ∧ s ≤ 1000) (hn : ¬ gN (pX X) = 0) : (0 ≤ anF X s ∧ anF X s < gN (pX X)) ∧ (0 ≤ plF X s - tpF (pX X) (anF X s).toNat ∧ plF X s - tpF (pX X) (anF X s).toNat ≤ 1450) ∧ anF X s = laF (pX X) (plF X s) (gN (pX X)).toNat 0 := by
  have h1 := plF_b h hs hn
  have h2 := h.1.1
  obtain ⟨j, a1, a2, a3, a4, a5⟩ := laF_b h.1 (y := plF X s) (gN (pX X)).toNat 0 (by rw [Nat.zero_add]; exact h1.2) (by simp only [tpF]; exact h1.1)
  have e : anF X s = (j : Int) := by unfold anF; rw [a3]; omega
  rw [e, a3]
  have hb := htF_b h.1 j
  simp only [tpF] at a5
  refine ⟨by omega, ?_, rfl⟩
  rw [show (j : Int).toNat = j from rfl]
  omega
-- what holds before each settling
theorem PW_pu {X : WnS} (h : WW X) {i kd ln : Int} (hi : 0 ≤ i ∧ i ≤ gN (pX X)) (hn : gN (pX X) < 100) (hk : 0 ≤ kd ∧ kd ≤ 2) (hl : 0 ≤ ln ∧ ln ≤ 400) : PW (inF (pX X) i kd ln, pH X, (if 0 < gN (pX X) ∧ i ≤ pA X then pA X + 1 else pA X), pS X) := by
  obtain ⟨⟨h1, h2, h3, h4, h5, h6⟩, h7⟩ := h
  have hz := h1.1
  have eN : gN (pX ((inF (pX X) i kd ln, pH X, (if 0 < gN (pX X) ∧ i ≤ pA X then pA X + 1 else pA X), pS X) : WnS)) = gN (pX X) + 1 := rfl
  have eA : pA ((inF (pX X) i kd ln, pH X, (if 0 < gN (pX X) ∧ i ≤ pA X then pA X + 1 else pA X), pS X) : WnS) = (if 0 < gN (pX X) ∧ i ≤ pA X then pA X + 1 else pA X) := rfl
  refine ⟨WFL_in h1 hi hn hk hl, h2, fun q => by rw [eN] at q; omega, fun q => ?_, h5, h6⟩
  rw [eN, eA]
  by_cases h0 : gN (pX X) = 0
  · have := h3 h0
    split <;> omega
  · have := h4 (by omega)
    split <;> omega
theorem PW_cu {X : WnS} (h : WW X) {i : Int} (hi : 0 ≤ i ∧ i < gN (pX X)) : PW (cuP X i) ∧ gN (pX (cuP X i)) = gN (pX X) - 1 := by
  obtain ⟨⟨h1, h2, h3, h4, h5, h6⟩, h7⟩ := h
  have hz := h1.1
  have eN : gN (pX (cuP X i)) = gN (pX X) - 1 := rmF_N _ _
  have eA : pA (cuP X i) = (if i < pA X ∨ (i = pA X ∧ i = gN (pX X) - 1 ∧ 0 < pA X) then pA X - 1 else pA X) := rfl
  have eS : pS (cuP X i) = (if i = pA X then 0 else pS X) := rfl
  have h8 := h4 (by omega)
  refine ⟨⟨WFL_rm h1 hi, h2, fun q => ?_, fun q => ?_, ?_, ?_⟩, eN⟩
  · rw [eN] at q
    rw [eA, eS, if_pos (show i = pA X by omega)]
    refine ⟨?_, rfl⟩
    split <;> omega
  · rw [eN] at q ⊢
    rw [eA]
    split <;> omega
  · rw [eS]; split <;> omega
  · rw [eS]; split <;> omega
theorem PW_ch {X : WnS} (h : WW X) {i ln : Int} (hi : 0 ≤ i ∧ i < gN (pX X)) (hl : 0 ≤ ln ∧ ln ≤ 400) : PW (slF (pX X) i ln, pH X, pA X, pS X) := by
  obtain ⟨⟨h1, h2, h3, h4, h5, h6⟩, h7⟩ := h
  have e : gN (pX ((slF (pX X) i ln, pH X, pA X, pS X) : WnS)) = gN (pX X) := slF_N _ _ _
  exact ⟨WFL_sl h1 hi hl, h2, by rw [e]; exact h3, by rw [e]; exact h4, h5, h6⟩
theorem PW_sh {X : WnS} (h : WW X) {v : Int} (hv : 20 ≤ v ∧ v ≤ 600) : PW (pX X, v, pA X, pS X) := by
  obtain ⟨⟨h1, h2, h3, h4, h5, h6⟩, h7⟩ := h
  exact ⟨h1, hv, h3, h4, h5, h6⟩
theorem PW_sw {X : WnS} (h : WW X) {w : Int} (hw : 5 ≤ w ∧ w ≤ 80) : PW (faF (pX X) w, pH X, pA X, pS X) := by
  obtain ⟨⟨h1, h2, h3, h4, h5, h6⟩, h7⟩ := h
  have e : gN (pX ((faF (pX X) w, pH X, pA X, pS X) : WnS)) = gN (pX X) := fgA_N _ _
  exact ⟨WFL_fa h1 hw, h2, by rw [e]; exact h3, by rw [e]; exact h4, h5, h6⟩
theorem PW_mb {X : WnS} (h : WW X) {d : Int} (hd : -9999 ≤ d ∧ d ≤ 9999) (hn : ¬ gN (pX X) = 0) : PW (mbP X d) ∧ gN (pX (mbP X d)) = gN (pX X) := by
  obtain ⟨⟨h1, h2, h3, h4, h5, h6⟩, h7⟩ := h
  have hz := h1.1
  have h8 := h4 (by omega)
  have hD : DI (gN (pX X)) (-9999) 20000 (pX X, pH X, pA X, pS X + d) := ⟨h1, rfl, h8, by show -9999 ≤ pS X + d; omega, by show pS X + d ≤ 20000; omega⟩
  obtain ⟨e1, e2, e3, e4, e5⟩ := DI_clF (by omega) hD
  have hH : pH (mbP X d) = pH X := clF_H _
  exact ⟨⟨e1, by rw [hH]; exact h2, fun q => absurd (e2.symm.trans q) hn, fun _ => by rw [show gN (pX (mbP X d)) = gN (pX X) from e2]; exact e3, e4, by have : pS (mbP X d) ≤ 20000 := e5; omega⟩, e2⟩
theorem PW_ms {X : WnS} (h : WW X) {s : Int} (hs : 0 ≤ s ∧ s ≤ 1000) (hn : ¬ gN (pX X) = 0) : PW (msP X s) := by
  have ha := anF_b h.1 hs hn
  obtain ⟨⟨h1, h2, h3, h4, h5, h6⟩, h7⟩ := h
  refine ⟨h1, h2, fun q => absurd q hn, fun _ => ha.1, ha.2.1.1, ?_⟩
  show plF X s - tpF (pX X) (anF X s).toNat ≤ 400000
  omega
theorem PW_ml {X : WnS} (h : WW X) {i : Int} (hi : 0 ≤ i ∧ i < gN (pX X)) : PW (pX X, pH X, i, 0) := by
  obtain ⟨⟨h1, h2, h3, h4, h5, h6⟩, h7⟩ := h
  exact ⟨h1, h2, fun q => by have q2 : gN (pX X) = 0 := q; omega, fun _ => hi, Int.le_refl _, by show (0:Int) ≤ 400000; omega⟩
theorem WW_pu {X : WnS} (h : WW X) (i kd ln : Int) : WW (puR X i kd ln).2 := by
  unfold puR
  split
  · exact h
  · rename_i h1
    split
    · exact h
    · exact (WW_se (PW_pu h (by omega) (by omega) (by omega) (by omega))).1
theorem WW_cu {X : WnS} (h : WW X) (i : Int) : WW (cuR X i).2 := by
  unfold cuR
  split
  · exact h
  · exact (WW_se (PW_cu h (by omega)).1).1
theorem WW_ch {X : WnS} (h : WW X) (i ln : Int) : WW (chR X i ln).2 := by
  unfold chR
  split
  · exact h
  · exact (WW_se (PW_ch h (by omega) (by omega))).1
theorem WW_sh {X : WnS} (h : WW X) (v : Int) : WW (shR X v).2 := by
  unfold shR
  split
  · exact h
  · exact (WW_se (PW_sh h (by omega))).1
theorem WW_sw {X : WnS} (h : WW X) (w : Int) : WW (swR X w).2 := by
  unfold swR
  split
  · exact h
  · exact (WW_se (PW_sw h (by omega))).1
theorem WW_mb {X : WnS} (h : WW X) (d : Int) : WW (mbR X d).2 := by
  unfold mbR
  split
  · exact h
  · split
    · exact h
    · rename_i hn
      exact (WW_se (PW_mb h (by omega) hn).1).1
theorem WW_ms {X : WnS} (h : WW X) (s : Int) : WW (msR X s).2 := by
  unfold msR
  split
  · exact h
  · split
    · exact h
    · rename_i hn
      exact (WW_se (PW_ms h (by omega) hn)).1
theorem WW_ml {X : WnS} (h : WW X) (i : Int) : WW (mlR X i).2 := by
  unfold mlR
  split
  · exact h
  · exact (WW_se (PW_ml h (by omega))).1
-- what is seen
def snP (x : LnS) (tp H : Int) (i : Nat) : Prop := tpF x i - tp < H ∧ 0 < tpF x i - tp + htF x i
def snF (x : LnS) (tp H : Int) : Nat → Int
  | 0 => 0
  | k + 1 => snF x tp H k + (if tpF x k - tp < H ∧ 0 < tpF x k - tp + htF x k then 1 else 0)
theorem snF_b (x : LnS) (tp H : Int) (n : Nat) : 0 ≤ snF x tp H n ∧ snF x tp H n ≤ n := by
  induction n with
  | zero => simp [snF]
  | succ j ih =>
    simp only [snF]
    split <;> omega
theorem snF_lo {x : LnS} (h : WFL x) {tp H : Int} (n : Nat) (hn : tpF x n ≤ tp) : snF x tp H n = 0 := by
  induction n with
  | zero => rfl
  | succ j ih =>
    have hb := htF_b h j
    simp only [snF, tpF] at *
    rw [ih (by omega), if_neg (by omega)]
    rfl
theorem snF_hi {x : LnS} (h : WFL x) {tp H : Int} (b n : Nat) (hb : H ≤ tpF x b - tp) (hbn : b ≤ n) : snF x tp H n = snF x tp H b := by
  induction n with
  | zero => rw [Nat.le_zero.mp hbn]
  | succ j ih =>
    rcases Nat.lt_or_ge b (j + 1) with q | q
    · have := tpF_mono h (show b ≤ j by omega)
      simp only [snF]
      rw [ih (by omega), if_neg (by omega)]
      omega
    · rw [Nat.le_antisymm hbn q]
theorem xr_re {T : TT} {M : MB} {nL : Nat} {lv lv' : List (Nat × Value)} {ws ws' : va_W} {ce sl pc : Nat} {st st' : List Value} (h1 : lv = lv') (h2 : ws = ws') (h3 : st = st') (k : VV T M nL lv' ws' ce sl pc st') : VV T M nL lv ws ce sl pc st := by
  subst h1 h2 h3
  exact k
theorem WW.an {X : WnS} (h : WW X) : 0 ≤ pA X ∧ pA X ≤ gN (pX X) := by
  obtain ⟨⟨h1, h2, h3, h4, h5⟩, h6⟩ := h
  by_cases q : gN (pX X) = 0
  · have := h3 q; omega
  · have := h4 (by have := h1.1; omega); omega
