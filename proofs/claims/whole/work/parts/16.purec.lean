/-! ===== PURE: the class ===== -/
def kpX (r : Int) (X Y : WnS) : WnS := if 0 ≤ r then Y else X
def kpZ (r sz : Int) : Int := if 0 ≤ r then min (sz + 1) 5 else sz
def kpN (r nx : Int) : Int := if 0 ≤ r then (nx + 1) % 5 else nx
def kpH (r : Int) (H : Nat → WnS) (nx : Int) (X : WnS) : Nat → WnS := if 0 ≤ r then upW H nx X else H
theorem puR_v {X : WnS} (h : WW X) (i kd ln : Int) : -100003 ≤ (puR X i kd ln).1 ∧ (puR X i kd ln).1 ≤ 200000 := by
  unfold puR
  split
  · dsimp only; omega
  · split
    · dsimp only; omega
    · have hP := WW_se (PW_pu h (i := i) (kd := kd) (ln := ln) (by omega) (by omega) (by omega) (by omega))
      have h1 := tpF_b hP.1.1.1 (gN (pX (seF (inF (pX X) i kd ln, pH X, (if 0 < gN (pX X) ∧ i ≤ pA X then pA X + 1 else pA X), pS X)))).toNat
      have h2 := hP.1.1.1.1
      dsimp only
      omega
theorem cuR_v {X : WnS} (h : WW X) (i : Int) : -100003 ≤ (cuR X i).1 ∧ (cuR X i).1 ≤ 200000 := by
  unfold cuR
  split
  · dsimp only; omega
  · have hP := WW_se (PW_cu h (i := i) (by omega)).1
    have h2 := hP.1.1.1.1
    dsimp only
    omega
theorem chR_v {X : WnS} (h : WW X) (i ln : Int) : -100003 ≤ (chR X i ln).1 ∧ (chR X i ln).1 ≤ 200000 := by
  unfold chR
  split
  · dsimp only; omega
  · have h2 := (h.1.1.2.2.1 i.toNat).2.1
    dsimp only
    omega
theorem shR_v {X : WnS} (h : WW X) (v : Int) : -100003 ≤ (shR X v).1 ∧ (shR X v).1 ≤ 200000 := by
  unfold shR
  split
  · dsimp only; omega
  · have h2 := h.1.2.1
    dsimp only
    omega
theorem swR_v {X : WnS} (h : WW X) (v : Int) : -100003 ≤ (swR X v).1 ∧ (swR X v).1 ≤ 200000 := by
  unfold swR
  split
  · dsimp only; omega
  · have h2 := h.1.1.2.1
    dsimp only
    omega
theorem mbR_v {X : WnS} (h : WW X) (d : Int) : -100003 ≤ (mbR X d).1 ∧ (mbR X d).1 ≤ 200000 := by
  unfold mbR
  split
  · dsimp only; omega
  · split
    · dsimp only; omega
    · rename_i hn
      have hP := (WW_se (PW_mb h (d := d) (by omega) hn).1).1
      have h2 := hP.an
      have h3 := hP.1.1.1
      dsimp only
      omega
theorem msR_v {X : WnS} (h : WW X) (d : Int) : -100003 ≤ (msR X d).1 ∧ (msR X d).1 ≤ 200000 := by
  unfold msR
  split
  · dsimp only; omega
  · split
    · dsimp only; omega
    · rename_i hn
      have hP := (WW_se (PW_ms h (s := d) (by omega) hn)).1
      have h2 := hP.an
      have h3 := hP.1.1.1
      dsimp only
      omega
theorem mlR_v {X : WnS} (h : WW X) (i : Int) : -100003 ≤ (mlR X i).1 ∧ (mlR X i).1 ≤ 200000 := by
  unfold mlR
  split
  · dsimp only; omega
  · have hP := (WW_se (PW_ml h (i := i) (by omega))).1
    have h2 := hP.an
    have h3 := hP.1.1.1
    dsimp only
    omega
/-- one command of a program -/
def pfR (X : WnS) (nm : Nat → Int) (c : Int) : Int × WnS :=
  if c = 0 then puR X (nm 0) (nm 1) (nm 2) else if c = 1 then cuR X (nm 0) else if c = 2 then mbR X (nm 0) else if c = 3 then mbR X (-(nm 0)) else if c = 4 then msR X (nm 0) else if c = 5 then mlR X (nm 0) else (-100001, X)
theorem pfR_v {X : WnS} (h : WW X) (nm : Nat → Int) (c : Int) : -100003 ≤ (pfR X nm c).1 ∧ (pfR X nm c).1 ≤ 200000 := by
  unfold pfR
  split
  · exact puR_v h _ _ _
  · split
    · exact cuR_v h _
    · split
      · exact mbR_v h _
      · split
        · exact mbR_v h _
        · split
          · exact msR_v h _
          · split
            · exact mlR_v h _
            · dsimp only; omega
theorem WW_pf {X : WnS} (h : WW X) (nm : Nat → Int) (c : Int) : WW (pfR X nm c).2 := by
  unfold pfR
  split
  · exact WW_pu h _ _ _
  · split
    · exact WW_cu h _
    · split
      · exact WW_mb h _
      · split
        · exact WW_mb h _
        · split
          · exact WW_ms h _
          · split
            · exact WW_ml h _
            · exact h
/-- the program's run: the answer, the draft, numbers, start, end, place -/
def ruL (tx : Nat → Int) (L : Int) : Nat → WnS → (Nat → Int) → Int → Int → Int → Int → Int → Int × WnS × (Nat → Int) × Int × Int × Int
  | 0, X, nm, s, e, p, _, _ => (-1, X, nm, s, e, p)
  | f + 1, X, nm, s, e, p, i, c =>
    if 0 ≤ c ∧ i < 100 then
      (if (pfR X nm c).1 < 0 then (-1000 - p, (pfR X nm c).2, nm, s, e, p)
       else ruL tx L f (pfR X nm c).2 (rcF tx nm L e p).1 (rcF tx nm L e p).2.1 (rcF tx nm L e p).2.2.1 (rcF tx nm L e p).2.2.2.1 (i + 1) (rcF tx nm L e p).2.2.2.2.2)
    else if c = -2 then (-1000 - p, X, nm, s, e, p) else (i, X, nm, s, e, p)
def NMI (nm : Nat → Int) : Prop := ∀ j, -1 ≤ nm j ∧ nm j ≤ 9999
theorem rcS_N {tx : Nat → Int} {L : Int} (Q : RQ) (h : NMI Q.1) : NMI (rcS tx L Q).1 := fun j => up_any (fun z => -1 ≤ z ∧ z ≤ 9999) (fun k => h k) (nuF_b _ _ _ _)
theorem rcE_1 {tx : Nat → Int} {L : Int} (Q : RQ) : (rcE tx L Q).1 = Q.1 := by
  unfold rcE
  split <;> rfl
theorem rcF_N {tx nm : Nat → Int} {L e p : Int} (h : NMI nm) : NMI (rcF tx nm L e p).1 := by
  unfold rcF
  split
  · exact h
  · have h1 := itL_inv (fun Q : RQ => NMI Q.1) (c := rcC (if cmF tx L (skF tx L e) (teF tx L (skF tx L e)) = 0 then 3 else 1)) (s := rcS tx L) (fun Q hQ _ => rcS_N Q hQ) 3 (rc0 tx nm L e) h
    rw [rcE_1]
    exact h1
theorem rcE_I {tx : Nat → Int} {L : Int} (ht : TXI tx L) (Q : RQ) (hI : (0 ≤ Q.2.2.1 ∧ Q.2.2.1 ≤ L) ∧ -2 ≤ Q.2.2.2.2.2 ∧ Q.2.2.2.2.2 ≤ 5) : (0 ≤ (rcE tx L Q).2.2.1 ∧ (rcE tx L Q).2.2.1 ≤ L) ∧ -2 ≤ (rcE tx L Q).2.2.2.2.2 ∧ (rcE tx L Q).2.2.2.2.2 ≤ 5 := by
  have h1 := skF_b (tx := tx) hI.1.2
  have h2 := teF_b (tx := tx) h1.2
  have hL := ht.1
  unfold rcE
  split
  · exact hI
  · dsimp only
    refine ⟨by omega, ?_⟩
    split <;> omega
theorem rcF_I {tx nm : Nat → Int} {L e p : Int} (ht : TXI tx L) (he : 0 ≤ e ∧ e ≤ L) : (0 ≤ (rcF tx nm L e p).2.2.1 ∧ (rcF tx nm L e p).2.2.1 ≤ L) ∧ -2 ≤ (rcF tx nm L e p).2.2.2.2.2 ∧ (rcF tx nm L e p).2.2.2.2.2 ≤ 5 := by
  have h1 := skF_b (tx := tx) he.2
  have h2 := teF_b (tx := tx) h1.2
  have h3 := cmF_b tx L (skF tx L e) (teF tx L (skF tx L e))
  have hL := ht.1
  unfold rcF
  split
  · dsimp only
    omega
  · have h4 := rcL_I (due := if cmF tx L (skF tx L e) (teF tx L (skF tx L e)) = 0 then 3 else 1) ht (by split <;> omega) 3 (rc0 tx nm L e) (by unfold rc0; dsimp only; omega)
    exact rcE_I ht _ ⟨by omega, h4.2.2⟩
-- looking
def coF (X : WnS) (sz L what : Int) : Int :=
  if what = 0 then gN (pX X) else if what = 1 then gC (pX X) 0 + gC (pX X) 1 + gC (pX X) 2 else if what = 2 then (if gN (pX X) = 0 then -100009 else pA X) else if what = 3 then (if gN (pX X) = 0 then -100009 else pS X) else if what = 4 then tpF (pX X) (gN (pX X)).toNat else if what = 5 then tpF (pX X) (pA X).toNat + pS X else if what = 6 then pH X else if what = 7 then gW (pX X) else if what = 8 then gsF (pX X) 0 else if what = 9 then gsF (pX X) 1 else if what = 10 then gsF (pX X) 2 else if what = 11 then snF (pX X) (tpF (pX X) (pA X).toNat + pS X) (pH X) (gN (pX X)).toNat else if what = 12 then sz else if what = 13 then L else -100001
def liF (X : WnS) (i what : Int) : Int :=
  if ¬ (0 ≤ i ∧ i < gN (pX X)) then -100001 else if what = 0 then gK (pX X) i.toNat else if what = 1 then gL (pX X) i.toNat else if what = 2 then htF (pX X) i.toNat else if what = 3 then gM (pX X) i.toNat else if what = 4 then tpF (pX X) i.toNat else if what = 5 then tH (gW (pX X)) (gK (pX X) i.toNat) (gL (pX X) i.toNat) else if what = 6 then tpF (pX X) i.toNat - (tpF (pX X) (pA X).toNat + pS X) else -100001
def seenF (X : WnS) (y : Int) : Int := if y < 0 ∨ pH X - 1 < y then -100001 else laF (pX X) (tpF (pX X) (pA X).toNat + pS X + y) (gN (pX X)).toNat 0
def atF (X : WnS) (y : Int) : Int := if y < 0 then -100001 else laF (pX X) y (gN (pX X)).toNat 0
def shaF (X : WnS) : Int := if tpF (pX X) (gN (pX X)).toNat - pH X ≤ 0 then 0 else (tpF (pX X) (pA X).toNat + pS X) * 1000 / (tpF (pX X) (gN (pX X)).toNat - pH X)
def tsS (x : LnS) (i : Nat) : Nat → Int
  | 0 => 0
  | k + 1 => tsS x i k + tH (gW x) (gK x (i + k)) (gL x (i + k))
def tsF (X : WnS) (i j : Int) : Int := if ¬ ((0 ≤ i ∧ i < gN (pX X)) ∧ (0 ≤ j ∧ j < gN (pX X)) ∧ i ≤ j) then -100001 else tsS (pX X) i.toNat (j - i + 1).toNat
abbrev shP (X : WnS) (i : Int) : Prop := pA X ≤ i ∧ tpF (pX X) i.toNat - (tpF (pX X) (pA X).toNat + pS X) < pH X ∧ 0 < tpF (pX X) i.toNat - (tpF (pX X) (pA X).toNat + pS X) + htF (pX X) i.toNat
def scL (i d : Int) : Nat → Int → WnS → Int × WnS
  | 0, _, Y => (-100009, Y)
  | f + 1, n, Y => if shP Y i then (n, Y) else scL i d f (n + 1) (mbR Y d).2
def scP (X : WnS) (i d : Int) : Prop := (0 ≤ i ∧ i < gN (pX X)) ∧ d ≠ 0 ∧ -9999 ≤ d ∧ d ≤ 9999
theorem mbR_N {X : WnS} (h : WW X) (d : Int) : gN (pX (mbR X d).2) = gN (pX X) := by
  unfold mbR
  split
  · rfl
  · split
    · rfl
    · rename_i hn
      have h1 := PW_mb h (d := d) (by omega) hn
      exact (WW_se h1.1).2.trans h1.2
theorem msR_N {X : WnS} (h : WW X) (d : Int) : gN (pX (msR X d).2) = gN (pX X) := by
  unfold msR
  split
  · rfl
  · split
    · rfl
    · rename_i hn
      exact (WW_se (PW_ms h (s := d) (by omega) hn)).2
theorem tsS_b {x : LnS} (h : WFL x) (i k : Nat) : 0 ≤ tsS x i k ∧ tsS x i k ≤ 1450 * k := by
  induction k with
  | zero => simp [tsS]
  | succ k ih =>
    have h1 : 6 ≤ tH (gW x) (gK x (i + k)) (gL x (i + k)) ∧ tH (gW x) (gK x (i + k)) (gL x (i + k)) ≤ 1450 := tH_b ⟨(h.2.2.1 (i + k)).2.1, h.2.1⟩
    simp only [tsS]
    omega
theorem laF_v {x : LnS} (h : WFL x) (y : Int) : -100009 ≤ laF x y (gN x).toNat 0 ∧ laF x y (gN x).toNat 0 ≤ 100 := by
  have h1 := h.1
  rcases laF_r (x := x) y (gN x).toNat 0 with q | ⟨j, a1, a2, a3⟩ <;> omega
abbrev scQ (X : WnS) (i d : Int) : Prop := (0 ≤ i ∧ i < gN (pX X)) ∧ d ≠ 0 ∧ -9999 ≤ d ∧ d ≤ 9999
def scR (X Y : WnS) (i d : Int) : Int × WnS := if ¬ scQ X i d then (-100001, Y) else scL i d 101 0 X
def ruR (X : WnS) (tx nm : Nat → Int) (L : Int) : Int × WnS × (Nat → Int) × Int × Int × Int :=
  ruL tx L 101 X (rcF tx nm L 0 0).1 (rcF tx nm L 0 0).2.1 (rcF tx nm L 0 0).2.2.1 (rcF tx nm L 0 0).2.2.2.1 0 (rcF tx nm L 0 0).2.2.2.2.2
theorem rcS_P {tx : Nat → Int} {L : Int} (ht : TXI tx L) (Q : RQ) (hI : (0 ≤ Q.2.2.1 ∧ Q.2.2.1 ≤ L) ∧ 0 ≤ Q.2.2.2.1 ∧ Q.2.2.2.1 ≤ 100) : (0 ≤ (rcS tx L Q).2.2.1 ∧ (rcS tx L Q).2.2.1 ≤ L) ∧ 0 ≤ (rcS tx L Q).2.2.2.1 ∧ (rcS tx L Q).2.2.2.1 ≤ 100 := by
  have h1 := skF_b (tx := tx) hI.1.2
  have h2 := teF_b (tx := tx) h1.2
  have hL := ht.1
  unfold rcS
  dsimp only
  refine ⟨by omega, ?_⟩
  split <;> omega
theorem rcF_P {tx nm : Nat → Int} {L e p : Int} (ht : TXI tx L) (he : 0 ≤ e ∧ e ≤ L) (hp : 0 ≤ p ∧ p ≤ 100) : 0 ≤ (rcF tx nm L e p).2.2.2.1 ∧ (rcF tx nm L e p).2.2.2.1 ≤ 100 := by
  have h1 := skF_b (tx := tx) he.2
  have h2 := teF_b (tx := tx) h1.2
  have hL := ht.1
  unfold rcF
  split
  · exact hp
  · have h4 := itL_inv (fun Q : RQ => (0 ≤ Q.2.2.1 ∧ Q.2.2.1 ≤ L) ∧ 0 ≤ Q.2.2.2.1 ∧ Q.2.2.2.1 ≤ 100) (c := rcC (if cmF tx L (skF tx L e) (teF tx L (skF tx L e)) = 0 then 3 else 1)) (s := rcS tx L) (fun Q hQ _ => rcS_P ht Q hQ) 3 (rc0 tx nm L e) (by unfold rc0; dsimp only; omega)
    generalize itL (rcC (if cmF tx L (skF tx L e) (teF tx L (skF tx L e)) = 0 then 3 else 1)) (rcS tx L) 3 (rc0 tx nm L e) = Q at h4
    have h5 := skF_b (tx := tx) h4.1.2
    unfold rcE
    split
    · exact h4.2
    · dsimp only
      split <;> omega
