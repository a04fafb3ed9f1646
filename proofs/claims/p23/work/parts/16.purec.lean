/-! ===== PURE: the class ===== -/
def kpX (r : Int) (X Y : WnS) : WnS := if 0 ≤ r then Y else X
def kpZ (r sz : Int) : Int := if 0 ≤ r then min (sz + 1) 5 else sz
def kpN (r nx : Int) : Int := if 0 ≤ r then (nx + 1) % 5 else nx
def kpH (r : Int) (H : Nat → WnS) (nx : Int) (X : WnS) : Nat → WnS := if 0 ≤ r then upW H nx X else H
theorem puR_v {X : WnS} (h : WW X) (i kd ln : Int) : -100003 ≤ (puR X i kd ln).1 ∧ (puR X i kd ln).1 ≤ 200000 := by
  unfold puR
  split
  · dsimp only; omega
  · split
    · dsimp only; omega
    · have hP := WW_se (PW_pu h (i := i) (kd := kd) (ln := ln) (by omega) (by omega) (by omega) (by omega))
      have h1 := tpF_b hP.1.1.1 (gN (pX (seF (inF (pX X) i kd ln, pH X, (if 0 < gN (pX X) ∧ i ≤ pA X then pA X + 1 else pA X), pS X)))).toNat
      have h2 := hP.1.1.1.1
      dsimp only
      omega
theorem cuR_v {X : WnS} (h : WW X) (i : Int) : -100003 ≤ (cuR X i).1 ∧ (cuR X i).1 ≤ 200000 := by
  unfold cuR
  split
  · dsimp only; omega
  · have hP := WW_se (PW_cu h (i := i) (by omega)).1
    have h2 := hP.1.1.1.1
    dsimp only
    omega
theorem chR_v {X : WnS} (h : WW X) (i ln : Int) : -100003 ≤ (chR X i ln).1 ∧ (chR X i ln).1 ≤ 200000 := by
  unfold chR
  split
  · dsimp only; omega
  · have h2 := (h.1.1.2.2.1 i.toNat).2.1
    dsimp only
    omega
theorem shR_v {X : WnS} (h : WW X) (v : Int) : -100003 ≤ (shR X v).1 ∧ (shR X v).1 ≤ 200000 := by
  unfold shR
  split
  · dsimp only; omega
  · have h2 := h.1.2.1
    dsimp only
    omega
theorem swR_v {X : WnS} (h : WW X) (v : Int) : -100003 ≤ (swR X v).1 ∧ (swR X v).1 ≤ 200000 := by
  unfold swR
  split
  · dsimp only; omega
  · have h2 := h.1.1.2.1
    dsimp only
    omega
theorem mbR_v {X : WnS} (h : WW X) (d : Int) : -100003 ≤ (mbR X d).1 ∧ (mbR X d).1 ≤ 200000 := by
  unfold mbR
  split
  · dsimp only; omega
  · split
    · dsimp only; omega
    · rename_i hn
      have hP := (WW_se (PW_mb h (d := d) (by omega) hn).1).1
      have h2 := hP.an
      have h3 := hP.1.1.1
      dsimp only
      omega
theorem msR_v {X : WnS} (h : WW X) (d : Int) : -100003 ≤ (msR X d).1 ∧ (msR X d).1 ≤ 200000 := by
  unfold msR
  split
  · dsimp only; omega
  · split
    · dsimp only; omega
    · rename_i hn
      have hP := (WW_se (PW_ms h (s := d) (by omega) hn)).1
      have h2 := hP.an
      have h3 := hP.1.1.1
      dsimp only
      omega
theorem mlR_v {X : WnS} (h : WW X) (i : Int) : -100003 ≤ (mlR X i).1 ∧ (mlR X i).1 ≤ 200000 := by
  unfold mlR
  split
  · dsimp only; omega
  · have hP := (WW_se (PW_ml h (i := i) (by omega))).1
    have h2 := hP.an
    have h3 := hP.1.1.1
    dsimp only
    omega
-- looking
def coF (X : WnS) (sz L what : Int) : Int :=
  if what = 0 then gN (pX X) else if what = 1 then gC (pX X) 0 + gC (pX X) 1 + gC (pX X) 2 else if what = 2 then (if gN (pX X) = 0 then -100009 else pA X) else if what = 3 then (if gN (pX X) = 0 then -100009 else pS X) else if what = 4 then tpF (pX X) (gN (pX X)).toNat else if what = 5 then tpF (pX X) (pA X).toNat + pS X else if what = 6 then pH X else if what = 7 then gW (pX X) else if what = 8 then gsF (pX X) 0 else if what = 9 then gsF (pX X) 1 else if what = 10 then gsF (pX X) 2 else if what = 11 then snF (pX X) (tpF (pX X) (pA X).toNat + pS X) (pH X) (gN (pX X)).toNat else if what = 12 then sz else if what = 13 then L else -100001
def liF (X : WnS) (i what : Int) : Int :=
  if ¬ (0 ≤ i ∧ i < gN (pX X)) then -100001 else if what = 0 then gK (pX X) i.toNat else if what = 1 then gL (pX X) i.toNat else if what = 2 then htF (pX X) i.toNat else if what = 3 then gM (pX X) i.toNat else if what = 4 then tpF (pX X) i.toNat else if what = 5 then tH (gW (pX X)) (gK (pX X) i.toNat) (gL (pX X) i.toNat) else if what = 6 then tpF (pX X) i.toNat - (tpF (pX X) (pA X).toNat + pS X) else -100001
def seenF (X : WnS) (y : Int) : Int := if y < 0 ∨ pH X - 1 < y then -100001 else laF (pX X) (tpF (pX X) (pA X).toNat + pS X + y) (gN (pX X)).toNat 0
def atF (X : WnS) (y : Int) : Int := if y < 0 then -100001 else laF (pX X) y (gN (pX X)).toNat 0
def shaF (X : WnS) : Int := if tpF (pX X) (gN (pX X)).toNat - pH X ≤ 0 then 0 else (tpF (pX X) (pA X).toNat + pS X) * 1000 / (tpF (pX X) (gN (pX X)).toNat - pH X)
theorem mbR_N {X : WnS} (h : WW X) (d : Int) : gN (pX (mbR X d).2) = gN (pX X) := by
  unfold mbR
  split
  · rfl
  · split
    · rfl
    · rename_i hn
      have h1 := PW_mb h (d := d) (by omega) hn
      exact (WW_se h1.1).2.trans h1.2
theorem msR_N {X : WnS} (h : WW X) (d : Int) : gN (pX (msR X d).2) = gN (pX X) := by
  unfold msR
  split
  · rfl
  · split
    · rfl
    · rename_i hn
      exact (WW_se (PW_ms h (s := d) (by omega) hn)).2
theorem laF_v {x : LnS} (h : WFL x) (y : Int) : -100009 ≤ laF x y (gN x).toNat 0 ∧ laF x y (gN x).toNat 0 ≤ 100 := by
  have h1 := h.1
  rcases laF_r (x := x) y (gN x).toNat 0 with q | ⟨j, a1, a2, a3⟩ <;> omega
