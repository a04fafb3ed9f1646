/-! ===== PURE: the program's tokens, as the class reads them ===== -/
def incI (q : Int) : Int := q + 1
def spC (tx : Nat → Int) (L : Int) (q : Int) : Bool := decide (q < L ∧ sgF tx L q = 32)
def lrC (tx : Nat → Int) (L : Int) (q : Int) : Bool := decide (q < L ∧ 97 ≤ sgF tx L q ∧ sgF tx L q ≤ 122)
def drC (tx : Nat → Int) (L : Int) (q : Int) : Bool := decide (q < L ∧ 48 ≤ sgF tx L q ∧ sgF tx L q ≤ 57)
def skF (tx : Nat → Int) (L e : Int) : Int := itL (spC tx L) incI (L - e).toNat e
def teF (tx : Nat → Int) (L s : Int) : Int :=
  if 97 ≤ sgF tx L s ∧ sgF tx L s ≤ 122 then itL (lrC tx L) incI (L - min (s + 1) L).toNat (min (s + 1) L)
  else if 48 ≤ sgF tx L s ∧ sgF tx L s ≤ 57 then itL (drC tx L) incI (L - min (s + 1) L).toNat (min (s + 1) L) else min (s + 1) L
theorem run_b {c : Int → Bool} {L : Int} (hc : ∀ q, c q = true → q < L) (f : Nat) (q : Int) (hq : q ≤ L) : q ≤ itL c incI f q ∧ itL c incI f q ≤ L := by
  induction f generalizing q with
  | zero => exact ⟨Int.le_refl _, hq⟩
  | succ f ih =>
    unfold itL
    split
    · rename_i h
      have h1 := hc q h
      have h2 := ih (incI q) (by unfold incI; omega)
      unfold incI at h2 ⊢
      omega
    · exact ⟨Int.le_refl _, hq⟩
theorem skF_b {tx : Nat → Int} {L e : Int} (h : e ≤ L) : e ≤ skF tx L e ∧ skF tx L e ≤ L := run_b (fun q hq => (of_decide_eq_true hq).1) _ _ h
theorem teF_b {tx : Nat → Int} {L s : Int} (h : s ≤ L) : min (s + 1) L ≤ teF tx L s ∧ teF tx L s ≤ L := by
  unfold teF
  split
  · exact run_b (fun q hq => (of_decide_eq_true hq).1) _ _ (by omega)
  · split
    · exact run_b (fun q hq => (of_decide_eq_true hq).1) _ _ (by omega)
    · omega
/-- the number that a token is; -1 if none -/
def nvF (tx : Nat → Int) (L : Int) : Nat → Int → Int → Int
  | 0, _, acc => acc
  | f + 1, i, acc => if 48 ≤ sgF tx L i ∧ sgF tx L i ≤ 57 then nvF tx L f (i + 1) (10 * acc + sgF tx L i - 48) else -1
def nuF (tx : Nat → Int) (L s e : Int) : Int := if e - s < 1 ∨ 4 < e - s ∨ (1 < e - s ∧ sgF tx L s = 48) then -1 else nvF tx L (e - s).toNat s 0
theorem nvF_b (tx : Nat → Int) (L : Int) (f : Nat) (i acc B : Int) (h : 0 ≤ acc ∧ acc < B) : -1 ≤ nvF tx L f i acc ∧ nvF tx L f i acc < B * 10 ^ f := by
  induction f generalizing i acc B with
  | zero => unfold nvF; simp; omega
  | succ f ih =>
    unfold nvF
    split
    · have := ih (i + 1) (10 * acc + sgF tx L i - 48) (B * 10) (by omega)
      rw [Int.pow_succ, Int.mul_comm (10 ^ f) 10, ← Int.mul_assoc]
      exact this
    · have h1 : (0 : Int) < 10 ^ (f + 1) := Int.pow_pos (by omega)
      have h2 : 0 < B * 10 ^ (f + 1) := Int.mul_pos (by omega) h1
      omega
theorem nuF_b (tx : Nat → Int) (L s e : Int) : -1 ≤ nuF tx L s e ∧ nuF tx L s e ≤ 9999 := by
  unfold nuF
  split
  · omega
  · rename_i h
    have hd : (e - s).toNat = 1 ∨ (e - s).toNat = 2 ∨ (e - s).toNat = 3 ∨ (e - s).toNat = 4 := by omega
    have h1 := nvF_b tx L (e - s).toNat s 0 1 (by omega)
    rcases hd with h2 | h2 | h2 | h2 <;> rw [h2] at h1 ⊢ <;> simp at h1 <;> omega
abbrev tkP (tx : Nat → Int) (L s e : Int) (i : Nat) : Prop := e - s = (xlen.getD i 0 : Nat) ∧ ∀ j, j < xlen.getD i 0 → sgF tx L (s + (j : Int)) = xw i j
def cmF (tx : Nat → Int) (L s e : Int) : Int := if tkP tx L s e 0 then 0 else if tkP tx L s e 1 then 1 else if tkP tx L s e 2 then 2 else if tkP tx L s e 3 then 3 else if tkP tx L s e 4 then 4 else if tkP tx L s e 5 then 5 else -2
theorem cmF_b (tx : Nat → Int) (L s e : Int) : -2 ≤ cmF tx L s e ∧ cmF tx L s e ≤ 5 ∧ cmF tx L s e ≠ -1 := by
  unfold cmF
  repeat' split
  all_goals omega
theorem xlen_b : ∀ i, i < 6 → 2 ≤ xlen.getD i 0 ∧ xlen.getD i 0 ≤ 5 := by decide
/-- reading the numbers of a command: numbers, start, end, place, how many, the command -/
abbrev RQ : Type := (Nat → Int) × Int × Int × Int × Int × Int
def rcC (due : Int) (Q : RQ) : Bool := decide (Q.2.2.2.2.1 < due ∧ 0 ≤ Q.2.2.2.2.2)
def rcS (tx : Nat → Int) (L : Int) (Q : RQ) : RQ :=
  (va_up Q.1 Q.2.2.2.2.1.toNat (nuF tx L (skF tx L Q.2.2.1) (teF tx L (skF tx L Q.2.2.1))), skF tx L Q.2.2.1, teF tx L (skF tx L Q.2.2.1), (if nuF tx L (skF tx L Q.2.2.1) (teF tx L (skF tx L Q.2.2.1)) < 0 then skF tx L Q.2.2.1 else Q.2.2.2.1), Q.2.2.2.2.1 + 1, (if nuF tx L (skF tx L Q.2.2.1) (teF tx L (skF tx L Q.2.2.1)) < 0 then -2 else Q.2.2.2.2.2))
/-- behind the numbers: the sign -/
def rcE (tx : Nat → Int) (L : Int) (Q : RQ) : RQ :=
  if Q.2.2.2.2.2 < 0 then Q else (Q.1, skF tx L Q.2.2.1, teF tx L (skF tx L Q.2.2.1), (if sgF tx L (skF tx L Q.2.2.1) = 59 then Q.2.2.2.1 else skF tx L Q.2.2.1), Q.2.2.2.2.1, (if sgF tx L (skF tx L Q.2.2.1) = 59 then Q.2.2.2.2.2 else -2))
def rc0 (tx nm : Nat → Int) (L e : Int) : RQ := (nm, skF tx L e, teF tx L (skF tx L e), skF tx L e, 0, cmF tx L (skF tx L e) (teF tx L (skF tx L e)))
def rcF (tx nm : Nat → Int) (L e p : Int) : RQ :=
  if L ≤ skF tx L e then (nm, skF tx L e, teF tx L (skF tx L e), p, 0, -1)
  else rcE tx L (itL (rcC (if cmF tx L (skF tx L e) (teF tx L (skF tx L e)) = 0 then 3 else 1)) (rcS tx L) 3 (rc0 tx nm L e))
