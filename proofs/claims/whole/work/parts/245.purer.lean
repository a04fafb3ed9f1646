/-! ===== PURE: the program's tokens, as the reference reads them ===== -/
def TE (te tx : Nat → Int) (L : Int) : Prop := ∀ j : Nat, (j : Int) < L → te j = tx j
def nxF (tx : Nat → Int) (L q : Int) : Int := if q < L then tx q.toNat else -1
theorem nxF_b {tx : Nat → Int} {L : Int} (h : TXI tx L) (q : Int) : -1 ≤ nxF tx L q ∧ nxF tx L q ≤ 255 := by
  have h1 := h.2 q.toNat
  unfold nxF
  split <;> omega
theorem nxF_s {tx : Nat → Int} {L q : Int} (h : 0 ≤ q) (hq : q < L) : sgF tx L q = nxF tx L q := by
  unfold nxF sgF
  rw [if_pos ⟨h, hq⟩, if_pos hq]
theorem nxF_sp {tx : Nat → Int} {L q : Int} (h : 0 ≤ q) : spC tx L q = true ↔ nxF tx L q = 32 := by
  constructor
  · intro z
    have z := of_decide_eq_true z
    rw [← nxF_s h z.1]
    exact z.2
  · intro z
    have hq : q < L := by
      apply Classical.byContradiction
      intro hh
      rw [nxF, if_neg hh] at z
      omega
    exact decide_eq_true ⟨hq, by rw [nxF_s h hq]; exact z⟩
theorem nxF_lr {tx : Nat → Int} {L q : Int} (h : 0 ≤ q) : lrC tx L q = true ↔ (97 ≤ nxF tx L q ∧ nxF tx L q ≤ 122) := by
  constructor
  · intro z
    have z := of_decide_eq_true z
    rw [← nxF_s h z.1]
    exact z.2
  · intro z
    have hq : q < L := by
      apply Classical.byContradiction
      intro hh
      rw [nxF, if_neg hh] at z
      omega
    exact decide_eq_true ⟨hq, by rw [nxF_s h hq]; exact z⟩
theorem nxF_dr {tx : Nat → Int} {L q : Int} (h : 0 ≤ q) : drC tx L q = true ↔ (48 ≤ nxF tx L q ∧ nxF tx L q ≤ 57) := by
  constructor
  · intro z
    have z := of_decide_eq_true z
    rw [← nxF_s h z.1]
    exact z.2
  · intro z
    have hq : q < L := by
      apply Classical.byContradiction
      intro hh
      rw [nxF, if_neg hh] at z
      omega
    exact decide_eq_true ⟨hq, by rw [nxF_s h hq]; exact z⟩
/-- the reference's runs: how far letters, digits reach from s -/
def lrR (tx : Nat → Int) (L s : Int) : Int := itL (lrC tx L) incI (L - s).toNat s
def drR (tx : Nat → Int) (L s : Int) : Int := itL (drC tx L) incI (L - s).toNat s
theorem lrR_b {tx : Nat → Int} {L s : Int} (h : s ≤ L) : s ≤ lrR tx L s ∧ lrR tx L s ≤ L := run_b (fun q hq => (of_decide_eq_true hq).1) _ _ h
theorem drR_b {tx : Nat → Int} {L s : Int} (h : s ≤ L) : s ≤ drR tx L s ∧ drR tx L s ≤ L := run_b (fun q hq => (of_decide_eq_true hq).1) _ _ h
/-- the value of k letters, 32 a letter; 0 from the sixth on -/
def wvF (tx : Nat → Int) (L s : Int) : Nat → Int
  | 0 => 0
  | k + 1 => if k < 5 then 32 * wvF tx L s k + nxF tx L (s + k) - 96 else 0
theorem wvF_b {tx : Nat → Int} {L s : Int} (k : Nat) (h : ∀ j : Nat, j < k → 97 ≤ nxF tx L (s + j) ∧ nxF tx L (s + j) ≤ 122) : 0 ≤ wvF tx L s k ∧ wvF tx L s k < 33554432 ∧ (k < 5 → wvF tx L s k < 1048576) := by
  have e : ∀ k : Nat, (∀ j : Nat, j < k → 97 ≤ nxF tx L (s + j) ∧ nxF tx L (s + j) ≤ 122) → 0 ≤ wvF tx L s k ∧ (k ≤ 5 → wvF tx L s k < 32 ^ k) ∧ (5 < k → wvF tx L s k = 0) := by
    intro k
    induction k with
    | zero => intro _; simp [wvF]
    | succ j ih =>
      intro hj
      have h1 := ih (fun i hi => hj i (by omega))
      have h2 := hj j (by omega)
      unfold wvF
      by_cases q : j < 5
      · rw [if_pos q]
        have h3 := h1.2.1 (by omega)
        have h4 : (32 : Int) ^ (j + 1) = 32 * 32 ^ j := by rw [Int.pow_succ, Int.mul_comm]
        omega
      · rw [if_neg q]
        exact ⟨Int.le_refl _, fun z => by omega, fun _ => rfl⟩
  have h1 := e k h
  by_cases q : k ≤ 5
  · have h2 := h1.2.1 q
    have h3 : k = 0 ∨ k = 1 ∨ k = 2 ∨ k = 3 ∨ k = 4 ∨ k = 5 := by omega
    rcases h3 with r | r | r | r | r | r <;> subst r <;> simp at h2 <;> omega
  · have h2 := h1.2.2 (by omega)
    omega
/-- the value of k digits; from the fifth on as it is -/
def dvF (tx : Nat → Int) (L s : Int) : Nat → Int
  | 0 => 0
  | k + 1 => if k < 4 then 10 * dvF tx L s k + nxF tx L (s + k) - 48 else dvF tx L s k
theorem dvF_b {tx : Nat → Int} {L s : Int} (k : Nat) (h : ∀ j : Nat, j < k → 48 ≤ nxF tx L (s + j) ∧ nxF tx L (s + j) ≤ 57) : 0 ≤ dvF tx L s k ∧ dvF tx L s k ≤ 9999 ∧ (k < 4 → dvF tx L s k ≤ 999) := by
  have e : ∀ k : Nat, (∀ j : Nat, j < k → 48 ≤ nxF tx L (s + j) ∧ nxF tx L (s + j) ≤ 57) → 0 ≤ dvF tx L s k ∧ (k ≤ 4 → dvF tx L s k < 10 ^ k) ∧ dvF tx L s k ≤ 9999 := by
    intro k
    induction k with
    | zero => intro _; simp [dvF]
    | succ j ih =>
      intro hj
      have h1 := ih (fun i hi => hj i (by omega))
      have h2 := hj j (by omega)
      unfold dvF
      by_cases q : j < 4
      · rw [if_pos q]
        have h3 := h1.2.1 (by omega)
        have h4 : (10 : Int) ^ (j + 1) = 10 * 10 ^ j := by rw [Int.pow_succ, Int.mul_comm]
        have h5 : j = 0 ∨ j = 1 ∨ j = 2 ∨ j = 3 := by omega
        generalize nxF tx L (s + (j : Int)) = z at h2 ⊢
        rcases h5 with r | r | r | r <;> subst r <;> simp at h3 ⊢ <;> omega
      · rw [if_neg q]
        exact ⟨h1.1, fun z => by omega, h1.2.2⟩
  have h1 := e k h
  refine ⟨h1.1, h1.2.2, fun q => ?_⟩
  have h2 := h1.2.1 (by omega)
  have h3 : k = 0 ∨ k = 1 ∨ k = 2 ∨ k = 3 := by omega
  rcases h3 with r | r | r | r <;> subst r <;> simp at h2 <;> omega
def wdF (tx : Nat → Int) (L s : Int) : Int := if lrR tx L s - s < 6 then wvF tx L s (lrR tx L s - s).toNat else 0
def ndF (tx : Nat → Int) (L s : Int) : Int := dvF tx L s (drR tx L s - s).toNat
def nwF (tx : Nat → Int) (L s : Int) : Int := if ¬ (1 ≤ drR tx L s - s ∧ drR tx L s - s ≤ 4) ∨ (1 < drR tx L s - s ∧ nxF tx L s = 48) then 1 else 0
theorem nwF_b (tx : Nat → Int) (L s : Int) : nwF tx L s = 0 ∨ nwF tx L s = 1 := by
  unfold nwF
  split <;> omega
/-- every place of a run is of its kind -/
theorem run_all {c : Int → Bool} (f : Nat) (q : Int) (j : Nat) (hj : q + (j : Int) < itL c incI f q) : c (q + (j : Int)) = true := by
  induction f generalizing q j with
  | zero => simp only [itL] at hj; omega
  | succ f ih =>
    unfold itL at hj
    split at hj
    · rename_i h
      by_cases e : j = 0
      · subst e
        simpa using h
      · have h2 := ih (incI q) (j - 1) (by unfold incI at hj ⊢; omega)
        unfold incI at h2
        rw [show q + 1 + ((j - 1 : Nat) : Int) = q + (j : Int) by omega] at h2
        exact h2
    · omega
theorem lrR_all {tx : Nat → Int} {L s : Int} (hs : 0 ≤ s) (j : Nat) (hj : j < (lrR tx L s - s).toNat) : 97 ≤ nxF tx L (s + j) ∧ nxF tx L (s + j) ≤ 122 := (nxF_lr (by omega)).mp (run_all (L - s).toNat s j (by unfold lrR at hj; omega))
theorem drR_all {tx : Nat → Int} {L s : Int} (hs : 0 ≤ s) (j : Nat) (hj : j < (drR tx L s - s).toNat) : 48 ≤ nxF tx L (s + j) ∧ nxF tx L (s + j) ≤ 57 := (nxF_dr (by omega)).mp (run_all (L - s).toNat s j (by unfold drR at hj; omega))
theorem wdF_b {tx : Nat → Int} {L s : Int} (hs : 0 ≤ s) : 0 ≤ wdF tx L s ∧ wdF tx L s < 33554432 := by
  have h1 := wvF_b (tx := tx) (L := L) (s := s) (lrR tx L s - s).toNat (fun j hj => lrR_all hs j hj)
  unfold wdF
  split <;> omega
theorem ndF_b {tx : Nat → Int} {L s : Int} (hs : 0 ≤ s) : 0 ≤ ndF tx L s ∧ ndF tx L s ≤ 9999 := by
  have h1 := dvF_b (tx := tx) (L := L) (s := s) (drR tx L s - s).toNat (fun j hj => drR_all hs j hj)
  unfold ndF
  omega
