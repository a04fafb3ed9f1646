/-! ===== PURE: what a read command says, for the reference's run ===== -/
theorem rcF_z {tx nm : Nat → Int} {L e p : Int} (he : 0 ≤ e ∧ e ≤ L) (hl : skF tx L e < L) : e + 1 ≤ (rcF tx nm L e p).2.2.1 ∧ (rcF tx nm L e p).2.2.2.2.2 ≠ -1 ∧ (0 ≤ (rcF tx nm L e p).2.2.2.2.2 → (rcF tx nm L e p).2.2.2.1 = skF tx L e) := by
  have h1 := skF_b (tx := tx) he.2
  have h2 := teF_b (tx := tx) h1.2
  have h3 := cmF_b tx L (skF tx L e) (teF tx L (skF tx L e))
  unfold rcF
  rw [if_neg (by omega)]
  have h4 := itL_inv (fun Q : RQ => (e + 1 ≤ Q.2.2.1 ∧ Q.2.2.1 ≤ L) ∧ Q.2.2.2.2.2 ≠ -1 ∧ (0 ≤ Q.2.2.2.2.2 → Q.2.2.2.1 = skF tx L e)) (c := rcC (if cmF tx L (skF tx L e) (teF tx L (skF tx L e)) = 0 then 3 else 1)) (s := rcS tx L) (fun Q hQ hc => by
    have hc2 := of_decide_eq_true hc
    have a1 := skF_b (tx := tx) hQ.1.2
    have a2 := teF_b (tx := tx) a1.2
    refine ⟨?_, ?_, ?_⟩
    · show e + 1 ≤ teF tx L (skF tx L Q.2.2.1) ∧ teF tx L (skF tx L Q.2.2.1) ≤ L
      omega
    · show (if nuF tx L (skF tx L Q.2.2.1) (teF tx L (skF tx L Q.2.2.1)) < 0 then (-2 : Int) else Q.2.2.2.2.2) ≠ -1
      split
      · decide
      · exact hQ.2.1
    · intro z
      have z : 0 ≤ (if nuF tx L (skF tx L Q.2.2.1) (teF tx L (skF tx L Q.2.2.1)) < 0 then (-2 : Int) else Q.2.2.2.2.2) := z
      show (if nuF tx L (skF tx L Q.2.2.1) (teF tx L (skF tx L Q.2.2.1)) < 0 then _ else Q.2.2.2.1) = _
      by_cases hn : nuF tx L (skF tx L Q.2.2.1) (teF tx L (skF tx L Q.2.2.1)) < 0
      · rw [if_pos hn] at z
        omega
      · rw [if_neg hn] at z ⊢
        exact hQ.2.2 z) 3 (rc0 tx nm L e) (by
    refine ⟨?_, h3.2.2, fun _ => rfl⟩
    show e + 1 ≤ teF tx L (skF tx L e) ∧ teF tx L (skF tx L e) ≤ L
    omega)
  generalize itL (rcC (if cmF tx L (skF tx L e) (teF tx L (skF tx L e)) = 0 then 3 else 1)) (rcS tx L) 3 (rc0 tx nm L e) = Q at h4 ⊢
  have a1 := skF_b (tx := tx) h4.1.2
  have a2 := teF_b (tx := tx) a1.2
  unfold rcE
  by_cases hn : Q.2.2.2.2.2 < 0
  · rw [if_pos hn]
    exact ⟨h4.1.1, h4.2.1, h4.2.2⟩
  · rw [if_neg hn]
    refine ⟨by show e + 1 ≤ teF tx L (skF tx L Q.2.2.1); omega, ?_, ?_⟩
    · show (if sgF tx L (skF tx L Q.2.2.1) = 59 then Q.2.2.2.2.2 else (-2 : Int)) ≠ -1
      split
      · exact h4.2.1
      · decide
    · intro z
      have z : 0 ≤ (if sgF tx L (skF tx L Q.2.2.1) = 59 then Q.2.2.2.2.2 else (-2 : Int)) := z
      show (if sgF tx L (skF tx L Q.2.2.1) = 59 then Q.2.2.2.1 else _) = _
      by_cases hs : sgF tx L (skF tx L Q.2.2.1) = 59
      · rw [if_pos hs] at z ⊢
        exact h4.2.2 z
      · rw [if_neg hs] at z
        omega
theorem frR_1 {X : WnS} {s0 : Int} {E : RQ} (h : frR X s0 E = -1) (hs : 0 ≤ s0) (hp : 0 ≤ E.2.2.2.1) : 0 ≤ E.2.2.2.2.2 ∧ ¬ (pfR X E.1 E.2.2.2.2.2).1 < 0 := by
  unfold frR at h
  split at h
  · omega
  · split at h
    · omega
    · exact ⟨by omega, by assumption⟩
theorem frR_2 {X : WnS} {s0 : Int} {E : RQ} (h : 0 ≤ frR X s0 E) : (E.2.2.2.2.2 < 0 ∧ frR X s0 E = E.2.2.2.1) ∨ (0 ≤ E.2.2.2.2.2 ∧ (pfR X E.1 E.2.2.2.2.2).1 < 0 ∧ frR X s0 E = s0) := by
  unfold frR at h ⊢
  split
  · rename_i q
    exact Or.inl ⟨q, rfl⟩
  · rename_i q
    rw [if_neg q] at h
    split
    · rename_i q2
      exact Or.inr ⟨by omega, q2, rfl⟩
    · rename_i q2
      rw [if_neg q2] at h
      omega
