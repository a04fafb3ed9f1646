/-! ===== PURE: a command of the reference ===== -/
def dwF (X : WnS) (nb : Nat → Int) (v : Int) : Int × WnS :=
  if v = 17076 then puR X (nb 0) (nb 1) (nb 2) else if v = 3764 then cuR X (nb 0) else if v = 147182 then mbR X (nb 0) else if v = 688 then mbR X (-(nb 0)) else if v = 20186693 then msR X (nb 0) else mlR X (nb 0)
theorem dwF_w {X : WnS} (h : WW X) (nb : Nat → Int) (v : Int) : (-100003 ≤ (dwF X nb v).1 ∧ (dwF X nb v).1 ≤ -100001) ∨ (0 ≤ (dwF X nb v).1 ∧ (dwF X nb v).1 < 1000000) := by
  unfold dwF
  repeat' split
  · exact puR_w h _ _ _
  · exact cuR_w h _
  · exact mbR_w h _
  · exact mbR_w h _
  · exact msR_w h _
  · exact mlR_w h _
theorem WW_dw {X : WnS} (h : WW X) (nb : Nat → Int) (v : Int) : WW (dwF X nb v).2 := by
  unfold dwF
  repeat' split
  · exact WW_pu h _ _ _
  · exact WW_cu h _
  · exact WW_mb h _
  · exact WW_mb h _
  · exact WW_ms h _
  · exact WW_ml h _
/-- the word of a command, by its number -/
def cwF (c : Int) : Int := if c = 0 then 17076 else if c = 1 then 3764 else if c = 2 then 147182 else if c = 3 then 688 else if c = 4 then 20186693 else if c = 5 then 655 else 0
theorem cm_w {tx : Nat → Int} {L s : Int} (hs : 0 ≤ s ∧ s ≤ L) : (cmF tx L s (teF tx L s) = -2 ∧ wdF tx L s ≠ 17076 ∧ wdF tx L s ≠ 3764 ∧ wdF tx L s ≠ 147182 ∧ wdF tx L s ≠ 688 ∧ wdF tx L s ≠ 20186693 ∧ wdF tx L s ≠ 655) ∨ ((0 ≤ cmF tx L s (teF tx L s) ∧ cmF tx L s (teF tx L s) ≤ 5) ∧ wdF tx L s = cwF (cmF tx L s (teF tx L s)) ∧ teF tx L s = lrR tx L s) := by
  have h0 := cw_0 (tx := tx) hs
  have h1 := cw_1 (tx := tx) hs
  have h2 := cw_2 (tx := tx) hs
  have h3 := cw_3 (tx := tx) hs
  have h4 := cw_4 (tx := tx) hs
  have h5 := cw_5 (tx := tx) hs
  have ht : ∀ c : Int, 0 < c → wdF tx L s = c → teF tx L s = lrR tx L s := fun c hc h => by
    obtain ⟨m, _, _, _, q, _⟩ := wd_n hs c hc h
    exact q
  unfold cmF
  by_cases q0 : tkP tx L s (teF tx L s) 0
  · rw [if_pos q0]; exact Or.inr ⟨by omega, h0.mp q0, ht _ (by decide) (h0.mp q0)⟩
  · rw [if_neg q0]
    by_cases q1 : tkP tx L s (teF tx L s) 1
    · rw [if_pos q1]; exact Or.inr ⟨by omega, h1.mp q1, ht _ (by decide) (h1.mp q1)⟩
    · rw [if_neg q1]
      by_cases q2 : tkP tx L s (teF tx L s) 2
      · rw [if_pos q2]; exact Or.inr ⟨by omega, h2.mp q2, ht _ (by decide) (h2.mp q2)⟩
      · rw [if_neg q2]
        by_cases q3 : tkP tx L s (teF tx L s) 3
        · rw [if_pos q3]; exact Or.inr ⟨by omega, h3.mp q3, ht _ (by decide) (h3.mp q3)⟩
        · rw [if_neg q3]
          by_cases q4 : tkP tx L s (teF tx L s) 4
          · rw [if_pos q4]; exact Or.inr ⟨by omega, h4.mp q4, ht _ (by decide) (h4.mp q4)⟩
          · rw [if_neg q4]
            by_cases q5 : tkP tx L s (teF tx L s) 5
            · rw [if_pos q5]; exact Or.inr ⟨by omega, h5.mp q5, ht _ (by decide) (h5.mp q5)⟩
            · rw [if_neg q5]
              exact Or.inl ⟨rfl, fun z => q0 (h0.mpr z), fun z => q1 (h1.mpr z), fun z => q2 (h2.mpr z), fun z => q3 (h3.mpr z), fun z => q4 (h4.mpr z), fun z => q5 (h5.mpr z)⟩
theorem dw_pf (X : WnS) {nb nm : Nat → Int} {c : Int} (hc : 0 ≤ c ∧ c ≤ 5) (hn : ∀ j : Nat, (j : Int) < (if c = 0 then 3 else 1) → nb j = nm j) : dwF X nb (cwF c) = pfR X nm c := by
  have h5 : c = 0 ∨ c = 1 ∨ c = 2 ∨ c = 3 ∨ c = 4 ∨ c = 5 := by omega
  have h0 := hn 0 (by split <;> decide)
  rcases h5 with rfl | rfl | rfl | rfl | rfl | rfl
  · have h1 := hn 1 (by decide)
    have h2 := hn 2 (by decide)
    show puR X (nb 0) (nb 1) (nb 2) = puR X (nm 0) (nm 1) (nm 2)
    rw [h0, h1, h2]
  · show cuR X (nb 0) = cuR X (nm 0)
    rw [h0]
  · show mbR X (nb 0) = mbR X (nm 0)
    rw [h0]
  · show mbR X (-(nb 0)) = mbR X (-(nm 0))
    rw [h0]
  · show msR X (nb 0) = msR X (nm 0)
    rw [h0]
  · show mlR X (nb 0) = mlR X (nm 0)
    rw [h0]
/-- the bounds of the numbers -/
abbrev NB3 (nb : Nat → Int) : Prop := ∀ j : Nat, j < 3 → 0 ≤ nb j ∧ nb j ≤ 9999
theorem NB3_up {nb : Nat → Int} (h : NB3 nb) {k : Nat} {v : Int} (hv : 0 ≤ v ∧ v ≤ 9999) : NB3 (va_up nb k v) := fun j hj => by
  unfold va_up
  split
  · exact hv
  · exact h j hj
theorem xl_def5 {a1 o1 a2 o2 a3 o3 a4 o4 a5 o5 d x : Int} (h1 : x ≠ a1) (h2 : x ≠ a2) (h3 : x ≠ a3) (h4 : x ≠ a4) (h5 : x ≠ a5) : Op.lookupswitch.offset [(a1, o1), (a2, o2), (a3, o3), (a4, o4), (a5, o5)] d x = d := by
  simp [Op.lookupswitch.offset, Ne.symm h1, Ne.symm h2, Ne.symm h3, Ne.symm h4, Ne.symm h5]
def frR (X : WnS) (s0 : Int) (E : RQ) : Int := if E.2.2.2.2.2 < 0 then E.2.2.2.1 else if (pfR X E.1 E.2.2.2.2.2).1 < 0 then s0 else -1
def frP (X : WnS) (s0 : Int) (E : RQ) (v : Nat → AR) : Prop := NB3 (v 7) ∧ (frR X s0 E = -1 → Rep (v 1) (pfR X E.1 E.2.2.2.2.2).2 ∧ v 8 0 = E.2.2.1)
theorem te_sc {tx : Nat → Int} {L s : Int} (hs : 0 ≤ s) (h : nxF tx L s = 59) : sgF tx L s = 59 ∧ teF tx L s = s + 1 := by
  have h1 := nx_sg (tx := tx) (L := L) hs (by omega)
  have h2 : s < L := by
    apply Classical.byContradiction
    intro q
    rw [nxF, if_neg q] at h
    omega
  refine ⟨h1.trans h, ?_⟩
  unfold teF
  rw [if_neg (by omega), if_neg (by omega)]
  omega
theorem sg_sc {tx : Nat → Int} {L s : Int} (hs : 0 ≤ s) (h : nxF tx L s ≠ 59) : sgF tx L s ≠ 59 := by
  intro q
  by_cases h2 : s < L
  · rw [nxF_s hs h2] at q
    exact h q
  · unfold sgF at q
    rw [if_neg (by omega)] at q
    omega
theorem nof_cw {c : Int} (h : 0 ≤ c ∧ c ≤ 5) : (if cwF c = 17076 then 3 else if cwF c = 3764 ∨ cwF c = 147182 ∨ cwF c = 688 ∨ cwF c = 20186693 ∨ cwF c = 655 then 1 else 0 : Int) = if c = 0 then 3 else 1 := by
  have h5 : c = 0 ∨ c = 1 ∨ c = 2 ∨ c = 3 ∨ c = 4 ∨ c = 5 := by omega
  rcases h5 with rfl | rfl | rfl | rfl | rfl | rfl <;> decide
theorem frR_b (X : WnS) {s0 : Int} {E : RQ} (h : 0 ≤ s0 ∧ s0 ≤ 100) (hE : 0 ≤ E.2.2.2.1 ∧ E.2.2.2.1 ≤ 100) : -1 ≤ frR X s0 E ∧ frR X s0 E ≤ 100 := by
  unfold frR
  repeat' split
  all_goals omega
theorem run_end {c : Int → Bool} {L : Int} (hc : ∀ q, c q = true → q < L) (f : Nat) (q : Int) (hf : (L - q).toNat ≤ f) : ¬ c (itL c incI f q) = true := by
  induction f generalizing q with
  | zero =>
    intro h
    have := hc _ h
    simp only [itL] at this
    omega
  | succ f ih =>
    unfold itL
    split
    · exact ih (incI q) (by unfold incI; omega)
    · rename_i h
      exact h
theorem skF_idem {tx : Nat → Int} {L e : Int} : skF tx L (skF tx L e) = skF tx L e :=
  (itL_f rfl (run_end (c := spC tx L) (L := L) (fun q hq => (of_decide_eq_true hq).1) (L - e).toNat e (Nat.le_refl _))).symm
theorem rcF_sk {tx nm : Nat → Int} {L e p : Int} : rcF tx nm L (skF tx L e) p = rcF tx nm L e p := by
  unfold rcF rc0
  rw [skF_idem]
