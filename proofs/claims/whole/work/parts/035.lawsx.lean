/-! ===== THE LAW: what holds at its start ===== -/
theorem lw_ar1 {args : Array Value} {s : State} (h : (Cond.arrayClass .int).before args s = true) : ∃ cA, ArrOfT s cA .int ∧ va_RA s cA .int := by
  obtain ⟨cA, kA, comp, h1, h2, h3⟩ := Cond.arrayClass_spec h
  exact ⟨cA, fun n z => ⟨fun k h => (by cases h), kA, h2, comp, h3⟩, h1⟩
theorem lw_ar2 {args : Array Value} {s : State} (h : (Cond.arrayClass .boolean).before args s = true) : ∃ cA, ArrOfT s cA .boolean ∧ va_RA s cA .boolean := by
  obtain ⟨cA, kA, comp, h1, h2, h3⟩ := Cond.arrayClass_spec h
  exact ⟨cA, fun n z => ⟨fun k h => (by cases h), kA, h2, comp, h3⟩, h1⟩
theorem lw_ar3 {args : Array Value} {s : State} (h : (Cond.arrayClass .char).before args s = true) : ∃ cA, ArrOfT s cA .char ∧ va_RA s cA .char := by
  obtain ⟨cA, kA, comp, h1, h2, h3⟩ := Cond.arrayClass_spec h
  exact ⟨cA, fun n z => ⟨fun k h => (by cases h), kA, h2, comp, h3⟩, h1⟩
theorem lw_ar4 {args : Array Value} {s : State} {C : String} (h : (Cond.arrayOver (.object C)).before args s = true) : ∃ cA, ArrOfT s cA (.object C) ∧ va_RA s cA (.object C) := by
  obtain ⟨comp, cA, kA, h1, h2, h3, h4, h5⟩ := Cond.arrayOver_spec h
  exact ⟨cA, fun n z => ⟨fun k h => (by cases h), kA, h3, comp, h4⟩, kA, comp, h3, h4, h1, h5⟩
theorem lw_K {b : Nat} {s : State} (hts : ∀ w ∈ lw_tbl, w.before #[Value.ref b] s = true) : ∃ (D : va_G) (c1 c2 c3 c4 : ClassId), va_K D xcl [(c1, .int), (c2, .boolean), (c3, .char), (c4, .object RX3)] s := by
  obtain ⟨k0, i0, h0⟩ := u_known (C := RX0) (T := TX0) (N := 3) (n := 3) hts lwt_X0 (hts (.instantiable RX0 3) (by decide +kernel))
  obtain ⟨k1, i1, h1⟩ := u_known (C := RX1) (T := TX1) (N := 7) (n := 7) hts lwt_X1 (hts (.instantiable RX1 7) (by decide +kernel))
  obtain ⟨k2, i2, h2⟩ := u_known (C := RX2) (T := TX2) (N := 6) (n := 6) hts lwt_X2 (hts (.instantiable RX2 6) (by decide +kernel))
  obtain ⟨k3, i3, h3⟩ := u_known (C := RX3) (T := TX3) (N := 4) (n := 4) hts lwt_X3 (hts (.instantiable RX3 4) (by decide +kernel))
  obtain ⟨k4, i4, h4⟩ := u_known (C := RX4) (T := TX4) (N := 4) (n := 4) hts lwt_X4 (hts (.instantiable RX4 4) (by decide +kernel))
  obtain ⟨k5, i5, h5⟩ := u_known (C := RX5) (T := TX5) (N := 12) (n := 12) hts lwt_X5 (hts (.instantiable RX5 12) (by decide +kernel))
  obtain ⟨c1, a1, b1⟩ := lw_ar1 (hts (.arrayClass .int) (by decide +kernel))
  obtain ⟨c2, a2, b2⟩ := lw_ar2 (hts (.arrayClass .boolean) (by decide +kernel))
  obtain ⟨c3, a3, b3⟩ := lw_ar3 (hts (.arrayClass .char) (by decide +kernel))
  obtain ⟨c4, a4, b4⟩ := lw_ar4 (C := RX3) (hts (.arrayOver (.object RX3)) (by decide +kernel))
  refine ⟨(fun k => match k with | 0 => k0 | 1 => k1 | 2 => k2 | 3 => k3 | 4 => k4 | _ => k5, fun k => match k with | 0 => i0 | 1 => i1 | 2 => i2 | 3 => i3 | 4 => i4 | _ => i5), c1, c2, c3, c4, ?_, ?_⟩
  · intro k q hq
    match k, hq with
    | 0, hq => cases hq; exact h0
    | 1, hq => cases hq; exact h1
    | 2, hq => cases hq; exact h2
    | 3, hq => cases hq; exact h3
    | 4, hq => cases hq; exact h4
    | 5, hq => cases hq; exact h5
    | k + 6, hq => exact absurd hq (by simp)
  · intro k q hq
    match k, hq with
    | 0, hq => cases hq; exact ⟨a1, b1⟩
    | 1, hq => cases hq; exact ⟨a2, b2⟩
    | 2, hq => cases hq; exact ⟨a3, b3⟩
    | 3, hq => cases hq; exact ⟨a4, b4⟩
    | k + 4, hq => exact absurd hq (by simp)
theorem lw_Ss {b : Nat} {s : State} {A : Nat → Prop} (hgv : (Jvm.Cond.and given_1 narrow_1).before #[Value.ref b] s = true) (hA : ∀ a : Nat, a < s.heap.size → ¬ A a) : ∃ adK adV : Nat → Nat, vk_S 6 xlen xbyt adK adV A s s.heap ∧ ∀ i : Nat, i < 6 → (Term.string RX2 (xtxt.getD i (0, "")).1).eval #[Value.ref b] s none [] s = some (.ref (adK i)) := by
  have hs := flat_of_before _ hgv
  refine vk_Sof (tm := fun i => Term.string RX2 (xtxt.getD i (0, "")).1) ?_ ?_ ?_ ?_ ?_ ?_ ?_ hA
  · intro i hi
    rcases (show i = 0 ∨ i = 1 ∨ i = 2 ∨ i = 3 ∨ i = 4 ∨ i = 5 by omega) with rfl | rfl | rfl | rfl | rfl | rfl <;> decide
  · intro i hi
    rcases (show i = 0 ∨ i = 1 ∨ i = 2 ∨ i = 3 ∨ i = 4 ∨ i = 5 by omega) with rfl | rfl | rfl | rfl | rfl | rfl
    · exact hs (Cond.exactly (.string RX2 75) "java/lang/String") (by decide +kernel)
    · exact hs (Cond.exactly (.string RX2 77) "java/lang/String") (by decide +kernel)
    · exact hs (Cond.exactly (.string RX2 79) "java/lang/String") (by decide +kernel)
    · exact hs (Cond.exactly (.string RX2 81) "java/lang/String") (by decide +kernel)
    · exact hs (Cond.exactly (.string RX2 83) "java/lang/String") (by decide +kernel)
    · exact hs (Cond.exactly (.string RX2 85) "java/lang/String") (by decide +kernel)
  · intro i hi
    rcases (show i = 0 ∨ i = 1 ∨ i = 2 ∨ i = 3 ∨ i = 4 ∨ i = 5 by omega) with rfl | rfl | rfl | rfl | rfl | rfl
    · exact hs (Cond.eq (.field (.string RX2 75) "java/lang/String" "coder" "B") (.int 0)) (by decide +kernel)
    · exact hs (Cond.eq (.field (.string RX2 77) "java/lang/String" "coder" "B") (.int 0)) (by decide +kernel)
    · exact hs (Cond.eq (.field (.string RX2 79) "java/lang/String" "coder" "B") (.int 0)) (by decide +kernel)
    · exact hs (Cond.eq (.field (.string RX2 81) "java/lang/String" "coder" "B") (.int 0)) (by decide +kernel)
    · exact hs (Cond.eq (.field (.string RX2 83) "java/lang/String" "coder" "B") (.int 0)) (by decide +kernel)
    · exact hs (Cond.eq (.field (.string RX2 85) "java/lang/String" "coder" "B") (.int 0)) (by decide +kernel)
  · intro i hi
    rcases (show i = 0 ∨ i = 1 ∨ i = 2 ∨ i = 3 ∨ i = 4 ∨ i = 5 by omega) with rfl | rfl | rfl | rfl | rfl | rfl
    · exact hs (Cond.arrayOf (.field (.string RX2 75) "java/lang/String" "value" "[B") .byte) (by decide +kernel)
    · exact hs (Cond.arrayOf (.field (.string RX2 77) "java/lang/String" "value" "[B") .byte) (by decide +kernel)
    · exact hs (Cond.arrayOf (.field (.string RX2 79) "java/lang/String" "value" "[B") .byte) (by decide +kernel)
    · exact hs (Cond.arrayOf (.field (.string RX2 81) "java/lang/String" "value" "[B") .byte) (by decide +kernel)
    · exact hs (Cond.arrayOf (.field (.string RX2 83) "java/lang/String" "value" "[B") .byte) (by decide +kernel)
    · exact hs (Cond.arrayOf (.field (.string RX2 85) "java/lang/String" "value" "[B") .byte) (by decide +kernel)
  · intro i hi
    rcases (show i = 0 ∨ i = 1 ∨ i = 2 ∨ i = 3 ∨ i = 4 ∨ i = 5 by omega) with rfl | rfl | rfl | rfl | rfl | rfl
    · exact hs (Cond.eq (.length (.field (.string RX2 75) "java/lang/String" "value" "[B")) (.int 3)) (by decide +kernel)
    · exact hs (Cond.eq (.length (.field (.string RX2 77) "java/lang/String" "value" "[B")) (.int 3)) (by decide +kernel)
    · exact hs (Cond.eq (.length (.field (.string RX2 79) "java/lang/String" "value" "[B")) (.int 4)) (by decide +kernel)
    · exact hs (Cond.eq (.length (.field (.string RX2 81) "java/lang/String" "value" "[B")) (.int 2)) (by decide +kernel)
    · exact hs (Cond.eq (.length (.field (.string RX2 83) "java/lang/String" "value" "[B")) (.int 5)) (by decide +kernel)
    · exact hs (Cond.eq (.length (.field (.string RX2 85) "java/lang/String" "value" "[B")) (.int 2)) (by decide +kernel)
  · intro i hi j hj
    rcases (show i = 0 ∨ i = 1 ∨ i = 2 ∨ i = 3 ∨ i = 4 ∨ i = 5 by omega) with rfl | rfl | rfl | rfl | rfl | rfl
    · have hj : j < 3 := hj
      rcases (show j = 0 ∨ j = 1 ∨ j = 2 by omega) with rfl | rfl | rfl
      · exact hs (Cond.eq (.elem (.field (.string RX2 75) "java/lang/String" "value" "[B") (.int 0)) (.int 112)) (by decide +kernel)
      · exact hs (Cond.eq (.elem (.field (.string RX2 75) "java/lang/String" "value" "[B") (.int 1)) (.int 117)) (by decide +kernel)
      · exact hs (Cond.eq (.elem (.field (.string RX2 75) "java/lang/String" "value" "[B") (.int 2)) (.int 116)) (by decide +kernel)
    · have hj : j < 3 := hj
      rcases (show j = 0 ∨ j = 1 ∨ j = 2 by omega) with rfl | rfl | rfl
      · exact hs (Cond.eq (.elem (.field (.string RX2 77) "java/lang/String" "value" "[B") (.int 0)) (.int 99)) (by decide +kernel)
      · exact hs (Cond.eq (.elem (.field (.string RX2 77) "java/lang/String" "value" "[B") (.int 1)) (.int 117)) (by decide +kernel)
      · exact hs (Cond.eq (.elem (.field (.string RX2 77) "java/lang/String" "value" "[B") (.int 2)) (.int 116)) (by decide +kernel)
    · have hj : j < 4 := hj
      rcases (show j = 0 ∨ j = 1 ∨ j = 2 ∨ j = 3 by omega) with rfl | rfl | rfl | rfl
      · exact hs (Cond.eq (.elem (.field (.string RX2 79) "java/lang/String" "value" "[B") (.int 0)) (.int 100)) (by decide +kernel)
      · exact hs (Cond.eq (.elem (.field (.string RX2 79) "java/lang/String" "value" "[B") (.int 1)) (.int 111)) (by decide +kernel)
      · exact hs (Cond.eq (.elem (.field (.string RX2 79) "java/lang/String" "value" "[B") (.int 2)) (.int 119)) (by decide +kernel)
      · exact hs (Cond.eq (.elem (.field (.string RX2 79) "java/lang/String" "value" "[B") (.int 3)) (.int 110)) (by decide +kernel)
    · have hj : j < 2 := hj
      rcases (show j = 0 ∨ j = 1 by omega) with rfl | rfl
      · exact hs (Cond.eq (.elem (.field (.string RX2 81) "java/lang/String" "value" "[B") (.int 0)) (.int 117)) (by decide +kernel)
      · exact hs (Cond.eq (.elem (.field (.string RX2 81) "java/lang/String" "value" "[B") (.int 1)) (.int 112)) (by decide +kernel)
    · have hj : j < 5 := hj
      rcases (show j = 0 ∨ j = 1 ∨ j = 2 ∨ j = 3 ∨ j = 4 by omega) with rfl | rfl | rfl | rfl | rfl
      · exact hs (Cond.eq (.elem (.field (.string RX2 83) "java/lang/String" "value" "[B") (.int 0)) (.int 115)) (by decide +kernel)
      · exact hs (Cond.eq (.elem (.field (.string RX2 83) "java/lang/String" "value" "[B") (.int 1)) (.int 104)) (by decide +kernel)
      · exact hs (Cond.eq (.elem (.field (.string RX2 83) "java/lang/String" "value" "[B") (.int 2)) (.int 97)) (by decide +kernel)
      · exact hs (Cond.eq (.elem (.field (.string RX2 83) "java/lang/String" "value" "[B") (.int 3)) (.int 114)) (by decide +kernel)
      · exact hs (Cond.eq (.elem (.field (.string RX2 83) "java/lang/String" "value" "[B") (.int 4)) (.int 101)) (by decide +kernel)
    · have hj : j < 2 := hj
      rcases (show j = 0 ∨ j = 1 by omega) with rfl | rfl
      · exact hs (Cond.eq (.elem (.field (.string RX2 85) "java/lang/String" "value" "[B") (.int 0)) (.int 116)) (by decide +kernel)
      · exact hs (Cond.eq (.elem (.field (.string RX2 85) "java/lang/String" "value" "[B") (.int 1)) (.int 111)) (by decide +kernel)
  · intro i j hi hj hij
    rcases (show i = 0 ∨ i = 1 ∨ i = 2 ∨ i = 3 ∨ i = 4 ∨ i = 5 by omega) with rfl | rfl | rfl | rfl | rfl | rfl
    · rcases (show j = 0 ∨ j = 1 ∨ j = 2 ∨ j = 3 ∨ j = 4 ∨ j = 5 by omega) with rfl | rfl | rfl | rfl | rfl | rfl
      · exact absurd rfl hij
      · exact Or.inl (hs (Cond.not (Cond.eq (.string RX2 75) (.string RX2 77))) (by decide +kernel))
      · exact Or.inl (hs (Cond.not (Cond.eq (.string RX2 75) (.string RX2 79))) (by decide +kernel))
      · exact Or.inl (hs (Cond.not (Cond.eq (.string RX2 75) (.string RX2 81))) (by decide +kernel))
      · exact Or.inl (hs (Cond.not (Cond.eq (.string RX2 75) (.string RX2 83))) (by decide +kernel))
      · exact Or.inl (hs (Cond.not (Cond.eq (.string RX2 75) (.string RX2 85))) (by decide +kernel))
    · rcases (show j = 0 ∨ j = 1 ∨ j = 2 ∨ j = 3 ∨ j = 4 ∨ j = 5 by omega) with rfl | rfl | rfl | rfl | rfl | rfl
      · exact Or.inr (hs (Cond.not (Cond.eq (.string RX2 75) (.string RX2 77))) (by decide +kernel))
      · exact absurd rfl hij
      · exact Or.inl (hs (Cond.not (Cond.eq (.string RX2 77) (.string RX2 79))) (by decide +kernel))
      · exact Or.inl (hs (Cond.not (Cond.eq (.string RX2 77) (.string RX2 81))) (by decide +kernel))
      · exact Or.inl (hs (Cond.not (Cond.eq (.string RX2 77) (.string RX2 83))) (by decide +kernel))
      · exact Or.inl (hs (Cond.not (Cond.eq (.string RX2 77) (.string RX2 85))) (by decide +kernel))
    · rcases (show j = 0 ∨ j = 1 ∨ j = 2 ∨ j = 3 ∨ j = 4 ∨ j = 5 by omega) with rfl | rfl | rfl | rfl | rfl | rfl
      · exact Or.inr (hs (Cond.not (Cond.eq (.string RX2 75) (.string RX2 79))) (by decide +kernel))
      · exact Or.inr (hs (Cond.not (Cond.eq (.string RX2 77) (.string RX2 79))) (by decide +kernel))
      · exact absurd rfl hij
      · exact Or.inl (hs (Cond.not (Cond.eq (.string RX2 79) (.string RX2 81))) (by decide +kernel))
      · exact Or.inl (hs (Cond.not (Cond.eq (.string RX2 79) (.string RX2 83))) (by decide +kernel))
      · exact Or.inl (hs (Cond.not (Cond.eq (.string RX2 79) (.string RX2 85))) (by decide +kernel))
    · rcases (show j = 0 ∨ j = 1 ∨ j = 2 ∨ j = 3 ∨ j = 4 ∨ j = 5 by omega) with rfl | rfl | rfl | rfl | rfl | rfl
      · exact Or.inr (hs (Cond.not (Cond.eq (.string RX2 75) (.string RX2 81))) (by decide +kernel))
      · exact Or.inr (hs (Cond.not (Cond.eq (.string RX2 77) (.string RX2 81))) (by decide +kernel))
      · exact Or.inr (hs (Cond.not (Cond.eq (.string RX2 79) (.string RX2 81))) (by decide +kernel))
      · exact absurd rfl hij
      · exact Or.inl (hs (Cond.not (Cond.eq (.string RX2 81) (.string RX2 83))) (by decide +kernel))
      · exact Or.inl (hs (Cond.not (Cond.eq (.string RX2 81) (.string RX2 85))) (by decide +kernel))
    · rcases (show j = 0 ∨ j = 1 ∨ j = 2 ∨ j = 3 ∨ j = 4 ∨ j = 5 by omega) with rfl | rfl | rfl | rfl | rfl | rfl
      · exact Or.inr (hs (Cond.not (Cond.eq (.string RX2 75) (.string RX2 83))) (by decide +kernel))
      · exact Or.inr (hs (Cond.not (Cond.eq (.string RX2 77) (.string RX2 83))) (by decide +kernel))
      · exact Or.inr (hs (Cond.not (Cond.eq (.string RX2 79) (.string RX2 83))) (by decide +kernel))
      · exact Or.inr (hs (Cond.not (Cond.eq (.string RX2 81) (.string RX2 83))) (by decide +kernel))
      · exact absurd rfl hij
      · exact Or.inl (hs (Cond.not (Cond.eq (.string RX2 83) (.string RX2 85))) (by decide +kernel))
    · rcases (show j = 0 ∨ j = 1 ∨ j = 2 ∨ j = 3 ∨ j = 4 ∨ j = 5 by omega) with rfl | rfl | rfl | rfl | rfl | rfl
      · exact Or.inr (hs (Cond.not (Cond.eq (.string RX2 75) (.string RX2 85))) (by decide +kernel))
      · exact Or.inr (hs (Cond.not (Cond.eq (.string RX2 77) (.string RX2 85))) (by decide +kernel))
      · exact Or.inr (hs (Cond.not (Cond.eq (.string RX2 79) (.string RX2 85))) (by decide +kernel))
      · exact Or.inr (hs (Cond.not (Cond.eq (.string RX2 81) (.string RX2 85))) (by decide +kernel))
      · exact Or.inr (hs (Cond.not (Cond.eq (.string RX2 83) (.string RX2 85))) (by decide +kernel))
      · exact absurd rfl hij
theorem lw_SX {b : Nat} {s : State} {A : Nat → Prop} (hts : ∀ w ∈ lw_tbl, w.before #[Value.ref b] s = true) (hgv : (Jvm.Cond.and given_1 narrow_1).before #[Value.ref b] s = true) (hA : ∀ a : Nat, a < s.heap.size → ¬ A a) : ∃ (adK adV : Nat → Nat) (o : Option Nat), ∀ (D : va_G) (c1 c2 c3 c4 : ClassId), SX (D, c1, c2, c3, c4, adK, adV, o) A s s.heap := by
  have hs := flat_of_before _ hgv
  obtain ⟨adK, adV, hS, hev⟩ := lw_Ss hgv hA
  have h1 : va_Nw (.methodLinkNest RX3 35 yX4_isOutside RX4) s := va_Nw.of rfl (hts _ (by decide +kernel))
  have h2 : ∀ i, i < 6 → vk_R RX2 (xtxt.getD i (0, "")).1 (xtxt.getD i (0, "")).2 (adK i) s := by
    intro i hi
    refine vk_R.of ?_ (hev i hi)
    rcases (show i = 0 ∨ i = 1 ∨ i = 2 ∨ i = 3 ∨ i = 4 ∨ i = 5 by omega) with rfl | rfl | rfl | rfl | rfl | rfl
    · exact hts (.stringRef RX2 75 "put") (by decide +kernel)
    · exact hts (.stringRef RX2 77 "cut") (by decide +kernel)
    · exact hts (.stringRef RX2 79 "down") (by decide +kernel)
    · exact hts (.stringRef RX2 81 "up") (by decide +kernel)
    · exact hts (.stringRef RX2 83 "share") (by decide +kernel)
    · exact hts (.stringRef RX2 85 "to") (by decide +kernel)
  have h4 : va_Z "java/lang/String" "COMPACT_STRINGS" "Z" (.int 1) A s s.heap := va_Zof (hts (.laysStatic "java/lang/String" "COMPACT_STRINGS" "Z") (by decide +kernel)) (hts (.initialized "java/lang/String") (by decide +kernel)) (va_eqt (hs (Cond.eq (.static "java/lang/String" "COMPACT_STRINGS" "Z") (.int 1)) (by decide +kernel))) hA
  have h5 : va_Zq "jdk/internal/util/Preconditions" "SIOOBE_FORMATTER" "Ljava/util/function/BiFunction;" A s s.heap := va_Zqof (hts (.laysStatic "jdk/internal/util/Preconditions" "SIOOBE_FORMATTER" "Ljava/util/function/BiFunction;") (by decide +kernel)) (hts (.initialized "jdk/internal/util/Preconditions") (by decide +kernel)) (hs (Cond.isRef (.static "jdk/internal/util/Preconditions" "SIOOBE_FORMATTER" "Ljava/util/function/BiFunction;")) (by decide +kernel)) hA
  rcases h5 with h5 | ⟨t, h5⟩
  · exact ⟨adK, adV, none, fun D c1 c2 c3 c4 => ⟨h1, h2, hS, h4, h5⟩⟩
  · exact ⟨adK, adV, some t, fun D c1 c2 c3 c4 => ⟨h1, h2, hS, h4, h5⟩⟩
