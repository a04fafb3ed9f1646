/-! ===== PURE: the class's tokens are the reference's ===== -/
theorem nx_sg {tx : Nat → Int} {L q : Int} (h : 0 ≤ q) (hn : 0 ≤ nxF tx L q) : sgF tx L q = nxF tx L q := by
  apply nxF_s h
  apply Classical.byContradiction
  intro hh
  rw [nxF, if_neg hh] at hn
  omega
theorem te_dr {tx : Nat → Int} {L s : Int} (hs : 0 ≤ s) (hd : 48 ≤ nxF tx L s ∧ nxF tx L s ≤ 57) : teF tx L s = drR tx L s := by
  have h1 := (nxF_dr hs).mpr hd
  have h2 := (of_decide_eq_true h1).1
  have h3 := nx_sg (tx := tx) (L := L) hs (by omega)
  unfold teF drR
  rw [if_neg (by omega), if_pos (by omega), show (L - s).toNat = (L - (s + 1)).toNat + 1 by omega, itL, if_pos h1, show min (s + 1) L = s + 1 by omega]
  rfl
theorem te_lr {tx : Nat → Int} {L s : Int} (hs : 0 ≤ s) (hd : 97 ≤ nxF tx L s ∧ nxF tx L s ≤ 122) : teF tx L s = lrR tx L s := by
  have h1 := (nxF_lr hs).mpr hd
  have h2 := (of_decide_eq_true h1).1
  have h3 := nx_sg (tx := tx) (L := L) hs (by omega)
  unfold teF lrR
  rw [if_pos (by omega), show (L - s).toNat = (L - (s + 1)).toNat + 1 by omega, itL, if_pos h1, show min (s + 1) L = s + 1 by omega]
  rfl
theorem nv_dv {tx : Nat → Int} {L s : Int} (hs : 0 ≤ s) (f k : Nat) (hk : k + f ≤ 4) (hd : ∀ j : Nat, j < k + f → 48 ≤ nxF tx L (s + j) ∧ nxF tx L (s + j) ≤ 57) : nvF tx L f (s + k) (dvF tx L s k) = dvF tx L s (k + f) := by
  induction f generalizing k with
  | zero => rfl
  | succ f ih =>
    have h1 := hd k (by omega)
    have h2 := nx_sg (tx := tx) (L := L) (q := s + k) (by omega) (by omega)
    have h3 := ih (k + 1) (by omega) (fun j hj => hd j (by omega))
    rw [dvF, if_pos (by omega)] at h3
    rw [nvF, h2, if_pos h1, show s + (k : Int) + 1 = s + ((k + 1 : Nat) : Int) by omega, h3, show k + 1 + f = k + (f + 1) by omega]
theorem nu_ok {tx : Nat → Int} {L s : Int} (hs : 0 ≤ s ∧ s ≤ L) (h : nwF tx L s = 0) : nuF tx L s (teF tx L s) = ndF tx L s ∧ teF tx L s = drR tx L s := by
  have hc : ¬ (¬ (1 ≤ drR tx L s - s ∧ drR tx L s - s ≤ 4) ∨ (1 < drR tx L s - s ∧ nxF tx L s = 48)) := by
    intro q
    rw [nwF, if_pos q] at h
    omega
  have h0 := drR_all (tx := tx) (L := L) hs.1 0 (by omega)
  rw [show s + ((0 : Nat) : Int) = s by omega] at h0
  have h1 := te_dr hs.1 h0
  have h2 := nx_sg (tx := tx) (L := L) hs.1 (by omega)
  refine ⟨?_, h1⟩
  have h3 := nv_dv (tx := tx) (L := L) hs.1 (drR tx L s - s).toNat 0 (by omega) (fun j hj => drR_all hs.1 j (by omega))
  rw [show s + ((0 : Nat) : Int) = s by omega, Nat.zero_add] at h3
  rw [h1, nuF, if_neg (by omega)]
  exact h3
theorem nu_bad {tx : Nat → Int} {L s : Int} (hs : 0 ≤ s ∧ s ≤ L) (h : nwF tx L s = 1) : nuF tx L s (teF tx L s) = -1 := by
  by_cases hd : 48 ≤ nxF tx L s ∧ nxF tx L s ≤ 57
  · have h1 := te_dr hs.1 hd
    have h2 := nx_sg (tx := tx) (L := L) hs.1 (by omega)
    have hc : ¬ (1 ≤ drR tx L s - s ∧ drR tx L s - s ≤ 4) ∨ (1 < drR tx L s - s ∧ nxF tx L s = 48) := by
      apply Classical.byContradiction
      intro q
      rw [nwF, if_neg q] at h
      omega
    rw [h1, nuF, if_pos (by omega)]
  · have h3 : ¬ (48 ≤ sgF tx L s ∧ sgF tx L s ≤ 57) := by
      intro q
      by_cases hl : s < L
      · rw [nxF_s hs.1 hl] at q
        exact hd q
      · unfold sgF at q
        rw [if_neg (by omega)] at q
        omega
    have hb := teF_b (tx := tx) hs.2
    unfold nuF
    split
    · rfl
    · rw [show (teF tx L s - s).toNat = (teF tx L s - s).toNat - 1 + 1 by omega, nvF, if_neg h3]
theorem wd_n {tx : Nat → Int} {L s : Int} (hs : 0 ≤ s ∧ s ≤ L) (c : Int) (hc : 0 < c) (h : wdF tx L s = c) : ∃ m : Nat, (1 ≤ m ∧ m ≤ 5) ∧ lrR tx L s - s = m ∧ wvF tx L s m = c ∧ teF tx L s = lrR tx L s ∧ ∀ j : Nat, j < m → sgF tx L (s + j) = nxF tx L (s + j) ∧ 97 ≤ nxF tx L (s + j) ∧ nxF tx L (s + j) ≤ 122 := by
  have hb := lrR_b (tx := tx) hs.2
  by_cases h6 : lrR tx L s - s < 6
  · rw [wdF, if_pos h6] at h
    have h0 : 0 < (lrR tx L s - s).toNat := by
      apply Classical.byContradiction
      intro q
      rw [show (lrR tx L s - s).toNat = 0 by omega] at h
      unfold wvF at h
      omega
    have ha := lrR_all (tx := tx) (L := L) hs.1 0 h0
    rw [show s + ((0 : Nat) : Int) = s by omega] at ha
    exact ⟨(lrR tx L s - s).toNat, by omega, by omega, h, te_lr hs.1 ha, fun j hj => ⟨nx_sg (by omega) (by have := lrR_all (tx := tx) (L := L) hs.1 j hj; omega), lrR_all hs.1 j hj⟩⟩
  · rw [wdF, if_neg h6] at h
    omega

theorem cw_0 {tx : Nat → Int} {L s : Int} (hs : 0 ≤ s ∧ s ≤ L) : tkP tx L s (teF tx L s) 0 ↔ wdF tx L s = 17076 := by
  constructor
  · intro h
    have h1 : teF tx L s - s = 3 := h.1
    have q0 : sgF tx L (s + 0) = 112 := h.2 0 (by decide)
    have q1 : sgF tx L (s + 1) = 117 := h.2 1 (by decide)
    have q2 : sgF tx L (s + 2) = 116 := h.2 2 (by decide)
    have hl : s < L := by
      have := teF_b (tx := tx) hs.2
      omega
    rw [show s + (0 : Int) = s by omega] at q0
    have ht := te_lr (tx := tx) (L := L) hs.1 (by rw [← nxF_s hs.1 hl]; omega)
    rw [ht] at h1
    have hb := lrR_b (tx := tx) hs.2
    rw [wdF, if_pos (by omega), show (lrR tx L s - s).toNat = 3 by omega]
    have e0 := nxF_s (tx := tx) hs.1 hl
    have e1 := nxF_s (tx := tx) (L := L) (q := s + 1) (by omega) (by omega)
    have e2 := nxF_s (tx := tx) (L := L) (q := s + 2) (by omega) (by omega)
    simp only [wvF]
    simp
    omega
  · intro h
    obtain ⟨m, hm, hr, hv, ht, ha⟩ := wd_n hs 17076 (by decide) h
    have h5 : m = 1 ∨ m = 2 ∨ m = 3 ∨ m = 4 ∨ m = 5 := by omega
    rcases h5 with rfl | rfl | rfl | rfl | rfl
    · have a0 := ha 0 (by decide)
      simp only [wvF] at hv
      simp at hv a0
      omega
    · have a0 := ha 0 (by decide)
      have a1 := ha 1 (by decide)
      simp only [wvF] at hv
      simp at hv a0 a1
      omega
    · have a0 := ha 0 (by decide)
      have a1 := ha 1 (by decide)
      have a2 := ha 2 (by decide)
      simp only [wvF] at hv
      simp at hv a0 a1 a2
      refine ⟨by rw [ht, hr]; rfl, fun j hj => ?_⟩
      have hj5 : j = 0 ∨ j = 1 ∨ j = 2 := by
        have hj2 : j < 3 := hj
        omega
      rcases hj5 with rfl | rfl | rfl
      · show sgF tx L (s + ((0 : Nat) : Int)) = 112
        rw [show s + ((0 : Nat) : Int) = s by omega]
        omega
      · show sgF tx L (s + 1) = 117
        omega
      · show sgF tx L (s + 2) = 116
        omega
    · have a0 := ha 0 (by decide)
      have a1 := ha 1 (by decide)
      have a2 := ha 2 (by decide)
      have a3 := ha 3 (by decide)
      simp only [wvF] at hv
      simp at hv a0 a1 a2 a3
      omega
    · have a0 := ha 0 (by decide)
      have a1 := ha 1 (by decide)
      have a2 := ha 2 (by decide)
      have a3 := ha 3 (by decide)
      have a4 := ha 4 (by decide)
      simp only [wvF] at hv
      simp at hv a0 a1 a2 a3 a4
      omega
theorem cw_1 {tx : Nat → Int} {L s : Int} (hs : 0 ≤ s ∧ s ≤ L) : tkP tx L s (teF tx L s) 1 ↔ wdF tx L s = 3764 := by
  constructor
  · intro h
    have h1 : teF tx L s - s = 3 := h.1
    have q0 : sgF tx L (s + 0) = 99 := h.2 0 (by decide)
    have q1 : sgF tx L (s + 1) = 117 := h.2 1 (by decide)
    have q2 : sgF tx L (s + 2) = 116 := h.2 2 (by decide)
    have hl : s < L := by
      have := teF_b (tx := tx) hs.2
      omega
    rw [show s + (0 : Int) = s by omega] at q0
    have ht := te_lr (tx := tx) (L := L) hs.1 (by rw [← nxF_s hs.1 hl]; omega)
    rw [ht] at h1
    have hb := lrR_b (tx := tx) hs.2
    rw [wdF, if_pos (by omega), show (lrR tx L s - s).toNat = 3 by omega]
    have e0 := nxF_s (tx := tx) hs.1 hl
    have e1 := nxF_s (tx := tx) (L := L) (q := s + 1) (by omega) (by omega)
    have e2 := nxF_s (tx := tx) (L := L) (q := s + 2) (by omega) (by omega)
    simp only [wvF]
    simp
    omega
  · intro h
    obtain ⟨m, hm, hr, hv, ht, ha⟩ := wd_n hs 3764 (by decide) h
    have h5 : m = 1 ∨ m = 2 ∨ m = 3 ∨ m = 4 ∨ m = 5 := by omega
    rcases h5 with rfl | rfl | rfl | rfl | rfl
    · have a0 := ha 0 (by decide)
      simp only [wvF] at hv
      simp at hv a0
      omega
    · have a0 := ha 0 (by decide)
      have a1 := ha 1 (by decide)
      simp only [wvF] at hv
      simp at hv a0 a1
      omega
    · have a0 := ha 0 (by decide)
      have a1 := ha 1 (by decide)
      have a2 := ha 2 (by decide)
      simp only [wvF] at hv
      simp at hv a0 a1 a2
      refine ⟨by rw [ht, hr]; rfl, fun j hj => ?_⟩
      have hj5 : j = 0 ∨ j = 1 ∨ j = 2 := by
        have hj2 : j < 3 := hj
        omega
      rcases hj5 with rfl | rfl | rfl
      · show sgF tx L (s + ((0 : Nat) : Int)) = 99
        rw [show s + ((0 : Nat) : Int) = s by omega]
        omega
      · show sgF tx L (s + 1) = 117
        omega
      · show sgF tx L (s + 2) = 116
        omega
    · have a0 := ha 0 (by decide)
      have a1 := ha 1 (by decide)
      have a2 := ha 2 (by decide)
      have a3 := ha 3 (by decide)
      simp only [wvF] at hv
      simp at hv a0 a1 a2 a3
      omega
    · have a0 := ha 0 (by decide)
      have a1 := ha 1 (by decide)
      have a2 := ha 2 (by decide)
      have a3 := ha 3 (by decide)
      have a4 := ha 4 (by decide)
      simp only [wvF] at hv
      simp at hv a0 a1 a2 a3 a4
      omega
theorem cw_2 {tx : Nat → Int} {L s : Int} (hs : 0 ≤ s ∧ s ≤ L) : tkP tx L s (teF tx L s) 2 ↔ wdF tx L s = 147182 := by
  constructor
  · intro h
    have h1 : teF tx L s - s = 4 := h.1
    have q0 : sgF tx L (s + 0) = 100 := h.2 0 (by decide)
    have q1 : sgF tx L (s + 1) = 111 := h.2 1 (by decide)
    have q2 : sgF tx L (s + 2) = 119 := h.2 2 (by decide)
    have q3 : sgF tx L (s + 3) = 110 := h.2 3 (by decide)
    have hl : s < L := by
      have := teF_b (tx := tx) hs.2
      omega
    rw [show s + (0 : Int) = s by omega] at q0
    have ht := te_lr (tx := tx) (L := L) hs.1 (by rw [← nxF_s hs.1 hl]; omega)
    rw [ht] at h1
    have hb := lrR_b (tx := tx) hs.2
    rw [wdF, if_pos (by omega), show (lrR tx L s - s).toNat = 4 by omega]
    have e0 := nxF_s (tx := tx) hs.1 hl
    have e1 := nxF_s (tx := tx) (L := L) (q := s + 1) (by omega) (by omega)
    have e2 := nxF_s (tx := tx) (L := L) (q := s + 2) (by omega) (by omega)
    have e3 := nxF_s (tx := tx) (L := L) (q := s + 3) (by omega) (by omega)
    simp only [wvF]
    simp
    omega
  · intro h
    obtain ⟨m, hm, hr, hv, ht, ha⟩ := wd_n hs 147182 (by decide) h
    have h5 : m = 1 ∨ m = 2 ∨ m = 3 ∨ m = 4 ∨ m = 5 := by omega
    rcases h5 with rfl | rfl | rfl | rfl | rfl
    · have a0 := ha 0 (by decide)
      simp only [wvF] at hv
      simp at hv a0
      omega
    · have a0 := ha 0 (by decide)
      have a1 := ha 1 (by decide)
      simp only [wvF] at hv
      simp at hv a0 a1
      omega
    · have a0 := ha 0 (by decide)
      have a1 := ha 1 (by decide)
      have a2 := ha 2 (by decide)
      simp only [wvF] at hv
      simp at hv a0 a1 a2
      omega
    · have a0 := ha 0 (by decide)
      have a1 := ha 1 (by decide)
      have a2 := ha 2 (by decide)
      have a3 := ha 3 (by decide)
      simp only [wvF] at hv
      simp at hv a0 a1 a2 a3
      refine ⟨by rw [ht, hr]; rfl, fun j hj => ?_⟩
      have hj5 : j = 0 ∨ j = 1 ∨ j = 2 ∨ j = 3 := by
        have hj2 : j < 4 := hj
        omega
      rcases hj5 with rfl | rfl | rfl | rfl
      · show sgF tx L (s + ((0 : Nat) : Int)) = 100
        rw [show s + ((0 : Nat) : Int) = s by omega]
        omega
      · show sgF tx L (s + 1) = 111
        omega
      · show sgF tx L (s + 2) = 119
        omega
      · show sgF tx L (s + 3) = 110
        omega
    · have a0 := ha 0 (by decide)
      have a1 := ha 1 (by decide)
      have a2 := ha 2 (by decide)
      have a3 := ha 3 (by decide)
      have a4 := ha 4 (by decide)
      simp only [wvF] at hv
      simp at hv a0 a1 a2 a3 a4
      omega
theorem cw_3 {tx : Nat → Int} {L s : Int} (hs : 0 ≤ s ∧ s ≤ L) : tkP tx L s (teF tx L s) 3 ↔ wdF tx L s = 688 := by
  constructor
  · intro h
    have h1 : teF tx L s - s = 2 := h.1
    have q0 : sgF tx L (s + 0) = 117 := h.2 0 (by decide)
    have q1 : sgF tx L (s + 1) = 112 := h.2 1 (by decide)
    have hl : s < L := by
      have := teF_b (tx := tx) hs.2
      omega
    rw [show s + (0 : Int) = s by omega] at q0
    have ht := te_lr (tx := tx) (L := L) hs.1 (by rw [← nxF_s hs.1 hl]; omega)
    rw [ht] at h1
    have hb := lrR_b (tx := tx) hs.2
    rw [wdF, if_pos (by omega), show (lrR tx L s - s).toNat = 2 by omega]
    have e0 := nxF_s (tx := tx) hs.1 hl
    have e1 := nxF_s (tx := tx) (L := L) (q := s + 1) (by omega) (by omega)
    simp only [wvF]
    simp
    omega
  · intro h
    obtain ⟨m, hm, hr, hv, ht, ha⟩ := wd_n hs 688 (by decide) h
    have h5 : m = 1 ∨ m = 2 ∨ m = 3 ∨ m = 4 ∨ m = 5 := by omega
    rcases h5 with rfl | rfl | rfl | rfl | rfl
    · have a0 := ha 0 (by decide)
      simp only [wvF] at hv
      simp at hv a0
      omega
    · have a0 := ha 0 (by decide)
      have a1 := ha 1 (by decide)
      simp only [wvF] at hv
      simp at hv a0 a1
      refine ⟨by rw [ht, hr]; rfl, fun j hj => ?_⟩
      have hj5 : j = 0 ∨ j = 1 := by
        have hj2 : j < 2 := hj
        omega
      rcases hj5 with rfl | rfl
      · show sgF tx L (s + ((0 : Nat) : Int)) = 117
        rw [show s + ((0 : Nat) : Int) = s by omega]
        omega
      · show sgF tx L (s + 1) = 112
        omega
    · have a0 := ha 0 (by decide)
      have a1 := ha 1 (by decide)
      have a2 := ha 2 (by decide)
      simp only [wvF] at hv
      simp at hv a0 a1 a2
      omega
    · have a0 := ha 0 (by decide)
      have a1 := ha 1 (by decide)
      have a2 := ha 2 (by decide)
      have a3 := ha 3 (by decide)
      simp only [wvF] at hv
      simp at hv a0 a1 a2 a3
      omega
    · have a0 := ha 0 (by decide)
      have a1 := ha 1 (by decide)
      have a2 := ha 2 (by decide)
      have a3 := ha 3 (by decide)
      have a4 := ha 4 (by decide)
      simp only [wvF] at hv
      simp at hv a0 a1 a2 a3 a4
      omega
theorem cw_4 {tx : Nat → Int} {L s : Int} (hs : 0 ≤ s ∧ s ≤ L) : tkP tx L s (teF tx L s) 4 ↔ wdF tx L s = 20186693 := by
  constructor
  · intro h
    have h1 : teF tx L s - s = 5 := h.1
    have q0 : sgF tx L (s + 0) = 115 := h.2 0 (by decide)
    have q1 : sgF tx L (s + 1) = 104 := h.2 1 (by decide)
    have q2 : sgF tx L (s + 2) = 97 := h.2 2 (by decide)
    have q3 : sgF tx L (s + 3) = 114 := h.2 3 (by decide)
    have q4 : sgF tx L (s + 4) = 101 := h.2 4 (by decide)
    have hl : s < L := by
      have := teF_b (tx := tx) hs.2
      omega
    rw [show s + (0 : Int) = s by omega] at q0
    have ht := te_lr (tx := tx) (L := L) hs.1 (by rw [← nxF_s hs.1 hl]; omega)
    rw [ht] at h1
    have hb := lrR_b (tx := tx) hs.2
    rw [wdF, if_pos (by omega), show (lrR tx L s - s).toNat = 5 by omega]
    have e0 := nxF_s (tx := tx) hs.1 hl
    have e1 := nxF_s (tx := tx) (L := L) (q := s + 1) (by omega) (by omega)
    have e2 := nxF_s (tx := tx) (L := L) (q := s + 2) (by omega) (by omega)
    have e3 := nxF_s (tx := tx) (L := L) (q := s + 3) (by omega) (by omega)
    have e4 := nxF_s (tx := tx) (L := L) (q := s + 4) (by omega) (by omega)
    simp only [wvF]
    simp
    omega
  · intro h
    obtain ⟨m, hm, hr, hv, ht, ha⟩ := wd_n hs 20186693 (by decide) h
    have h5 : m = 1 ∨ m = 2 ∨ m = 3 ∨ m = 4 ∨ m = 5 := by omega
    rcases h5 with rfl | rfl | rfl | rfl | rfl
    · have a0 := ha 0 (by decide)
      simp only [wvF] at hv
      simp at hv a0
      omega
    · have a0 := ha 0 (by decide)
      have a1 := ha 1 (by decide)
      simp only [wvF] at hv
      simp at hv a0 a1
      omega
    · have a0 := ha 0 (by decide)
      have a1 := ha 1 (by decide)
      have a2 := ha 2 (by decide)
      simp only [wvF] at hv
      simp at hv a0 a1 a2
      omega
    · have a0 := ha 0 (by decide)
      have a1 := ha 1 (by decide)
      have a2 := ha 2 (by decide)
      have a3 := ha 3 (by decide)
      simp only [wvF] at hv
      simp at hv a0 a1 a2 a3
      omega
    · have a0 := ha 0 (by decide)
      have a1 := ha 1 (by decide)
      have a2 := ha 2 (by decide)
      have a3 := ha 3 (by decide)
      have a4 := ha 4 (by decide)
      simp only [wvF] at hv
      simp at hv a0 a1 a2 a3 a4
      refine ⟨by rw [ht, hr]; rfl, fun j hj => ?_⟩
      have hj5 : j = 0 ∨ j = 1 ∨ j = 2 ∨ j = 3 ∨ j = 4 := by
        have hj2 : j < 5 := hj
        omega
      rcases hj5 with rfl | rfl | rfl | rfl | rfl
      · show sgF tx L (s + ((0 : Nat) : Int)) = 115
        rw [show s + ((0 : Nat) : Int) = s by omega]
        omega
      · show sgF tx L (s + 1) = 104
        omega
      · show sgF tx L (s + 2) = 97
        omega
      · show sgF tx L (s + 3) = 114
        omega
      · show sgF tx L (s + 4) = 101
        omega
theorem cw_5 {tx : Nat → Int} {L s : Int} (hs : 0 ≤ s ∧ s ≤ L) : tkP tx L s (teF tx L s) 5 ↔ wdF tx L s = 655 := by
  constructor
  · intro h
    have h1 : teF tx L s - s = 2 := h.1
    have q0 : sgF tx L (s + 0) = 116 := h.2 0 (by decide)
    have q1 : sgF tx L (s + 1) = 111 := h.2 1 (by decide)
    have hl : s < L := by
      have := teF_b (tx := tx) hs.2
      omega
    rw [show s + (0 : Int) = s by omega] at q0
    have ht := te_lr (tx := tx) (L := L) hs.1 (by rw [← nxF_s hs.1 hl]; omega)
    rw [ht] at h1
    have hb := lrR_b (tx := tx) hs.2
    rw [wdF, if_pos (by omega), show (lrR tx L s - s).toNat = 2 by omega]
    have e0 := nxF_s (tx := tx) hs.1 hl
    have e1 := nxF_s (tx := tx) (L := L) (q := s + 1) (by omega) (by omega)
    simp only [wvF]
    simp
    omega
  · intro h
    obtain ⟨m, hm, hr, hv, ht, ha⟩ := wd_n hs 655 (by decide) h
    have h5 : m = 1 ∨ m = 2 ∨ m = 3 ∨ m = 4 ∨ m = 5 := by omega
    rcases h5 with rfl | rfl | rfl | rfl | rfl
    · have a0 := ha 0 (by decide)
      simp only [wvF] at hv
      simp at hv a0
      omega
    · have a0 := ha 0 (by decide)
      have a1 := ha 1 (by decide)
      simp only [wvF] at hv
      simp at hv a0 a1
      refine ⟨by rw [ht, hr]; rfl, fun j hj => ?_⟩
      have hj5 : j = 0 ∨ j = 1 := by
        have hj2 : j < 2 := hj
        omega
      rcases hj5 with rfl | rfl
      · show sgF tx L (s + ((0 : Nat) : Int)) = 116
        rw [show s + ((0 : Nat) : Int) = s by omega]
        omega
      · show sgF tx L (s + 1) = 111
        omega
    · have a0 := ha 0 (by decide)
      have a1 := ha 1 (by decide)
      have a2 := ha 2 (by decide)
      simp only [wvF] at hv
      simp at hv a0 a1 a2
      omega
    · have a0 := ha 0 (by decide)
      have a1 := ha 1 (by decide)
      have a2 := ha 2 (by decide)
      have a3 := ha 3 (by decide)
      simp only [wvF] at hv
      simp at hv a0 a1 a2 a3
      omega
    · have a0 := ha 0 (by decide)
      have a1 := ha 1 (by decide)
      have a2 := ha 2 (by decide)
      have a3 := ha 3 (by decide)
      have a4 := ha 4 (by decide)
      simp only [wvF] at hv
      simp at hv a0 a1 a2 a3 a4
      omega
