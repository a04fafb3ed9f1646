/-! ===== ROWS over VV ===== -/
section Rows
variable {T : TT} {M : MB} {cc : ByteArray} {own : String} {nL : Nat} {Ts : List Cond} {R0 : Room} {lv lv' : List (Nat × Value)} {ws ws' : va_W} {ce sl pc : Nat} {rest : List Value}
theorem xr_iconst (hM : FM T M cc own nL Ts R0) {n : Int} (hd : decode cc pc = .ok (.iconst n, 1)) (k : VV T M nL lv ws ce sl (pc + 1) (iv n :: rest)) : VV T M nL lv ws ce sl pc rest := by
  obtain ⟨p, l, e, R, s, m, args, below, meth, c, Q, A⟩ := M
  obtain ⟨hx, hb, hml, hown, hts, hK, hA, hR, hSX⟩ := hM
  intro ls H locs hl hP hD hS
  exact lv_iconst hx hb hd rfl (k ls H locs hl hP hD hS)
theorem xr_bipush (hM : FM T M cc own nL Ts R0) {n : Int} (hd : decode cc pc = .ok (.bipush n, 2)) (hv : (Int8.ofInt n).toInt32 = Int32.ofInt n) (k : VV T M nL lv ws ce sl (pc + 2) (iv n :: rest)) : VV T M nL lv ws ce sl pc rest := by
  obtain ⟨p, l, e, R, s, m, args, below, meth, c, Q, A⟩ := M
  obtain ⟨hx, hb, hml, hown, hts, hK, hA, hR, hSX⟩ := hM
  intro ls H locs hl hP hD hS
  exact lv_bipush hx hb hd hv (k ls H locs hl hP hD hS)
theorem xr_sipush (hM : FM T M cc own nL Ts R0) {n : Int} (hd : decode cc pc = .ok (.sipush n, 3)) (hv : (Int16.ofInt n).toInt32 = Int32.ofInt n) (k : VV T M nL lv ws ce sl (pc + 3) (iv n :: rest)) : VV T M nL lv ws ce sl pc rest := by
  obtain ⟨p, l, e, R, s, m, args, below, meth, c, Q, A⟩ := M
  obtain ⟨hx, hb, hml, hown, hts, hK, hA, hR, hSX⟩ := hM
  intro ls H locs hl hP hD hS
  exact lv_sipush hx hb hd hv (k ls H locs hl hP hD hS)
theorem xr_ldc (hM : FM T M cc own nL Ts R0) {index : Nat} {v : Int32} (n : Int) (hw : Jvm.Cond.constant own index v ∈ Ts) (hv : v = Int32.ofInt n) (hd : decode cc pc = .ok (.ldc index, 2)) (k : VV T M nL lv ws ce sl (pc + 2) (iv n :: rest)) : VV T M nL lv ws ce sl pc rest := by
  obtain ⟨p, l, e, R, s, m, args, below, meth, c, Q, A⟩ := M
  obtain ⟨hx, hb, hml, hown, hts, hK, hA, hR, hSX⟩ := hM
  intro ls H locs hl hP hD hS
  subst hv
  exact lv_ldc hx hb hown (hts _ hw) hd (k ls H locs hl hP hD hS)
theorem xr_iload_n (hM : FM T M cc own nL Ts R0) {q : Fin 4} {i : Nat} {x : Int} (j : Nat) (hd : decode cc pc = .ok (.iload_n q, 1)) (hi : (q : Nat) = i) (hj : lv[j]? = some (i, iv x)) (k : VV T M nL lv ws ce sl (pc + 1) (iv x :: rest)) : VV T M nL lv ws ce sl pc rest := by
  obtain ⟨p, l, e, R, s, m, args, below, meth, c, Q, A⟩ := M
  obtain ⟨hx, hb, hml, hown, hts, hK, hA, hR, hSX⟩ := hM
  intro ls H locs hl hP hD hS
  exact lv_iload_n hx hb hd hi (lv_at hl j hj) (k ls H locs hl hP hD hS)
theorem xr_iload (hM : FM T M cc own nL Ts R0) {i : Nat} {x : Int} (j : Nat) (hd : decode cc pc = .ok (.iload i, 2)) (hj : lv[j]? = some (i, iv x)) (k : VV T M nL lv ws ce sl (pc + 2) (iv x :: rest)) : VV T M nL lv ws ce sl pc rest := by
  obtain ⟨p, l, e, R, s, m, args, below, meth, c, Q, A⟩ := M
  obtain ⟨hx, hb, hml, hown, hts, hK, hA, hR, hSX⟩ := hM
  intro ls H locs hl hP hD hS
  exact lv_iload hx hb hd (lv_at hl j hj) (k ls H locs hl hP hD hS)
theorem xr_aload_n (hM : FM T M cc own nL Ts R0) {q : Fin 4} {i a : Nat} (j : Nat) (hd : decode cc pc = .ok (.aload_n q, 1)) (hi : (q : Nat) = i) (hj : lv[j]? = some (i, .ref a)) (k : VV T M nL lv ws ce sl (pc + 1) (.ref a :: rest)) : VV T M nL lv ws ce sl pc rest := by
  obtain ⟨p, l, e, R, s, m, args, below, meth, c, Q, A⟩ := M
  obtain ⟨hx, hb, hml, hown, hts, hK, hA, hR, hSX⟩ := hM
  intro ls H locs hl hP hD hS
  exact lv_aload_n hx hb hd hi (lv_at hl j hj) (k ls H locs hl hP hD hS)
theorem xr_aload (hM : FM T M cc own nL Ts R0) {i a : Nat} (j : Nat) (hd : decode cc pc = .ok (.aload i, 2)) (hj : lv[j]? = some (i, .ref a)) (k : VV T M nL lv ws ce sl (pc + 2) (.ref a :: rest)) : VV T M nL lv ws ce sl pc rest := by
  obtain ⟨p, l, e, R, s, m, args, below, meth, c, Q, A⟩ := M
  obtain ⟨hx, hb, hml, hown, hts, hK, hA, hR, hSX⟩ := hM
  intro ls H locs hl hP hD hS
  exact lv_aload hx hb hd (lv_at hl j hj) (k ls H locs hl hP hD hS)
theorem xr_istore_n (hM : FM T M cc own nL Ts R0) {q : Fin 4} {i : Nat} {x : Int} (hd : decode cc pc = .ok (.istore_n q, 1)) (hi : (q : Nat) = i) (hn : i < nL) (hc : lv.all (fun q => q.2.category == 1) = true) (hs : setL lv i (iv x) = lv') (k : VV T M nL lv' ws ce sl (pc + 1) rest) : VV T M nL lv ws ce sl pc (iv x :: rest) := by
  obtain ⟨p, l, e, R, s, m, args, below, meth, c, Q, A⟩ := M
  obtain ⟨hx, hb, hml, hown, hts, hK, hA, hR, hSX⟩ := hM
  intro ls H locs hl hP hD hS
  subst hs
  exact lv_istore_n hx hb hd hi hl hn rfl (fun ls1 h1 => k ls1 H locs (lv_setL hc h1) hP hD hS)
theorem xr_istore (hM : FM T M cc own nL Ts R0) {i : Nat} {x : Int} (hd : decode cc pc = .ok (.istore i, 2)) (hn : i < nL) (hc : lv.all (fun q => q.2.category == 1) = true) (hs : setL lv i (iv x) = lv') (k : VV T M nL lv' ws ce sl (pc + 2) rest) : VV T M nL lv ws ce sl pc (iv x :: rest) := by
  obtain ⟨p, l, e, R, s, m, args, below, meth, c, Q, A⟩ := M
  obtain ⟨hx, hb, hml, hown, hts, hK, hA, hR, hSX⟩ := hM
  intro ls H locs hl hP hD hS
  subst hs
  exact lv_istore hx hb hd hl hn rfl (fun ls1 h1 => k ls1 H locs (lv_setL hc h1) hP hD hS)
theorem xr_astore_n (hM : FM T M cc own nL Ts R0) {q : Fin 4} {i a : Nat} (hd : decode cc pc = .ok (.astore_n q, 1)) (hi : (q : Nat) = i) (hn : i < nL) (hc : lv.all (fun q => q.2.category == 1) = true) (hs : setL lv i (.ref a) = lv') (k : VV T M nL lv' ws ce sl (pc + 1) rest) : VV T M nL lv ws ce sl pc (.ref a :: rest) := by
  obtain ⟨p, l, e, R, s, m, args, below, meth, c, Q, A⟩ := M
  obtain ⟨hx, hb, hml, hown, hts, hK, hA, hR, hSX⟩ := hM
  intro ls H locs hl hP hD hS
  subst hs
  exact lv_astore_n hx hb hd hi hl hn rfl (fun ls1 h1 => k ls1 H locs (lv_setL hc h1) hP hD hS)
theorem xr_iinc (hM : FM T M cc own nL Ts R0) {i : Nat} {x n : Int} (j : Nat) (hd : decode cc pc = .ok (.iinc i n, 3)) (hj : lv[j]? = some (i, iv x)) (hn : i < nL) (hc : lv.all (fun q => q.2.category == 1) = true) (hs : setL lv i (iv (x + n)) = lv') (k : VV T M nL lv' ws ce sl (pc + 3) rest) : VV T M nL lv ws ce sl pc rest := by
  obtain ⟨p, l, e, R, s, m, args, below, meth, c, Q, A⟩ := M
  obtain ⟨hx, hb, hml, hown, hts, hK, hA, hR, hSX⟩ := hM
  intro ls H locs hl hP hD hS
  subst hs
  exact lv_iinc hx hb hd hl hj (Int32.ofInt_add x n).symm hn rfl (fun ls1 h1 => k ls1 H locs (lv_setL hc h1) hP hD hS)
theorem xr_iadd (hM : FM T M cc own nL Ts R0) {x y : Int} (hd : decode cc pc = .ok (.iadd, 1)) (k : VV T M nL lv ws ce sl (pc + 1) (iv (x + y) :: rest)) : VV T M nL lv ws ce sl pc (iv y :: iv x :: rest) := by
  obtain ⟨p, l, e, R, s, m, args, below, meth, c, Q, A⟩ := M
  obtain ⟨hx, hb, hml, hown, hts, hK, hA, hR, hSX⟩ := hM
  intro ls H locs hl hP hD hS
  have k1 := k ls H locs hl hP hD hS
  rw [iv, Int32.ofInt_add] at k1
  exact lv_iadd hx hb hd k1
theorem xr_isub (hM : FM T M cc own nL Ts R0) {x y : Int} (hd : decode cc pc = .ok (.isub, 1)) (k : VV T M nL lv ws ce sl (pc + 1) (iv (x - y) :: rest)) : VV T M nL lv ws ce sl pc (iv y :: iv x :: rest) := by
  obtain ⟨p, l, e, R, s, m, args, below, meth, c, Q, A⟩ := M
  obtain ⟨hx, hb, hml, hown, hts, hK, hA, hR, hSX⟩ := hM
  intro ls H locs hl hP hD hS
  have k1 := k ls H locs hl hP hD hS
  rw [iv, Int32.ofInt_sub] at k1
  exact lv_isub hx hb hd k1
theorem xr_imul (hM : FM T M cc own nL Ts R0) {x y : Int} (hd : decode cc pc = .ok (.imul, 1)) (k : VV T M nL lv ws ce sl (pc + 1) (iv (x * y) :: rest)) : VV T M nL lv ws ce sl pc (iv y :: iv x :: rest) := by
  obtain ⟨p, l, e, R, s, m, args, below, meth, c, Q, A⟩ := M
  obtain ⟨hx, hb, hml, hown, hts, hK, hA, hR, hSX⟩ := hM
  intro ls H locs hl hP hD hS
  have k1 := k ls H locs hl hP hD hS
  rw [iv, Int32.ofInt_mul] at k1
  exact lv_imul hx hb hd k1
theorem xr_ineg (hM : FM T M cc own nL Ts R0) {x : Int} (hd : decode cc pc = .ok (.ineg, 1)) (k : VV T M nL lv ws ce sl (pc + 1) (iv (-x) :: rest)) : VV T M nL lv ws ce sl pc (iv x :: rest) := by
  obtain ⟨p, l, e, R, s, m, args, below, meth, c, Q, A⟩ := M
  obtain ⟨hx, hb, hml, hown, hts, hK, hA, hR, hSX⟩ := hM
  intro ls H locs hl hP hD hS
  have k1 := k ls H locs hl hP hD hS
  rw [iv, Int32.ofInt_neg] at k1
  exact lv_ineg hx hb hd k1
theorem xr_idiv (hM : FM T M cc own nL Ts R0) {x y : Int} (hd : decode cc pc = .ok (.idiv, 1)) (h : (0 ≤ x ∧ x < 2147483648) ∧ 0 < y ∧ y < 2147483648) (k : VV T M nL lv ws ce sl (pc + 1) (iv (x / y) :: rest)) : VV T M nL lv ws ce sl pc (iv y :: iv x :: rest) := by
  obtain ⟨p, l, e, R, s, m, args, below, meth, c, Q, A⟩ := M
  obtain ⟨hx, hb, hml, hown, hts, hK, hA, hR, hSX⟩ := hM
  intro ls H locs hl hP hD hS
  have k1 := k ls H locs hl hP hD hS
  rw [iv, ← xi_div h] at k1
  exact lv_idiv hx hb hd (fun h9 => by have h8 := (xi_e0 (by omega)).mp h9; omega) k1
theorem xr_irem (hM : FM T M cc own nL Ts R0) {x y : Int} (hd : decode cc pc = .ok (.irem, 1)) (h : (0 ≤ x ∧ x < 2147483648) ∧ 0 < y ∧ y < 2147483648) (k : VV T M nL lv ws ce sl (pc + 1) (iv (x % y) :: rest)) : VV T M nL lv ws ce sl pc (iv y :: iv x :: rest) := by
  obtain ⟨p, l, e, R, s, m, args, below, meth, c, Q, A⟩ := M
  obtain ⟨hx, hb, hml, hown, hts, hK, hA, hR, hSX⟩ := hM
  intro ls H locs hl hP hD hS
  have k1 := k ls H locs hl hP hD hS
  have e : x % y = x - x / y * y := by rw [Int.emod_def, Int.mul_comm]
  rw [iv, e, Int32.ofInt_sub, Int32.ofInt_mul, ← xi_div h] at k1
  exact lv_irem hx hb hd (fun h9 => by have h8 := (xi_e0 (by omega)).mp h9; omega) k1
theorem xr_dup (hM : FM T M cc own nL Ts R0) {v : Value} (hd : decode cc pc = .ok (.dup, 1)) (hv : v.category = 1) (k : VV T M nL lv ws ce sl (pc + 1) (v :: v :: rest)) : VV T M nL lv ws ce sl pc (v :: rest) := by
  obtain ⟨p, l, e, R, s, m, args, below, meth, c, Q, A⟩ := M
  obtain ⟨hx, hb, hml, hown, hts, hK, hA, hR, hSX⟩ := hM
  intro ls H locs hl hP hD hS
  exact lv_dup hx hb hd hv (k ls H locs hl hP hD hS)
theorem xr_dup2 (hM : FM T M cc own nL Ts R0) {v w : Value} (hd : decode cc pc = .ok (.dup2, 1)) (hv : v.category = 1) (hw : w.category = 1) (k : VV T M nL lv ws ce sl (pc + 1) (v :: w :: v :: w :: rest)) : VV T M nL lv ws ce sl pc (v :: w :: rest) := by
  obtain ⟨p, l, e, R, s, m, args, below, meth, c, Q, A⟩ := M
  obtain ⟨hx, hb, hml, hown, hts, hK, hA, hR, hSX⟩ := hM
  intro ls H locs hl hP hD hS
  exact lv_dup2_11 hx hb hd hv hw (k ls H locs hl hP hD hS)
theorem xr_pop (hM : FM T M cc own nL Ts R0) {v : Value} (hd : decode cc pc = .ok (.pop, 1)) (hv : v.category = 1) (k : VV T M nL lv ws ce sl (pc + 1) rest) : VV T M nL lv ws ce sl pc (v :: rest) := by
  obtain ⟨p, l, e, R, s, m, args, below, meth, c, Q, A⟩ := M
  obtain ⟨hx, hb, hml, hown, hts, hK, hA, hR, hSX⟩ := hM
  intro ls H locs hl hP hD hS
  exact lv_pop hx hb hd hv (k ls H locs hl hP hD hS)
theorem xr_goto (hM : FM T M cc own nL Ts R0) {off : Int} (tgt : Nat) (hd : decode cc pc = .ok (.goto off, 3)) (ht : (pc : Int) + off = (tgt : Int)) (k : VV T M nL lv ws ce sl tgt rest) : VV T M nL lv ws ce sl pc rest := by
  obtain ⟨p, l, e, R, s, m, args, below, meth, c, Q, A⟩ := M
  obtain ⟨hx, hb, hml, hown, hts, hK, hA, hR, hSX⟩ := hM
  intro ls H locs hl hP hD hS
  exact lv_goto hx hb hd ht (k ls H locs hl hP hD hS)
theorem xr_ifnonnull (hM : FM T M cc own nL Ts R0) {off : Int} {a : Nat} (tgt : Nat) (hd : decode cc pc = .ok (.ifnonnull off, 3)) (ht : (pc : Int) + off = (tgt : Int)) (k : VV T M nL lv ws ce sl tgt rest) : VV T M nL lv ws ce sl pc (.ref a :: rest) := by
  obtain ⟨p, l, e, R, s, m, args, below, meth, c, Q, A⟩ := M
  obtain ⟨hx, hb, hml, hown, hts, hK, hA, hR, hSX⟩ := hM
  intro ls H locs hl hP hD hS
  exact lv_ifnonnull hx hb hd ht (k ls H locs hl hP hD hS)
theorem xr_icmp_eq (hM : FM T M cc own nL Ts R0) {x y off : Int} (tgt : Nat) (hd : decode cc pc = .ok (.if_icmp .eq off, 3)) (ht : (pc : Int) + off = (tgt : Int)) (h : (-2147483648 ≤ x ∧ x < 2147483648) ∧ -2147483648 ≤ y ∧ y < 2147483648) (kt : x = y → VV T M nL lv ws ce sl tgt rest) (kf : x ≠ y → VV T M nL lv ws ce sl (pc + 3) rest) : VV T M nL lv ws ce sl pc (iv y :: iv x :: rest) := by
  obtain ⟨p, l, e, R, s, m, args, below, meth, c, Q, A⟩ := M
  obtain ⟨hx, hb, hml, hown, hts, hK, hA, hR, hSX⟩ := hM
  intro ls H locs hl hP hD hS
  exact lv_icmp_eq hx hb hd ht (fun q => kt ((fun q => (xi_eq h).mp q) q) ls H locs hl hP hD hS) (fun q => kf ((fun q => by have q1 := mt (xi_eq h).mpr q; omega) q) ls H locs hl hP hD hS)
theorem xr_icmp_ne (hM : FM T M cc own nL Ts R0) {x y off : Int} (tgt : Nat) (hd : decode cc pc = .ok (.if_icmp .ne off, 3)) (ht : (pc : Int) + off = (tgt : Int)) (h : (-2147483648 ≤ x ∧ x < 2147483648) ∧ -2147483648 ≤ y ∧ y < 2147483648) (kt : x ≠ y → VV T M nL lv ws ce sl tgt rest) (kf : x = y → VV T M nL lv ws ce sl (pc + 3) rest) : VV T M nL lv ws ce sl pc (iv y :: iv x :: rest) := by
  obtain ⟨p, l, e, R, s, m, args, below, meth, c, Q, A⟩ := M
  obtain ⟨hx, hb, hml, hown, hts, hK, hA, hR, hSX⟩ := hM
  intro ls H locs hl hP hD hS
  exact lv_icmp_ne hx hb hd ht (fun q => kt ((fun q => by have q1 := mt (xi_eq h).mpr q; exact q1) q) ls H locs hl hP hD hS) (fun q => kf ((fun q => (xi_eq h).mp q) q) ls H locs hl hP hD hS)
theorem xr_icmp_lt (hM : FM T M cc own nL Ts R0) {x y off : Int} (tgt : Nat) (hd : decode cc pc = .ok (.if_icmp .lt off, 3)) (ht : (pc : Int) + off = (tgt : Int)) (h : (-2147483648 ≤ x ∧ x < 2147483648) ∧ -2147483648 ≤ y ∧ y < 2147483648) (kt : x < y → VV T M nL lv ws ce sl tgt rest) (kf : y ≤ x → VV T M nL lv ws ce sl (pc + 3) rest) : VV T M nL lv ws ce sl pc (iv y :: iv x :: rest) := by
  obtain ⟨p, l, e, R, s, m, args, below, meth, c, Q, A⟩ := M
  obtain ⟨hx, hb, hml, hown, hts, hK, hA, hR, hSX⟩ := hM
  intro ls H locs hl hP hD hS
  exact lv_icmp_lt hx hb hd ht (fun q => kt ((fun q => (xi_lt h).mp q) q) ls H locs hl hP hD hS) (fun q => kf ((fun q => by have q1 := mt (xi_lt h).mpr q; omega) q) ls H locs hl hP hD hS)
theorem xr_icmp_ge (hM : FM T M cc own nL Ts R0) {x y off : Int} (tgt : Nat) (hd : decode cc pc = .ok (.if_icmp .ge off, 3)) (ht : (pc : Int) + off = (tgt : Int)) (h : (-2147483648 ≤ x ∧ x < 2147483648) ∧ -2147483648 ≤ y ∧ y < 2147483648) (kt : y ≤ x → VV T M nL lv ws ce sl tgt rest) (kf : x < y → VV T M nL lv ws ce sl (pc + 3) rest) : VV T M nL lv ws ce sl pc (iv y :: iv x :: rest) := by
  obtain ⟨p, l, e, R, s, m, args, below, meth, c, Q, A⟩ := M
  obtain ⟨hx, hb, hml, hown, hts, hK, hA, hR, hSX⟩ := hM
  intro ls H locs hl hP hD hS
  exact lv_icmp_ge hx hb hd ht (fun q => kt ((fun q => (xi_le ⟨h.2, h.1⟩).mp q) q) ls H locs hl hP hD hS) (fun q => kf ((fun q => by have q1 := mt (xi_le ⟨h.2, h.1⟩).mpr q; omega) q) ls H locs hl hP hD hS)
theorem xr_icmp_gt (hM : FM T M cc own nL Ts R0) {x y off : Int} (tgt : Nat) (hd : decode cc pc = .ok (.if_icmp .gt off, 3)) (ht : (pc : Int) + off = (tgt : Int)) (h : (-2147483648 ≤ x ∧ x < 2147483648) ∧ -2147483648 ≤ y ∧ y < 2147483648) (kt : y < x → VV T M nL lv ws ce sl tgt rest) (kf : x ≤ y → VV T M nL lv ws ce sl (pc + 3) rest) : VV T M nL lv ws ce sl pc (iv y :: iv x :: rest) := by
  obtain ⟨p, l, e, R, s, m, args, below, meth, c, Q, A⟩ := M
  obtain ⟨hx, hb, hml, hown, hts, hK, hA, hR, hSX⟩ := hM
  intro ls H locs hl hP hD hS
  exact lv_icmp_gt hx hb hd ht (fun q => kt ((fun q => (xi_lt ⟨h.2, h.1⟩).mp q) q) ls H locs hl hP hD hS) (fun q => kf ((fun q => by have q1 := mt (xi_lt ⟨h.2, h.1⟩).mpr q; omega) q) ls H locs hl hP hD hS)
theorem xr_icmp_le (hM : FM T M cc own nL Ts R0) {x y off : Int} (tgt : Nat) (hd : decode cc pc = .ok (.if_icmp .le off, 3)) (ht : (pc : Int) + off = (tgt : Int)) (h : (-2147483648 ≤ x ∧ x < 2147483648) ∧ -2147483648 ≤ y ∧ y < 2147483648) (kt : x ≤ y → VV T M nL lv ws ce sl tgt rest) (kf : y < x → VV T M nL lv ws ce sl (pc + 3) rest) : VV T M nL lv ws ce sl pc (iv y :: iv x :: rest) := by
  obtain ⟨p, l, e, R, s, m, args, below, meth, c, Q, A⟩ := M
  obtain ⟨hx, hb, hml, hown, hts, hK, hA, hR, hSX⟩ := hM
  intro ls H locs hl hP hD hS
  exact lv_icmp_le hx hb hd ht (fun q => kt ((fun q => (xi_le h).mp q) q) ls H locs hl hP hD hS) (fun q => kf ((fun q => by have q1 := mt (xi_le h).mpr q; omega) q) ls H locs hl hP hD hS)
theorem xr_if_eq (hM : FM T M cc own nL Ts R0) {x off : Int} (tgt : Nat) (hd : decode cc pc = .ok (.ifCond .eq off, 3)) (ht : (pc : Int) + off = (tgt : Int)) (h : -2147483648 ≤ x ∧ x < 2147483648) (kt : x = 0 → VV T M nL lv ws ce sl tgt rest) (kf : x ≠ 0 → VV T M nL lv ws ce sl (pc + 3) rest) : VV T M nL lv ws ce sl pc (iv x :: rest) := by
  obtain ⟨p, l, e, R, s, m, args, below, meth, c, Q, A⟩ := M
  obtain ⟨hx, hb, hml, hown, hts, hK, hA, hR, hSX⟩ := hM
  intro ls H locs hl hP hD hS
  exact lv_if_eq hx hb hd ht (fun q => kt ((fun q => (xi_e0 h).mp q) q) ls H locs hl hP hD hS) (fun q => kf ((fun q => by have q1 := mt (xi_e0 h).mpr q; omega) q) ls H locs hl hP hD hS)
theorem xr_if_ne (hM : FM T M cc own nL Ts R0) {x off : Int} (tgt : Nat) (hd : decode cc pc = .ok (.ifCond .ne off, 3)) (ht : (pc : Int) + off = (tgt : Int)) (h : -2147483648 ≤ x ∧ x < 2147483648) (kt : x ≠ 0 → VV T M nL lv ws ce sl tgt rest) (kf : x = 0 → VV T M nL lv ws ce sl (pc + 3) rest) : VV T M nL lv ws ce sl pc (iv x :: rest) := by
  obtain ⟨p, l, e, R, s, m, args, below, meth, c, Q, A⟩ := M
  obtain ⟨hx, hb, hml, hown, hts, hK, hA, hR, hSX⟩ := hM
  intro ls H locs hl hP hD hS
  exact lv_if_ne hx hb hd ht (fun q => kt ((fun q => by have q1 := mt (xi_e0 h).mpr q; exact q1) q) ls H locs hl hP hD hS) (fun q => kf ((fun q => (xi_e0 h).mp q) q) ls H locs hl hP hD hS)
theorem xr_if_lt (hM : FM T M cc own nL Ts R0) {x off : Int} (tgt : Nat) (hd : decode cc pc = .ok (.ifCond .lt off, 3)) (ht : (pc : Int) + off = (tgt : Int)) (h : -2147483648 ≤ x ∧ x < 2147483648) (kt : x < 0 → VV T M nL lv ws ce sl tgt rest) (kf : 0 ≤ x → VV T M nL lv ws ce sl (pc + 3) rest) : VV T M nL lv ws ce sl pc (iv x :: rest) := by
  obtain ⟨p, l, e, R, s, m, args, below, meth, c, Q, A⟩ := M
  obtain ⟨hx, hb, hml, hown, hts, hK, hA, hR, hSX⟩ := hM
  intro ls H locs hl hP hD hS
  exact lv_if_lt hx hb hd ht (fun q => kt ((fun q => (@xi_lt x 0 ⟨h, by omega⟩).mp q) q) ls H locs hl hP hD hS) (fun q => kf ((fun q => by have q1 := mt (@xi_lt x 0 ⟨h, by omega⟩).mpr q; omega) q) ls H locs hl hP hD hS)
theorem xr_if_ge (hM : FM T M cc own nL Ts R0) {x off : Int} (tgt : Nat) (hd : decode cc pc = .ok (.ifCond .ge off, 3)) (ht : (pc : Int) + off = (tgt : Int)) (h : -2147483648 ≤ x ∧ x < 2147483648) (kt : 0 ≤ x → VV T M nL lv ws ce sl tgt rest) (kf : x < 0 → VV T M nL lv ws ce sl (pc + 3) rest) : VV T M nL lv ws ce sl pc (iv x :: rest) := by
  obtain ⟨p, l, e, R, s, m, args, below, meth, c, Q, A⟩ := M
  obtain ⟨hx, hb, hml, hown, hts, hK, hA, hR, hSX⟩ := hM
  intro ls H locs hl hP hD hS
  exact lv_if_ge hx hb hd ht (fun q => kt ((fun q => (@xi_le 0 x ⟨by omega, h⟩).mp q) q) ls H locs hl hP hD hS) (fun q => kf ((fun q => by have q1 := mt (@xi_le 0 x ⟨by omega, h⟩).mpr q; omega) q) ls H locs hl hP hD hS)
theorem xr_if_gt (hM : FM T M cc own nL Ts R0) {x off : Int} (tgt : Nat) (hd : decode cc pc = .ok (.ifCond .gt off, 3)) (ht : (pc : Int) + off = (tgt : Int)) (h : -2147483648 ≤ x ∧ x < 2147483648) (kt : 0 < x → VV T M nL lv ws ce sl tgt rest) (kf : x ≤ 0 → VV T M nL lv ws ce sl (pc + 3) rest) : VV T M nL lv ws ce sl pc (iv x :: rest) := by
  obtain ⟨p, l, e, R, s, m, args, below, meth, c, Q, A⟩ := M
  obtain ⟨hx, hb, hml, hown, hts, hK, hA, hR, hSX⟩ := hM
  intro ls H locs hl hP hD hS
  exact lv_if_gt hx hb hd ht (fun q => kt ((fun q => (@xi_lt 0 x ⟨by omega, h⟩).mp q) q) ls H locs hl hP hD hS) (fun q => kf ((fun q => by have q1 := mt (@xi_lt 0 x ⟨by omega, h⟩).mpr q; omega) q) ls H locs hl hP hD hS)
theorem xr_if_le (hM : FM T M cc own nL Ts R0) {x off : Int} (tgt : Nat) (hd : decode cc pc = .ok (.ifCond .le off, 3)) (ht : (pc : Int) + off = (tgt : Int)) (h : -2147483648 ≤ x ∧ x < 2147483648) (kt : x ≤ 0 → VV T M nL lv ws ce sl tgt rest) (kf : 0 < x → VV T M nL lv ws ce sl (pc + 3) rest) : VV T M nL lv ws ce sl pc (iv x :: rest) := by
  obtain ⟨p, l, e, R, s, m, args, below, meth, c, Q, A⟩ := M
  obtain ⟨hx, hb, hml, hown, hts, hK, hA, hR, hSX⟩ := hM
  intro ls H locs hl hP hD hS
  exact lv_if_le hx hb hd ht (fun q => kt ((fun q => (@xi_le x 0 ⟨h, by omega⟩).mp q) q) ls H locs hl hP hD hS) (fun q => kf ((fun q => by have q1 := mt (@xi_le x 0 ⟨h, by omega⟩).mpr q; omega) q) ls H locs hl hP hD hS)
theorem xr_ifb_eq (hM : FM T M cc own nL Ts R0) {P : Prop} [Decidable P] {off : Int} (tgt : Nat) (hd : decode cc pc = .ok (.ifCond .eq off, 3)) (ht : (pc : Int) + off = (tgt : Int)) (kt : ¬ P → VV T M nL lv ws ce sl tgt rest) (kf : P → VV T M nL lv ws ce sl (pc + 3) rest) : VV T M nL lv ws ce sl pc (iv (bi P) :: rest) :=
  xr_if_eq hM tgt hd ht bi_b (fun q => kt (bi_0.mp q)) (fun q => kf (Decidable.not_not.mp (fun h => q (bi_0.mpr h))))
theorem xr_ifb_ne (hM : FM T M cc own nL Ts R0) {P : Prop} [Decidable P] {off : Int} (tgt : Nat) (hd : decode cc pc = .ok (.ifCond .ne off, 3)) (ht : (pc : Int) + off = (tgt : Int)) (kt : P → VV T M nL lv ws ce sl tgt rest) (kf : ¬ P → VV T M nL lv ws ce sl (pc + 3) rest) : VV T M nL lv ws ce sl pc (iv (bi P) :: rest) :=
  xr_if_ne hM tgt hd ht bi_b (fun q => kt (Decidable.not_not.mp (fun h => q (bi_0.mpr h)))) (fun q => kf (bi_0.mp q))
theorem xr_get (hM : FM T M cc own nL Ts R0) {ref C : String} {TT0 : u_T} {N index a : Nat} (ci q0 j : Nat) (hin : ∀ w ∈ u_ws C TT0 N, w ∈ Ts) {fs : List Value} {v : Value} (he : ws[q0]? = some (a, ob ci fs)) (hc : xcl[ci]? = some (C, TT0, N)) (hk : j < N) (hw : Cond.fieldLink own index ref (TT0 j).2.1 (TT0 j).2.2.1 ∈ Ts) (hr : (TT0 j).1 = ref) (hv : fs[j]? = some v) (hd : decode cc pc = .ok (.getfield index, 3))
    (k : VV T M nL lv ws ce sl (pc + 3) (v :: rest)) : VV T M nL lv ws ce sl pc (.ref a :: rest) := by
  obtain ⟨p, l, e, R, s, m, args, below, meth, c, Q, A⟩ := M
  obtain ⟨hx, hb, hml, hown, hts, hK, hA, hR, hSX⟩ := hM
  intro ls H locs hl hP hD hS
  exact va_get hx hb hts hin hown hK hP q0 he hc j hk (hts _ hw) (fun x h9 => by rw [← hr]; exact h9) hv hd (k ls H locs hl hP hD hS)
theorem xr_put (hM : FM T M cc own nL Ts R0) {ref C : String} {TT0 : u_T} {N index a : Nat} (ci q0 j : Nat) (hin : ∀ w ∈ u_ws C TT0 N, w ∈ Ts) (ty0 : Nat → FieldType) (hty : ∀ k, k < N → parseFieldDescriptor (TT0 k).2.2.1 = some (ty0 k)) (hnm : ∀ a, a < N → ∀ b, b < N → a ≠ b → (TT0 a).2.1 ≠ (TT0 b).2.1) {fs : List Value} {x : Int} (he : ws[q0]? = some (a, ob ci fs)) (hc : xcl[ci]? = some (C, TT0, N)) (hk : j < N) (hw : Cond.fieldLink own index ref (TT0 j).2.1 (TT0 j).2.2.1 ∈ Ts) (hr : (TT0 j).1 = ref) (hfin : (TT0 j).2.2.2 = false) (hd0 : ty0 j = .int) (hl0 : j < fs.length) (hs : ws.set q0 (a, ob ci (fs.set j (iv x))) = ws') (hd : decode cc pc = .ok (.putfield index, 3))
    (k : VV T M nL lv ws' ce sl (pc + 3) rest) : VV T M nL lv ws ce sl pc (iv x :: .ref a :: rest) := by
  obtain ⟨p, l, e, R, s, m, args, below, meth, c, Q, A⟩ := M
  obtain ⟨hx, hb, hml, hown, hts, hK, hA, hR, hSX⟩ := hM
  intro ls H locs hl hP hD hS
  subst hs
  exact va_put (ty := .int) hx hb hts hin ty0 hty hnm hown hK hP hD hS q0 he hc j hk (hts _ hw) (fun x h9 => by rw [← hr]; exact h9) hfin (by rw [hty j hk, hd0]) rfl rfl hl0 hd (fun H1 locs1 hP1 hD1 hS1 => k ls H1 locs1 hl hP1 hD1 hS1)
theorem xr_putz (hM : FM T M cc own nL Ts R0) {ref C : String} {TT0 : u_T} {N index a : Nat} (ci q0 j : Nat) (hin : ∀ w ∈ u_ws C TT0 N, w ∈ Ts) (ty0 : Nat → FieldType) (hty : ∀ k, k < N → parseFieldDescriptor (TT0 k).2.2.1 = some (ty0 k)) (hnm : ∀ a, a < N → ∀ b, b < N → a ≠ b → (TT0 a).2.1 ≠ (TT0 b).2.1) {fs : List Value} {x : Int} (hx01 : x = 0 ∨ x = 1) (he : ws[q0]? = some (a, ob ci fs)) (hc : xcl[ci]? = some (C, TT0, N)) (hk : j < N) (hw : Cond.fieldLink own index ref (TT0 j).2.1 (TT0 j).2.2.1 ∈ Ts) (hr : (TT0 j).1 = ref) (hfin : (TT0 j).2.2.2 = false) (hd0 : ty0 j = .boolean) (hl0 : j < fs.length) (hs : ws.set q0 (a, ob ci (fs.set j (iv x))) = ws') (hd : decode cc pc = .ok (.putfield index, 3))
    (k : VV T M nL lv ws' ce sl (pc + 3) rest) : VV T M nL lv ws ce sl pc (iv x :: .ref a :: rest) := by
  obtain ⟨p, l, e, R, s, m, args, below, meth, c, Q, A⟩ := M
  obtain ⟨hx, hb, hml, hown, hts, hK, hA, hR, hSX⟩ := hM
  intro ls H locs hl hP hD hS
  subst hs
  exact va_put (ty := .boolean) hx hb hts hin ty0 hty hnm hown hK hP hD hS q0 he hc j hk (hts _ hw) (fun x h9 => by rw [← hr]; exact h9) hfin (by rw [hty j hk, hd0]) (by rcases hx01 with rfl | rfl <;> rfl) (by rcases hx01 with rfl | rfl <;> rfl) hl0 hd (fun H1 locs1 hP1 hD1 hS1 => k ls H1 locs1 hl hP1 hD1 hS1)
theorem xr_iald (hM : FM T M cc own nL Ts R0) {a n : Nat} {w : Nat → Int} {i : Int} (q0 j : Nat) (he : ws[q0]? = some (a, ia T.2.1 n w)) (hij : i.toNat = j) (hi : 0 ≤ i ∧ i < (n : Int) ∧ i < 2147483648) (hd : decode cc pc = .ok (.iaload, 1))
    (k : VV T M nL lv ws ce sl (pc + 1) (iv (w j) :: rest)) : VV T M nL lv ws ce sl pc (iv i :: .ref a :: rest) := by
  obtain ⟨p, l, e, R, s, m, args, below, meth, c, Q, A⟩ := M
  obtain ⟨hx, hb, hml, hown, hts, hK, hA, hR, hSX⟩ := hM
  intro ls H locs hl hP hD hS
  subst hij
  refine va_iald hx hb hK hP q0 0 he rfl (xi_in hi) hd ?_
  rw [xi_cl ⟨hi.1, hi.2.2⟩]
  exact k ls H locs hl hP hD hS
theorem xr_zald (hM : FM T M cc own nL Ts R0) {a n : Nat} {w : Nat → Int} {i : Int} (q0 j : Nat) (he : ws[q0]? = some (a, ia T.2.2.1 n w)) (hij : i.toNat = j) (hi : 0 ≤ i ∧ i < (n : Int) ∧ i < 2147483648) (hd : decode cc pc = .ok (.baload, 1))
    (k : VV T M nL lv ws ce sl (pc + 1) (iv (w j) :: rest)) : VV T M nL lv ws ce sl pc (iv i :: .ref a :: rest) := by
  obtain ⟨p, l, e, R, s, m, args, below, meth, c, Q, A⟩ := M
  obtain ⟨hx, hb, hml, hown, hts, hK, hA, hR, hSX⟩ := hM
  intro ls H locs hl hP hD hS
  subst hij
  refine va_zald hx hb hK hP q0 1 he rfl (xi_in hi) hd ?_
  rw [xi_cl ⟨hi.1, hi.2.2⟩]
  exact k ls H locs hl hP hD hS
theorem xr_cald (hM : FM T M cc own nL Ts R0) {a n : Nat} {w : Nat → Int} {i : Int} (q0 j : Nat) (he : ws[q0]? = some (a, ia T.2.2.2.1 n w)) (hij : i.toNat = j) (hi : 0 ≤ i ∧ i < (n : Int) ∧ i < 2147483648) (hd : decode cc pc = .ok (.caload, 1))
    (k : VV T M nL lv ws ce sl (pc + 1) (iv (w j) :: rest)) : VV T M nL lv ws ce sl pc (iv i :: .ref a :: rest) := by
  obtain ⟨p, l, e, R, s, m, args, below, meth, c, Q, A⟩ := M
  obtain ⟨hx, hb, hml, hown, hts, hK, hA, hR, hSX⟩ := hM
  intro ls H locs hl hP hD hS
  subst hij
  refine va_cald hx hb hK hP q0 2 he rfl (xi_in hi) hd ?_
  rw [xi_cl ⟨hi.1, hi.2.2⟩]
  exact k ls H locs hl hP hD hS
theorem xr_iast (hM : FM T M cc own nL Ts R0) {a n : Nat} {w : Nat → Int} {i x : Int} (q0 j : Nat) (he : ws[q0]? = some (a, ia T.2.1 n w)) (hij : i.toNat = j) (hi : 0 ≤ i ∧ i < (n : Int) ∧ i < 2147483648) (hd : decode cc pc = .ok (.iastore, 1)) (hs : ws.set q0 (a, ia T.2.1 n (va_up w j x)) = ws')
    (k : VV T M nL lv ws' ce sl (pc + 1) rest) : VV T M nL lv ws ce sl pc (iv x :: iv i :: .ref a :: rest) := by
  obtain ⟨p, l, e, R, s, m, args, below, meth, c, Q, A⟩ := M
  obtain ⟨hx, hb, hml, hown, hts, hK, hA, hR, hSX⟩ := hM
  intro ls H locs hl hP hD hS
  subst hij hs
  refine va_iast hx hb hK hP hD hS q0 0 he rfl (xi_in hi) hd ?_
  rw [xi_cl ⟨hi.1, hi.2.2⟩, xi_upd]
  exact fun H1 locs1 hP1 hD1 hS1 => k ls H1 locs1 hl hP1 hD1 hS1
theorem xr_zast (hM : FM T M cc own nL Ts R0) {a n : Nat} {w : Nat → Int} {i x : Int} (q0 j : Nat) (he : ws[q0]? = some (a, ia T.2.2.1 n w)) (hij : i.toNat = j) (hi : 0 ≤ i ∧ i < (n : Int) ∧ i < 2147483648) (hx01 : x = 0 ∨ x = 1) (hd : decode cc pc = .ok (.bastore, 1)) (hs : ws.set q0 (a, ia T.2.2.1 n (va_up w j x)) = ws')
    (k : VV T M nL lv ws' ce sl (pc + 1) rest) : VV T M nL lv ws ce sl pc (iv x :: iv i :: .ref a :: rest) := by
  obtain ⟨p, l, e, R, s, m, args, below, meth, c, Q, A⟩ := M
  obtain ⟨hx, hb, hml, hown, hts, hK, hA, hR, hSX⟩ := hM
  intro ls H locs hl hP hD hS
  subst hij hs
  refine va_zast hx hb hK hP hD hS q0 1 he rfl (xi_in hi) hd ?_
  have hnar : vp_nar .boolean (Int32.ofInt x) = Int32.ofInt x := by rcases hx01 with rfl | rfl <;> rfl
  rw [xi_cl ⟨hi.1, hi.2.2⟩, hnar, xi_upd]
  exact fun H1 locs1 hP1 hD1 hS1 => k ls H1 locs1 hl hP1 hD1 hS1
theorem xi_char {x : Int} (h : 0 ≤ x ∧ x < 65536) : ((Int32.ofInt x).toUInt32 % 65536).toInt32 = Int32.ofInt x := by
  obtain ⟨n, rfl⟩ := Int.eq_ofNat_of_zero_le h.1
  rw [pk_char]
  have h1 : n < 65536 := by omega
  have h2 : Int32.ofInt (n : Int) = nI n := Int32.ofInt_eq_ofNat
  rw [h2, pk_tn (by omega), Nat.mod_eq_of_lt h1]
theorem xi_charN {x : Int} (h : 0 ≤ x ∧ x < 65536) : vp_nar .char (Int32.ofInt x) = Int32.ofInt x := by
  obtain ⟨n, rfl⟩ := Int.eq_ofNat_of_zero_le h.1
  have h2 : Int32.ofInt (n : Int) = nI n := Int32.ofInt_eq_ofNat
  rw [h2]
  unfold vp_nar
  rw [(pk_charN (by omega)).1]
theorem xr_i2c (hM : FM T M cc own nL Ts R0) {x : Int} (hi : 0 ≤ x ∧ x < 65536) (hd : decode cc pc = .ok (.i2c, 1))
    (k : VV T M nL lv ws ce sl (pc + 1) (iv x :: rest)) : VV T M nL lv ws ce sl pc (iv x :: rest) := by
  obtain ⟨p, l, e, R, s, m, args, below, meth, c, Q, A⟩ := M
  obtain ⟨hx, hb, hml, hown, hts, hK, hA, hR, hSX⟩ := hM
  intro ls H locs hl hP hD hS
  exact lv_i2c hx hb hd (xi_char hi) (k ls H locs hl hP hD hS)
theorem xr_cast (hM : FM T M cc own nL Ts R0) {a n : Nat} {w : Nat → Int} {i x : Int} (q0 j : Nat) (he : ws[q0]? = some (a, ia T.2.2.2.1 n w)) (hij : i.toNat = j) (hi : 0 ≤ i ∧ i < (n : Int) ∧ i < 2147483648) (hx01 : 0 ≤ x ∧ x < 65536) (hd : decode cc pc = .ok (.castore, 1)) (hs : ws.set q0 (a, ia T.2.2.2.1 n (va_up w j x)) = ws')
    (k : VV T M nL lv ws' ce sl (pc + 1) rest) : VV T M nL lv ws ce sl pc (iv x :: iv i :: .ref a :: rest) := by
  obtain ⟨p, l, e, R, s, m, args, below, meth, c, Q, A⟩ := M
  obtain ⟨hx, hb, hml, hown, hts, hK, hA, hR, hSX⟩ := hM
  intro ls H locs hl hP hD hS
  subst hij hs
  refine va_cast hx hb hK hP hD hS q0 2 he rfl (xi_in hi) hd ?_
  rw [xi_cl ⟨hi.1, hi.2.2⟩, xi_charN hx01, xi_upd]
  exact fun H1 locs1 hP1 hD1 hS1 => k ls H1 locs1 hl hP1 hD1 hS1
theorem xr_aald (hM : FM T M cc own nL Ts R0) {a n : Nat} {f : Nat → Option Nat} {i : Int} (q0 : Nat) {b : Nat} (he : ws[q0]? = some (a, qa T.2.2.2.2.1 n f)) (hi : 0 ≤ i ∧ i < (n : Int) ∧ i < 2147483648) (hf : f i.toNat = some b) (hd : decode cc pc = .ok (.aaload, 1))
    (k : VV T M nL lv ws ce sl (pc + 1) (.ref b :: rest)) : VV T M nL lv ws ce sl pc (iv i :: .ref a :: rest) := by
  obtain ⟨p, l, e, R, s, m, args, below, meth, c, Q, A⟩ := M
  obtain ⟨hx, hb, hml, hown, hts, hK, hA, hR, hSX⟩ := hM
  intro ls H locs hl hP hD hS
  refine va_aldq hx hb hK hP q0 3 he rfl (xi_in hi) hd ?_
  rw [xi_cl ⟨hi.1, hi.2.2⟩, hf]
  exact k ls H locs hl hP hD hS
theorem xr_copyi (hM : FM T M cc own nL Ts R0) {index a0 a1 n0 n1 : Nat} {f g : Nat → Int} {sp dp n : Int} (q0 q1 : Nat) (hw1 : Cond.methodLink own index arraycopyName ∈ Ts) (hw2 : Cond.native arraycopyName ∈ Ts) (hw3 : Cond.static arraycopyName ∈ Ts) (hw4 : Cond.initialized "java/lang/System" ∈ Ts)
    (he0 : ws[q0]? = some (a0, ia T.2.1 n0 f)) (he1 : ws[q1]? = some (a1, ia T.2.1 n1 g)) (h : 0 ≤ sp ∧ 0 ≤ dp ∧ 0 ≤ n ∧ sp + n ≤ (n0 : Int) ∧ dp + n ≤ (n1 : Int) ∧ n0 < 2147483648 ∧ n1 < 2147483648) (hfr : 1 ≤ R0.frames) (hlo : (rest.map fun v => v.category).sum + (nativeFrameWords "java/lang/System" "arraycopy" 5 + 11) ≤ R0.locals) (hd : decode cc pc = .ok (.invokestatic index, 3)) (hs : ws.set q1 (a1, ia T.2.1 n1 (va_cpy f g sp.toNat dp.toNat n.toNat)) = ws')
    (k : VV T M nL lv ws' ce sl (pc + 3) rest) : VV T M nL lv ws ce sl pc (iv n :: iv dp :: .ref a1 :: iv sp :: .ref a0 :: rest) := by
  obtain ⟨p, l, e, R, s, m, args, below, meth, c, Q, A⟩ := M
  obtain ⟨hx, hb, hml, hown, hts, hK, hA, hR, hSX⟩ := hM
  intro ls H locs hl hP hD hS
  subst hs
  have e1 := xi_cl (i := sp) (by omega)
  have e2 := xi_cl (i := dp) (by omega)
  have e3 := xi_cl (i := n) (by omega)
  refine va_copyi (ty := .int) hx hb (hml.trans hl.1.symm) hown (hts _ hw1) (hts _ hw2) (hts _ hw3) (hts _ hw4) hK hP hD hS q0 q1 0 0 he0 he1 rfl rfl rfl (fun q9 => by have q8 := (@xi_lt sp 0 ⟨by omega, by omega⟩).mp q9; omega) (fun q9 => by have q8 := (@xi_lt dp 0 ⟨by omega, by omega⟩).mp q9; omega) (fun q9 => by have q8 := (@xi_lt n 0 ⟨by omega, by omega⟩).mp q9; omega) (by rw [e1, e3]; omega) (by rw [e2, e3]; omega) (fun _ _ => rfl) (by rw [hR]; exact hfr) (by rw [hR]; exact hlo) hd ?_
  rw [e1, e2, e3, xi_cpy]
  exact fun H1 locs1 hP1 hD1 hS1 => k ls H1 locs1 hl hP1 hD1 hS1
theorem xr_copyz (hM : FM T M cc own nL Ts R0) {index a0 a1 n0 n1 : Nat} {f g : Nat → Int} {sp dp n : Int} (q0 q1 : Nat) (hw1 : Cond.methodLink own index arraycopyName ∈ Ts) (hw2 : Cond.native arraycopyName ∈ Ts) (hw3 : Cond.static arraycopyName ∈ Ts) (hw4 : Cond.initialized "java/lang/System" ∈ Ts)
    (he0 : ws[q0]? = some (a0, ia T.2.2.1 n0 f)) (he1 : ws[q1]? = some (a1, ia T.2.2.1 n1 g)) (hf01 : ∀ j, f j = 0 ∨ f j = 1) (h : 0 ≤ sp ∧ 0 ≤ dp ∧ 0 ≤ n ∧ sp + n ≤ (n0 : Int) ∧ dp + n ≤ (n1 : Int) ∧ n0 < 2147483648 ∧ n1 < 2147483648) (hfr : 1 ≤ R0.frames) (hlo : (rest.map fun v => v.category).sum + (nativeFrameWords "java/lang/System" "arraycopy" 5 + 11) ≤ R0.locals) (hd : decode cc pc = .ok (.invokestatic index, 3)) (hs : ws.set q1 (a1, ia T.2.2.1 n1 (va_cpy f g sp.toNat dp.toNat n.toNat)) = ws')
    (k : VV T M nL lv ws' ce sl (pc + 3) rest) : VV T M nL lv ws ce sl pc (iv n :: iv dp :: .ref a1 :: iv sp :: .ref a0 :: rest) := by
  obtain ⟨p, l, e, R, s, m, args, below, meth, c, Q, A⟩ := M
  obtain ⟨hx, hb, hml, hown, hts, hK, hA, hR, hSX⟩ := hM
  intro ls H locs hl hP hD hS
  subst hs
  have e1 := xi_cl (i := sp) (by omega)
  have e2 := xi_cl (i := dp) (by omega)
  have e3 := xi_cl (i := n) (by omega)
  refine va_copyi (ty := .boolean) hx hb (hml.trans hl.1.symm) hown (hts _ hw1) (hts _ hw2) (hts _ hw3) (hts _ hw4) hK hP hD hS q0 q1 1 1 he0 he1 rfl rfl rfl (fun q9 => by have q8 := (@xi_lt sp 0 ⟨by omega, by omega⟩).mp q9; omega) (fun q9 => by have q8 := (@xi_lt dp 0 ⟨by omega, by omega⟩).mp q9; omega) (fun q9 => by have q8 := (@xi_lt n 0 ⟨by omega, by omega⟩).mp q9; omega) (by rw [e1, e3]; omega) (by rw [e2, e3]; omega) (fun j _ => by rcases hf01 ((Int32.ofInt sp).toNatClampNeg + j) with q | q <;> rw [q] <;> rfl) (by rw [hR]; exact hfr) (by rw [hR]; exact hlo) hd ?_
  rw [e1, e2, e3, xi_cpy]
  exact fun H1 locs1 hP1 hD1 hS1 => k ls H1 locs1 hl hP1 hD1 hS1
theorem xr_mmax (hM : FM T M cc own nL Ts R0) {index : Nat} {x y : Int} (hw1 : Cond.methodLink own index Lib.Math.max.name ∈ Ts) (hw2 : Cond.static Lib.Math.max.name ∈ Ts) (hw3 : Cond.initialized "java/lang/Math" ∈ Ts) (hw4 : Cond.code Lib.Math.max.name Lib.Math.max.code 2 (some .int) ∈ Ts) (h : (-2147483648 ≤ x ∧ x < 2147483648) ∧ -2147483648 ≤ y ∧ y < 2147483648)
    (hfr : 1 ≤ R0.frames) (hlo : (rest.map fun v => v.category).sum + 13 ≤ R0.locals) (hc1 : ce ≤ R0.cells) (hc2 : sl ≤ R0.slots) (hd : decode cc pc = .ok (.invokestatic index, 3))
    (k : VV T M nL lv ws ce sl (pc + 3) (iv (max x y) :: rest)) : VV T M nL lv ws ce sl pc (iv y :: iv x :: rest) := by
  obtain ⟨p, l, e, R, s, m, args, below, meth, c, Q, A⟩ := M
  obtain ⟨hx, hb, hml, hown, hts, hK, hA, hR, hSX⟩ := hM
  intro ls H locs hl hP hD hS
  refine va_mmax hx hb (hml.trans hl.1.symm) hown (hts _ hw1) (hts _ hw2) (hts _ hw3) (hts _ hw4) (by rw [hR]; exact hfr) (by rw [hR]; exact hlo) (by rw [hR]; exact hc1) (by rw [hR]; exact hc2) hd ?_
  have k1 := k ls H locs hl hP hD hS
  have e : Value.int (if Int32.ofInt x < Int32.ofInt y then Int32.ofInt y else Int32.ofInt x) = iv (max x y) := by
    by_cases q : x < y
    · rw [if_pos ((xi_lt (by omega)).mpr q)]
      show iv y = _
      congr 1
      omega
    · rw [if_neg (fun q9 => q ((xi_lt (by omega)).mp q9))]
      show iv x = _
      congr 1
      omega
  rw [e]
  exact k1
theorem xr_mmin (hM : FM T M cc own nL Ts R0) {index : Nat} {x y : Int} (hw1 : Cond.methodLink own index Lib.Math.min.name ∈ Ts) (hw2 : Cond.static Lib.Math.min.name ∈ Ts) (hw3 : Cond.initialized "java/lang/Math" ∈ Ts) (hw4 : Cond.code Lib.Math.min.name Lib.Math.min.code 2 (some .int) ∈ Ts) (h : (-2147483648 ≤ x ∧ x < 2147483648) ∧ -2147483648 ≤ y ∧ y < 2147483648)
    (hfr : 1 ≤ R0.frames) (hlo : (rest.map fun v => v.category).sum + 13 ≤ R0.locals) (hc1 : ce ≤ R0.cells) (hc2 : sl ≤ R0.slots) (hd : decode cc pc = .ok (.invokestatic index, 3))
    (k : VV T M nL lv ws ce sl (pc + 3) (iv (min x y) :: rest)) : VV T M nL lv ws ce sl pc (iv y :: iv x :: rest) := by
  obtain ⟨p, l, e, R, s, m, args, below, meth, c, Q, A⟩ := M
  obtain ⟨hx, hb, hml, hown, hts, hK, hA, hR, hSX⟩ := hM
  intro ls H locs hl hP hD hS
  refine va_mmin hx hb (hml.trans hl.1.symm) hown (hts _ hw1) (hts _ hw2) (hts _ hw3) (hts _ hw4) (by rw [hR]; exact hfr) (by rw [hR]; exact hlo) (by rw [hR]; exact hc1) (by rw [hR]; exact hc2) hd ?_
  have k1 := k ls H locs hl hP hD hS
  have e : Value.int (if Int32.ofInt y < Int32.ofInt x then Int32.ofInt y else Int32.ofInt x) = iv (min x y) := by
    by_cases q : y < x
    · rw [if_pos ((xi_lt (by omega)).mpr q)]
      show iv y = _
      congr 1
      omega
    · rw [if_neg (fun q9 => q ((xi_lt (by omega)).mp q9))]
      show iv x = _
      congr 1
      omega
  rw [e]
  exact k1
end Rows
