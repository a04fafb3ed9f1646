/-! ===== PURE: the lines of the class ===== -/
abbrev LnS : Type := (Nat → Int) × (Nat → Int) × (Nat → Int) × (Nat → Int) × (Nat → Int) × Int × Int
def gK (x : LnS) : Nat → Int := x.1
def gL (x : LnS) : Nat → Int := x.2.1
def gM (x : LnS) : Nat → Int := x.2.2.1
def gS (x : LnS) : Nat → Int := x.2.2.2.1
def gC (x : LnS) : Nat → Int := x.2.2.2.2.1
def gN (x : LnS) : Int := x.2.2.2.2.2.1
def gW (x : LnS) : Int := x.2.2.2.2.2.2
abbrev WnS : Type := LnS × Int × Int × Int
def pX (X : WnS) : LnS := X.1
def pH (X : WnS) : Int := X.2.1
def pA (X : WnS) : Int := X.2.2.1
def pS (X : WnS) : Int := X.2.2.2
def linE (T : TT) (a : Nat → Nat) (x : LnS) : va_W := [(a 0, ob 1 [.ref (a 1), .ref (a 2), .ref (a 3), .ref (a 4), .ref (a 5), iv (gN x), iv (gW x)]), (a 1, ia T.2.1 100 (gK x)), (a 2, ia T.2.1 100 (gL x)), (a 3, ia T.2.2.1 100 (gM x)), (a 4, ia T.2.1 3 (gS x)), (a 5, ia T.2.1 3 (gC x))]
def winE (T : TT) (a : Nat → Nat) (X : WnS) : va_W := (a 6, ob 3 [.ref (a 0), iv (pH X), iv (pA X), iv (pS X)]) :: linE T a (pX X)
/-- rows of a line, its true height -/
def rowsF (wd len : Int) : Int := if 0 < len ∧ 0 < wd then (len + wd - 1) / wd else 1
def tH (wd kind len : Int) : Int := if kind = 0 then 12 * rowsF wd len + 4 else if kind = 1 then 18 * rowsF wd len + 10 else len + 6
theorem rowsF_b {wd len : Int} (h : (0 ≤ len ∧ len ≤ 400) ∧ 5 ≤ wd ∧ wd ≤ 80) : 1 ≤ rowsF wd len ∧ rowsF wd len ≤ 80 := by
  unfold rowsF
  split
  · rename_i h1
    constructor
    · exact Int.le_ediv_of_mul_le (by omega) (by omega)
    · have h2 : (len + wd - 1) / wd < 81 := Int.ediv_lt_of_lt_mul (by omega) (by omega)
      omega
  · omega
theorem tH_b {wd kind len : Int} (h : (0 ≤ len ∧ len ≤ 400) ∧ 5 ≤ wd ∧ wd ≤ 80) : 6 ≤ tH wd kind len ∧ tH wd kind len ≤ 1450 := by
  have h1 := rowsF_b h
  unfold tH
  split
  · omega
  · split <;> omega
/-- how many lines of a kind are measured, and the sum of their true heights, among the first -/
def cntF (kd ms : Nat → Int) (k : Int) : Nat → Int
  | 0 => 0
  | j + 1 => cntF kd ms k j + (if ms j = 1 ∧ kd j = k then 1 else 0)
def smF (wd : Int) (kd ln ms : Nat → Int) (k : Int) : Nat → Int
  | 0 => 0
  | j + 1 => smF wd kd ln ms k j + (if ms j = 1 ∧ kd j = k then tH wd (kd j) (ln j) else 0)
def WFL (x : LnS) : Prop := (0 ≤ gN x ∧ gN x ≤ 100) ∧ (5 ≤ gW x ∧ gW x ≤ 80) ∧ (∀ i : Nat, (0 ≤ gK x i ∧ gK x i ≤ 2) ∧ (0 ≤ gL x i ∧ gL x i ≤ 400) ∧ (gM x i = 0 ∨ gM x i = 1)) ∧
  (∀ k : Nat, k < 3 → gC x k = cntF (gK x) (gM x) (k : Int) (gN x).toNat ∧ gS x k = smF (gW x) (gK x) (gL x) (gM x) (k : Int) (gN x).toNat)
theorem cntF_b (kd ms : Nat → Int) (k : Int) (n : Nat) : 0 ≤ cntF kd ms k n ∧ cntF kd ms k n ≤ n := by
  induction n with
  | zero => simp [cntF]
  | succ j ih =>
    simp only [cntF]
    split <;> omega
theorem smF_b {wd : Int} (kd ln ms : Nat → Int) (k : Int) (hw : 5 ≤ wd ∧ wd ≤ 80) (hl : ∀ i, 0 ≤ ln i ∧ ln i ≤ 400) (n : Nat) : 6 * cntF kd ms k n ≤ smF wd kd ln ms k n ∧ smF wd kd ln ms k n ≤ 1450 * cntF kd ms k n := by
  induction n with
  | zero => simp [cntF, smF]
  | succ j ih =>
    have h1 := tH_b (kind := kd j) ⟨hl j, hw⟩
    simp only [cntF, smF]
    split <;> omega
theorem WFL.cs {x : LnS} (h : WFL x) {k : Int} (hk : 0 ≤ k ∧ k ≤ 2) : (0 ≤ gC x k.toNat ∧ gC x k.toNat ≤ 100) ∧ 6 * gC x k.toNat ≤ gS x k.toNat ∧ gS x k.toNat ≤ 1450 * gC x k.toNat := by
  obtain ⟨h1, h2, h3, h4⟩ := h
  have e := h4 k.toNat (by omega)
  rw [e.1, e.2]
  have b1 := cntF_b (gK x) (gM x) (k.toNat : Int) (gN x).toNat
  have b2 := smF_b (wd := gW x) (gK x) (gL x) (gM x) (k.toNat : Int) h2 (fun i => (h3 i).2.1) (gN x).toNat
  omega
/-- the guess of a kind; the height of a line; the sum of the first heights -/
def gsF (x : LnS) (k : Int) : Int := if 0 < gC x k.toNat then gS x k.toNat / gC x k.toNat else 20
def htF (x : LnS) (i : Nat) : Int := if gM x i = 1 then tH (gW x) (gK x i) (gL x i) else gsF x (gK x i)
def tpF (x : LnS) : Nat → Int
  | 0 => 0
  | k + 1 => tpF x k + htF x k
theorem gsF_b {x : LnS} (h : WFL x) {k : Int} (hk : 0 ≤ k ∧ k ≤ 2) : 6 ≤ gsF x k ∧ gsF x k ≤ 1450 := by
  have h1 := h.cs hk
  unfold gsF
  split
  · rename_i h2
    constructor
    · exact Int.le_ediv_of_mul_le h2 (by omega)
    · have h3 : gS x k.toNat / gC x k.toNat < 1451 := Int.ediv_lt_of_lt_mul h2 (by omega)
      omega
  · omega
theorem htF_b {x : LnS} (h : WFL x) (i : Nat) : 6 ≤ htF x i ∧ htF x i ≤ 1450 := by
  unfold htF
  split
  · exact tH_b ⟨(h.2.2.1 i).2.1, h.2.1⟩
  · exact gsF_b h (h.2.2.1 i).1
theorem tpF_b {x : LnS} (h : WFL x) (i : Nat) : 6 * (i : Int) ≤ tpF x i ∧ tpF x i ≤ 1450 * (i : Int) := by
  induction i with
  | zero => simp [tpF]
  | succ j ih =>
    have := htF_b h j
    simp only [tpF]
    omega
theorem tpF_mono {x : LnS} (h : WFL x) {i j : Nat} (hij : i ≤ j) : tpF x i ≤ tpF x j := by
  induction j with
  | zero => rw [Nat.le_zero.mp hij]; exact Int.le_refl _
  | succ j ih =>
    rcases Nat.lt_or_ge i (j + 1) with q | q
    · have := ih (by omega)
      have := htF_b h j
      simp only [tpF]
      omega
    · rw [Nat.le_antisymm hij q]; exact Int.le_refl _
/-- the line at a place -/
def laF (x : LnS) (y : Int) : Nat → Nat → Int
  | 0, _ => -100009
  | f + 1, k => if y < tpF x (k + 1) then k else laF x y f (k + 1)
-- changes
def meF (x : LnS) (i : Nat) : LnS := if gM x i = 0 then (gK x, gL x, va_up (gM x) i 1, va_up (gS x) (gK x i).toNat (gS x (gK x i).toNat + tH (gW x) (gK x i) (gL x i)), va_up (gC x) (gK x i).toNat (gC x (gK x i).toNat + 1), gN x, gW x) else x
def fgF (x : LnS) (i : Nat) : LnS := if gM x i = 0 then x else (gK x, gL x, va_up (gM x) i 0, va_up (gS x) (gK x i).toNat (gS x (gK x i).toNat - tH (gW x) (gK x i) (gL x i)), va_up (gC x) (gK x i).toNat (gC x (gK x i).toNat - 1), gN x, gW x)
theorem meF_K (x : LnS) (i : Nat) : gK (meF x i) = gK x := by unfold meF; split <;> rfl
theorem meF_L (x : LnS) (i : Nat) : gL (meF x i) = gL x := by unfold meF; split <;> rfl
theorem meF_N (x : LnS) (i : Nat) : gN (meF x i) = gN x := by unfold meF; split <;> rfl
theorem meF_W (x : LnS) (i : Nat) : gW (meF x i) = gW x := by unfold meF; split <;> rfl
theorem fgF_K (x : LnS) (i : Nat) : gK (fgF x i) = gK x := by unfold fgF; split <;> rfl
theorem fgF_L (x : LnS) (i : Nat) : gL (fgF x i) = gL x := by unfold fgF; split <;> rfl
theorem fgF_N (x : LnS) (i : Nat) : gN (fgF x i) = gN x := by unfold fgF; split <;> rfl
theorem fgF_W (x : LnS) (i : Nat) : gW (fgF x i) = gW x := by unfold fgF; split <;> rfl
theorem meF_M {x : LnS} (h : WFL x) (i : Nat) : gM (meF x i) = va_up (gM x) i 1 := by
  unfold meF
  split
  · rfl
  · rename_i h1
    funext j
    have := (h.2.2.1 i).2.2
    unfold va_up
    split
    · rename_i e; subst e; omega
    · rfl
theorem fgF_M (x : LnS) (i : Nat) : gM (fgF x i) = va_up (gM x) i 0 := by
  unfold fgF
  split
  · rename_i h1
    funext j
    unfold va_up
    split
    · rename_i e; subst e; exact h1
    · rfl
  · rfl
theorem cntF_up (kd ms : Nat → Int) (k v : Int) (i n : Nat) : cntF kd (va_up ms i v) k n = cntF kd ms k n + (if i < n then (if v = 1 ∧ kd i = k then 1 else 0) - (if ms i = 1 ∧ kd i = k then 1 else 0) else 0) := by
  induction n with
  | zero => simp [cntF]
  | succ j ih =>
    simp only [cntF, ih]
    by_cases hij : j = i
    · subst hij
      have e : va_up ms j v j = v := by simp [va_up]
      rw [e]
      simp only [Nat.lt_irrefl, if_false, Nat.lt_succ_self, if_true]
      omega
    · have e : va_up ms i v j = ms j := by simp [va_up, hij]
      rw [e]
      by_cases h1 : i < j
      · have h2 : i < j + 1 := by omega
        simp only [h1, h2, if_true]; omega
      · have h2 : ¬ i < j + 1 := by omega
        simp only [h1, h2, if_false]; omega
theorem smF_up (wd : Int) (kd ln ms : Nat → Int) (k v : Int) (i n : Nat) : smF wd kd ln (va_up ms i v) k n = smF wd kd ln ms k n + (if i < n then (if v = 1 ∧ kd i = k then tH wd (kd i) (ln i) else 0) - (if ms i = 1 ∧ kd i = k then tH wd (kd i) (ln i) else 0) else 0) := by
  induction n with
  | zero => simp [smF]
  | succ j ih =>
    simp only [smF, ih]
    by_cases hij : j = i
    · subst hij
      have e : va_up ms j v j = v := by simp [va_up]
      rw [e]
      simp only [Nat.lt_irrefl, if_false, Nat.lt_succ_self, if_true]
      omega
    · have e : va_up ms i v j = ms j := by simp [va_up, hij]
      rw [e]
      by_cases h1 : i < j
      · have h2 : i < j + 1 := by omega
        simp only [h1, h2, if_true]; omega
      · have h2 : ¬ i < j + 1 := by omega
        simp only [h1, h2, if_false]; omega
theorem WFL_me {x : LnS} (h : WFL x) {i : Nat} (hi : (i : Int) < gN x) : WFL (meF x i) := by
  have hm := meF_M h i
  have h3 := h.2.2.1 i
  refine ⟨by rw [meF_N]; exact h.1, by rw [meF_W]; exact h.2.1, fun j => ?_, fun k hk => ?_⟩
  · rw [meF_K, meF_L, hm]
    refine ⟨(h.2.2.1 j).1, (h.2.2.1 j).2.1, ?_⟩
    unfold va_up
    split
    · exact Or.inr rfl
    · exact (h.2.2.1 j).2.2
  · have h4 := h.2.2.2 k hk
    rw [meF_K, meF_L, meF_N, meF_W, hm, cntF_up, smF_up, ← h4.1, ← h4.2]
    have hlt : i < (gN x).toNat := by omega
    simp only [hlt, if_true]
    unfold meF
    split
    · rename_i h0
      show va_up (gC x) _ _ k = _ ∧ va_up (gS x) _ _ k = _
      unfold va_up
      rw [h0]
      have hkk : (k = (gK x i).toNat) ↔ gK x i = (k : Int) := by omega
      by_cases e : k = (gK x i).toNat
      · subst e
        have e2 := hkk.mp rfl
        simp [e2.symm]
      · have e2 := mt hkk.mpr e
        simp [e, e2]
    · rename_i h0
      have h1 : gM x i = 1 := by omega
      rw [h1]
      simp
theorem WFL_fg {x : LnS} (h : WFL x) {i : Nat} (hi : (i : Int) < gN x) : WFL (fgF x i) := by
  have hm := fgF_M x i
  have h3 := h.2.2.1 i
  refine ⟨by rw [fgF_N]; exact h.1, by rw [fgF_W]; exact h.2.1, fun j => ?_, fun k hk => ?_⟩
  · rw [fgF_K, fgF_L, hm]
    refine ⟨(h.2.2.1 j).1, (h.2.2.1 j).2.1, ?_⟩
    unfold va_up
    split
    · exact Or.inl rfl
    · exact (h.2.2.1 j).2.2
  · have h4 := h.2.2.2 k hk
    rw [fgF_K, fgF_L, fgF_N, fgF_W, hm, cntF_up, smF_up, ← h4.1, ← h4.2]
    have hlt : i < (gN x).toNat := by omega
    simp only [hlt, if_true]
    unfold fgF
    split
    · rename_i h0
      rw [h0]
      simp
    · rename_i h0
      have h1 : gM x i = 1 := by omega
      show va_up (gC x) _ _ k = _ ∧ va_up (gS x) _ _ k = _
      unfold va_up
      rw [h1]
      have hkk : (k = (gK x i).toNat) ↔ gK x i = (k : Int) := by omega
      by_cases e : k = (gK x i).toNat
      · subst e
        have e2 := hkk.mp rfl
        simp [e2.symm]
        constructor <;> omega
      · have e2 := mt hkk.mpr e
        simp [e, e2]
