/-! ===== PURE: the lines of the class ===== -/
abbrev LnS : Type := (Nat → Int) × (Nat → Int) × (Nat → Int) × (Nat → Int) × (Nat → Int) × Int × Int
def gK (x : LnS) : Nat → Int := x.1
def gL (x : LnS) : Nat → Int := x.2.1
def gM (x : LnS) : Nat → Int := x.2.2.1
def gS (x : LnS) : Nat → Int := x.2.2.2.1
def gC (x : LnS) : Nat → Int := x.2.2.2.2.1
def gN (x : LnS) : Int := x.2.2.2.2.2.1
def gW (x : LnS) : Int := x.2.2.2.2.2.2
abbrev WnS : Type := LnS × Int × Int × Int
def pX (X : WnS) : LnS := X.1
def pH (X : WnS) : Int := X.2.1
def pA (X : WnS) : Int := X.2.2.1
def pS (X : WnS) : Int := X.2.2.2
def linE (T : TT) (a : Nat → Nat) (x : LnS) : va_W := [(a 0, ob 1 [.ref (a 1), .ref (a 2), .ref (a 3), .ref (a 4), .ref (a 5), iv (gN x), iv (gW x)]), (a 1, ia T.2.1 100 (gK x)), (a 2, ia T.2.1 100 (gL x)), (a 3, ia T.2.2.1 100 (gM x)), (a 4, ia T.2.1 3 (gS x)), (a 5, ia T.2.1 3 (gC x))]
def winE (T : TT) (a : Nat → Nat) (X : WnS) : va_W := (a 6, ob 3 [.ref (a 0), iv (pH X), iv (pA X), iv (pS X)]) :: linE T a (pX X)
/-- rows of a line, its true height -/
def rowsF (wd len : Int) : Int := if 0 < len ∧ 0 < wd then (len + wd - 1) / wd else 1
def tH (wd kind len : Int) : Int := if kind = 0 then 12 * rowsF wd len + 4 else if kind = 1 then 18 * rowsF wd len + 10 else len + 6
theorem rowsF_b {wd len : Int} (h : (0 ≤ len ∧ len ≤ 400) ∧ 5 ≤ wd ∧ wd ≤ 80) : 1 ≤ rowsF wd len ∧ rowsF wd len ≤ 80 := by
  unfold rowsF
  split
  · rename_i h1
    constructor
    · exact Int.le_ediv_of_mul_le (by omega) (by omega)
    · have h2 : (len + wd - 1) / wd < 81 := Int.ediv_lt_of_lt_mul (by omega) (by omega)
      omega
  · omega
theorem tH_b {wd kind len : Int} (h : (0 ≤ len ∧ len ≤ 400) ∧ 5 ≤ wd ∧ wd ≤ 80) : 6 ≤ tH wd kind len ∧ tH wd kind len ≤ 1450 := by
  have h1 := rowsF_b h
  unfold tH
  split
  · omega
  · split <;> omega
/-- how many lines of a kind are measured, and the sum of their true heights, among the first -/
def cntF (kd ms : Nat → Int) (k : Int) : Nat → Int
  | 0 => 0
  | j + 1 => cntF kd ms k j + (if ms j = 1 ∧ kd j = k then 1 else 0)
def smF (wd : Int) (kd ln ms : Nat → Int) (k : Int) : Nat → Int
  | 0 => 0
  | j + 1 => smF wd kd ln ms k j + (if ms j = 1 ∧ kd j = k then tH wd (kd j) (ln j) else 0)
def WFL (x : LnS) : Prop := (0 ≤ gN x ∧ gN x ≤ 100) ∧ (5 ≤ gW x ∧ gW x ≤ 80) ∧ (∀ i : Nat, (0 ≤ gK x i ∧ gK x i ≤ 2) ∧ (0 ≤ gL x i ∧ gL x i ≤ 400) ∧ (gM x i = 0 ∨ gM x i = 1)) ∧
  (∀ k : Nat, k < 3 → gC x k = cntF (gK x) (gM x) (k : Int) (gN x).toNat ∧ gS x k = smF (gW x) (gK x) (gL x) (gM x) (k : Int) (gN x).toNat)
theorem cntF_b (kd ms : Nat → Int) (k : Int) (n : Nat) : 0 ≤ cntF kd ms k n ∧ cntF kd ms k n ≤ n := by
  induction n with
  | zero => simp [cntF]
  | succ j ih =>
    simp only [cntF]
    split <;> omega
theorem smF_b {wd : Int} (kd ln ms : Nat → Int) (k : Int) (hw : 5 ≤ wd ∧ wd ≤ 80) (hl : ∀ i, 0 ≤ ln i ∧ ln i ≤ 400) (n : Nat) : 6 * cntF kd ms k n ≤ smF wd kd ln ms k n ∧ smF wd kd ln ms k n ≤ 1450 * cntF kd ms k n := by
  induction n with
  | zero => simp [cntF, smF]
  | succ j ih =>
    have h1 := tH_b (kind := kd j) ⟨hl j, hw⟩
    simp only [cntF, smF]
    split <;> omega
theorem WFL.cs {x : LnS} (h : WFL x) {k : Int} (hk : 0 ≤ k ∧ k ≤ 2) : (0 ≤ gC x k.toNat ∧ gC x k.toNat ≤ 100) ∧ 6 * gC x k.toNat ≤ gS x k.toNat ∧ gS x k.toNat ≤ 1450 * gC x k.toNat := by
  obtain ⟨h1, h2, h3, h4⟩ := h
  have e := h4 k.toNat (by omega)
  rw [e.1, e.2]
  have b1 := cntF_b (gK x) (gM x) (k.toNat : Int) (gN x).toNat
  have b2 := smF_b (wd := gW x) (gK x) (gL x) (gM x) (k.toNat : Int) h2 (fun i => (h3 i).2.1) (gN x).toNat
  omega
/-- the guess of a kind; the height of a line; the sum of the first heights -/
def gsF (x : LnS) (k : Int) : Int := if 0 < gC x k.toNat then gS x k.toNat / gC x k.toNat else 20
def htF (x : LnS) (i : Nat) : Int := if gM x i = 1 then tH (gW x) (gK x i) (gL x i) else gsF x (gK x i)
def tpF (x : LnS) : Nat → Int
  | 0 => 0
  | k + 1 => tpF x k + htF x k
theorem gsF_b {x : LnS} (h : WFL x) {k : Int} (hk : 0 ≤ k ∧ k ≤ 2) : 6 ≤ gsF x k ∧ gsF x k ≤ 1450 := by
  have h1 := h.cs hk
  unfold gsF
  split
  · rename_i h2
    constructor
    · exact Int.le_ediv_of_mul_le h2 (by omega)
    · have h3 : gS x k.toNat / gC x k.toNat < 1451 := Int.ediv_lt_of_lt_mul h2 (by omega)
      omega
  · omega
theorem htF_b {x : LnS} (h : WFL x) (i : Nat) : 6 ≤ htF x i ∧ htF x i ≤ 1450 := by
  unfold htF
  split
  · exact tH_b ⟨(h.2.2.1 i).2.1, h.2.1⟩
  · exact gsF_b h (h.2.2.1 i).1
theorem tpF_b {x : LnS} (h : WFL x) (i : Nat) : 6 * (i : Int) ≤ tpF x i ∧ tpF x i ≤ 1450 * (i : Int) := by
  induction i with
  | zero => simp [tpF]
  | succ j ih =>
    have := htF_b h j
    simp only [tpF]
    omega
theorem tpF_mono {x : LnS} (h : WFL x) {i j : Nat} (hij : i ≤ j) : tpF x i ≤ tpF x j := by
  induction j with
  | zero => rw [Nat.le_zero.mp hij]; exact Int.le_refl _
  | succ j ih =>
    rcases Nat.lt_or_ge i (j + 1) with q | q
    · have := ih (by omega)
      have := htF_b h j
      simp only [tpF]
      omega
    · rw [Nat.le_antisymm hij q]; exact Int.le_refl _
/-- the line at a place -/
def laF (x : LnS) (y : Int) : Nat → Nat → Int
  | 0, _ => -100009
  | f + 1, k => if y < tpF x (k + 1) then k else laF x y f (k + 1)
-- changes
def meF (x : LnS) (i : Nat) : LnS := if gM x i = 0 then (gK x, gL x, va_up (gM x) i 1, va_up (gS x) (gK x i).toNat (gS x (gK x i).toNat + tH (gW x) (gK x i) (gL x i)), va_up (gC x) (gK x i).toNat (gC x (gK x i).toNat + 1), gN x, gW x) else x
def fgF (x : LnS) (i : Nat) : LnS := if gM x i = 0 then x else (gK x, gL x, va_up (gM x) i 0, va_up (gS x) (gK x i).toNat (gS x (gK x i).toNat - tH (gW x) (gK x i) (gL x i)), va_up (gC x) (gK x i).toNat (gC x (gK x i).toNat - 1), gN x, gW x)
theorem meF_K (x : LnS) (i : Nat) : gK (meF x i) = gK x := by unfold meF; split <;> rfl
theorem meF_L (x : LnS) (i : Nat) : gL (meF x i) = gL x := by unfold meF; split <;> rfl
theorem meF_N (x : LnS) (i : Nat) : gN (meF x i) = gN x := by unfold meF; split <;> rfl
theorem meF_W (x : LnS) (i : Nat) : gW (meF x i) = gW x := by unfold meF; split <;> rfl
theorem fgF_K (x : LnS) (i : Nat) : gK (fgF x i) = gK x := by unfold fgF; split <;> rfl
theorem fgF_L (x : LnS) (i : Nat) : gL (fgF x i) = gL x := by unfold fgF; split <;> rfl
theorem fgF_N (x : LnS) (i : Nat) : gN (fgF x i) = gN x := by unfold fgF; split <;> rfl
theorem fgF_W (x : LnS) (i : Nat) : gW (fgF x i) = gW x := by unfold fgF; split <;> rfl
theorem meF_M {x : LnS} (h : WFL x) (i : Nat) : gM (meF x i) = va_up (gM x) i 1 := by
  unfold meF
  split
  · rfl
  · rename_i h1
    funext j
    have := (h.2.2.1 i).2.2
    unfold va_up
    split
    · rename_i e; subst e; omega
    · rfl
theorem fgF_M (x : LnS) (i : Nat) : gM (fgF x i) = va_up (gM x) i 0 := by
  unfold fgF
  split
  · rename_i h1
    funext j
    unfold va_up
    split
    · rename_i e; subst e; exact h1
    · rfl
  · rfl
theorem cntF_up (kd ms : Nat → Int) (k v : Int) (i n : Nat) : cntF kd (va_up ms i v) k n = cntF kd ms k n + (if i < n then (if v = 1 ∧ kd i = k then 1 else 0) - (if ms i = 1 ∧ kd i = k then 1 else 0) else 0) := by
  induction n with
  | zero => simp [cntF]
  | succ j ih =>
    simp only [cntF, ih]
    by_cases hij : j = i
    · subst hij
      have e : va_up ms j v j = v := by simp [va_up]
      rw [e]
      simp only [Nat.lt_irrefl, if_false, Nat.lt_succ_self, if_true]
      omega
    · have e : va_up ms i v j = ms j := by simp [va_up, hij]
      rw [e]
      by_cases h1 : i < j
      · have h2 : i < j + 1 := by omega
        simp only [h1, h2, if_true]; omega
      · have h2 : ¬ i < j + 1 := by omega
        simp only [h1, h2, if_false]; omega
theorem smF_up (wd : Int) (kd ln ms : Nat → Int) (k v : Int) (i n : Nat) : smF wd kd ln (va_up ms i v) k n = smF wd kd ln ms k n + (if i < n then (if v = 1 ∧ kd i = k then tH wd (kd i) (ln i) else 0) - (if ms i = 1 ∧ kd i = k then tH wd (kd i) (ln i) else 0) else 0) := by
  induction n with
  | zero => simp [smF]
  | succ j ih =>
    simp only [smF, ih]
    by_cases hij : j = i
    · subst hij
      have e : va_up ms j v j = v := by simp [va_up]
      rw [e]
      simp only [Nat.lt_irrefl, if_false, Nat.lt_succ_self, if_true]
      omega
    · have e : va_up ms i v j = ms j := by simp [va_up, hij]
      rw [e]
      by_cases h1 : i < j
      · have h2 : i < j + 1 := by omega
        simp only [h1, h2, if_true]; omega
      · have h2 : ¬ i < j + 1 := by omega
        simp only [h1, h2, if_false]; omega
theorem WFL_me {x : LnS} (h : WFL x) {i : Nat} (hi : (i : Int) < gN x) : WFL (meF x i) := by
  have hm := meF_M h i
  have h3 := h.2.2.1 i
  refine ⟨by rw [meF_N]; exact h.1, by rw [meF_W]; exact h.2.1, fun j => ?_, fun k hk => ?_⟩
  · rw [meF_K, meF_L, hm]
    refine ⟨(h.2.2.1 j).1, (h.2.2.1 j).2.1, ?_⟩
    unfold va_up
    split
    · exact Or.inr rfl
    · exact (h.2.2.1 j).2.2
  · have h4 := h.2.2.2 k hk
    rw [meF_K, meF_L, meF_N, meF_W, hm, cntF_up, smF_up, ← h4.1, ← h4.2]
    have hlt : i < (gN x).toNat := by omega
    simp only [hlt, if_true]
    unfold meF
    split
    · rename_i h0
      show va_up (gC x) _ _ k = _ ∧ va_up (gS x) _ _ k = _
      unfold va_up
      rw [h0]
      have hkk : (k = (gK x i).toNat) ↔ gK x i = (k : Int) := by omega
      by_cases e : k = (gK x i).toNat
      · subst e
        have e2 := hkk.mp rfl
        simp [e2.symm]
      · have e2 := mt hkk.mpr e
        simp [e, e2]
    · rename_i h0
      have h1 : gM x i = 1 := by omega
      rw [h1]
      simp
theorem WFL_fg {x : LnS} (h : WFL x) {i : Nat} (hi : (i : Int) < gN x) : WFL (fgF x i) := by
  have hm := fgF_M x i
  have h3 := h.2.2.1 i
  refine ⟨by rw [fgF_N]; exact h.1, by rw [fgF_W]; exact h.2.1, fun j => ?_, fun k hk => ?_⟩
  · rw [fgF_K, fgF_L, hm]
    refine ⟨(h.2.2.1 j).1, (h.2.2.1 j).2.1, ?_⟩
    unfold va_up
    split
    · exact Or.inl rfl
    · exact (h.2.2.1 j).2.2
  · have h4 := h.2.2.2 k hk
    rw [fgF_K, fgF_L, fgF_N, fgF_W, hm, cntF_up, smF_up, ← h4.1, ← h4.2]
    have hlt : i < (gN x).toNat := by omega
    simp only [hlt, if_true]
    unfold fgF
    split
    · rename_i h0
      rw [h0]
      simp
    · rename_i h0
      have h1 : gM x i = 1 := by omega
      show va_up (gC x) _ _ k = _ ∧ va_up (gS x) _ _ k = _
      unfold va_up
      rw [h1]
      have hkk : (k = (gK x i).toNat) ↔ gK x i = (k : Int) := by omega
      by_cases e : k = (gK x i).toNat
      · subst e
        have e2 := hkk.mp rfl
        simp [e2.symm]
        constructor <;> omega
      · have e2 := mt hkk.mpr e
        simp [e, e2]
-- sums
def sumN (g : Nat → Int) : Nat → Int
  | 0 => 0
  | j + 1 => sumN g j + g j
theorem sumN_congr (g h : Nat → Int) (n : Nat) (e : ∀ j, j < n → g j = h j) : sumN g n = sumN h n := by
  induction n with
  | zero => rfl
  | succ j ih => simp only [sumN]; rw [ih (fun k hk => e k (by omega)), e j (by omega)]
theorem sumN_ins (g h : Nat → Int) (i n : Nat) (hi : i ≤ n) (h1 : ∀ j, j < i → g j = h j) (h2 : ∀ j, i ≤ j → j < n → g (j + 1) = h j) (h0 : g i = 0) : sumN g (n + 1) = sumN h n := by
  induction n with
  | zero =>
    have : i = 0 := by omega
    subst this
    simp [sumN, h0]
  | succ n ih =>
    by_cases e : i = n + 1
    · subst e
      show sumN g (n + 1) + g (n + 1) = _
      rw [h0, sumN_congr g h (n + 1) h1]
      omega
    · show sumN g (n + 1) + g (n + 1) = sumN h n + h n
      rw [ih (by omega) (fun j a b => h2 j a (by omega)), h2 n (by omega) (by omega)]
theorem cntF_s (kd ms : Nat → Int) (k : Int) (n : Nat) : cntF kd ms k n = sumN (fun j => if ms j = 1 ∧ kd j = k then 1 else 0) n := by
  induction n with
  | zero => rfl
  | succ j ih => simp only [cntF, sumN, ih]
theorem smF_s (wd : Int) (kd ln ms : Nat → Int) (k : Int) (n : Nat) : smF wd kd ln ms k n = sumN (fun j => if ms j = 1 ∧ kd j = k then tH wd (kd j) (ln j) else 0) n := by
  induction n with
  | zero => rfl
  | succ j ih => simp only [smF, sumN, ih]
theorem cp_in {f g : Nat → Int} {sp dp n j : Nat} (h : dp ≤ j) (h2 : j < dp + n) : va_cpy f g sp dp n j = f (sp + (j - dp)) := pk_cpy_in h h2
theorem cp_out {f g : Nat → Int} {sp dp n j : Nat} (h : j < dp ∨ dp + n ≤ j) : va_cpy f g sp dp n j = g j := pk_cpy_out h
theorem cp_any {f g : Nat → Int} {sp dp n j : Nat} (P : Int → Prop) (hf : ∀ k, P (f k)) (hg : ∀ k, P (g k)) : P (va_cpy f g sp dp n j) := by
  unfold va_cpy
  split
  · exact hf _
  · exact hg _
theorem up_any {f : Nat → Int} {k j : Nat} {v : Int} (P : Int → Prop) (hf : ∀ k, P (f k)) (hv : P v) : P (va_up f k v j) := by
  unfold va_up
  split
  · exact hv
  · exact hf _
theorem up_at {f : Nat → Int} {k : Nat} {v : Int} : va_up f k v k = v := if_pos rfl
theorem up_ne {f : Nat → Int} {k j : Nat} {v : Int} (h : j ≠ k) : va_up f k v j = f j := if_neg h
-- a line is put in, taken out
def inF (x : LnS) (i kd ln : Int) : LnS := (va_up (va_cpy (gK x) (gK x) i.toNat (i + 1).toNat (gN x - i).toNat) i.toNat kd, va_up (va_cpy (gL x) (gL x) i.toNat (i + 1).toNat (gN x - i).toNat) i.toNat ln, va_up (va_cpy (gM x) (gM x) i.toNat (i + 1).toNat (gN x - i).toNat) i.toNat 0, gS x, gC x, gN x + 1, gW x)
def rmF (x : LnS) (i : Int) : LnS := (va_cpy (gK (fgF x i.toNat)) (gK (fgF x i.toNat)) (i + 1).toNat i.toNat (gN (fgF x i.toNat) - 1 - i).toNat, va_cpy (gL (fgF x i.toNat)) (gL (fgF x i.toNat)) (i + 1).toNat i.toNat (gN (fgF x i.toNat) - 1 - i).toNat, va_cpy (gM (fgF x i.toNat)) (gM (fgF x i.toNat)) (i + 1).toNat i.toNat (gN (fgF x i.toNat) - 1 - i).toNat, gS (fgF x i.toNat), gC (fgF x i.toNat), gN (fgF x i.toNat) - 1, gW (fgF x i.toNat))
def slF (x : LnS) (i ln : Int) : LnS := (gK (fgF x i.toNat), va_up (gL (fgF x i.toNat)) i.toNat ln, gM (fgF x i.toNat), gS (fgF x i.toNat), gC (fgF x i.toNat), gN (fgF x i.toNat), gW (fgF x i.toNat))
def fgA (x : LnS) : Nat → LnS
  | 0 => x
  | k + 1 => fgF (fgA x k) k
def faF (x : LnS) (w : Int) : LnS := (gK (fgA x (gN x).toNat), gL (fgA x (gN x).toNat), gM (fgA x (gN x).toNat), gS (fgA x (gN x).toNat), gC (fgA x (gN x).toNat), gN (fgA x (gN x).toNat), w)
theorem inF_N (x : LnS) (i kd ln : Int) : gN (inF x i kd ln) = gN x + 1 := rfl
theorem inF_W (x : LnS) (i kd ln : Int) : gW (inF x i kd ln) = gW x := rfl
theorem rmF_N (x : LnS) (i : Int) : gN (rmF x i) = gN x - 1 := by show gN (fgF x i.toNat) - 1 = _; rw [fgF_N]
theorem rmF_W (x : LnS) (i : Int) : gW (rmF x i) = gW x := fgF_W x i.toNat
theorem slF_N (x : LnS) (i ln : Int) : gN (slF x i ln) = gN x := fgF_N x i.toNat
theorem slF_W (x : LnS) (i ln : Int) : gW (slF x i ln) = gW x := fgF_W x i.toNat
theorem fgA_K (x : LnS) (k : Nat) : gK (fgA x k) = gK x := by
  induction k with
  | zero => rfl
  | succ k ih => rw [fgA, fgF_K, ih]
theorem fgA_L (x : LnS) (k : Nat) : gL (fgA x k) = gL x := by
  induction k with
  | zero => rfl
  | succ k ih => rw [fgA, fgF_L, ih]
theorem fgA_N (x : LnS) (k : Nat) : gN (fgA x k) = gN x := by
  induction k with
  | zero => rfl
  | succ k ih => rw [fgA, fgF_N, ih]
theorem fgA_W (x : LnS) (k : Nat) : gW (fgA x k) = gW x := by
  induction k with
  | zero => rfl
  | succ k ih => rw [fgA, fgF_W, ih]
theorem fgA_M (x : LnS) (k j : Nat) : gM (fgA x k) j = if j < k then 0 else gM x j := by
  induction k with
  | zero => simp [fgA]
  | succ k ih =>
    rw [fgA, fgF_M]
    unfold va_up
    by_cases e : j = k
    · subst e; simp
    · rw [if_neg e, ih]
      by_cases h : j < k
      · rw [if_pos h, if_pos (by omega)]
      · rw [if_neg h, if_neg (by omega)]
theorem WFL_fgA {x : LnS} (h : WFL x) (k : Nat) (hk : (k : Int) ≤ gN x) : WFL (fgA x k) := by
  induction k with
  | zero => exact h
  | succ k ih => exact WFL_fg (ih (by omega)) (by rw [fgA_N]; omega)
theorem WFL_in {x : LnS} (h : WFL x) {i kd ln : Int} (hi : 0 ≤ i ∧ i ≤ gN x) (hn : gN x < 100) (hk : 0 ≤ kd ∧ kd ≤ 2) (hl : 0 ≤ ln ∧ ln ≤ 400) : WFL (inF x i kd ln) := by
  refine ⟨by rw [inF_N]; have := h.1; omega, h.2.1, fun j => ⟨?_, ?_, ?_⟩, fun k hk3 => ?_⟩
  · exact up_any (fun z => 0 ≤ z ∧ z ≤ 2) (fun _ => cp_any (fun z => 0 ≤ z ∧ z ≤ 2) (fun j => (h.2.2.1 j).1) (fun j => (h.2.2.1 j).1)) hk
  · exact up_any (fun z => 0 ≤ z ∧ z ≤ 400) (fun _ => cp_any (fun z => 0 ≤ z ∧ z ≤ 400) (fun j => (h.2.2.1 j).2.1) (fun j => (h.2.2.1 j).2.1)) hl
  · exact up_any (fun z => z = 0 ∨ z = 1) (fun _ => cp_any (fun z => z = 0 ∨ z = 1) (fun j => (h.2.2.1 j).2.2) (fun j => (h.2.2.1 j).2.2)) (Or.inl rfl)
  · have h4 := h.2.2.2 k hk3
    have hN : (gN (inF x i kd ln)).toNat = (gN x).toNat + 1 := by rw [inF_N]; omega
    rw [hN, show gC (inF x i kd ln) = gC x from rfl, show gS (inF x i kd ln) = gS x from rfl, h4.1, h4.2, cntF_s, cntF_s, smF_s, smF_s]
    have e1 : ∀ (f : Nat → Int) (v : Int) (j : Nat), j < i.toNat → va_up (va_cpy f f i.toNat (i + 1).toNat (gN x - i).toNat) i.toNat v j = f j := fun f v j hj => by rw [up_ne (by omega), cp_out (by omega)]
    have e2 : ∀ (f : Nat → Int) (v : Int) (j : Nat), i.toNat ≤ j → j < (gN x).toNat → va_up (va_cpy f f i.toNat (i + 1).toNat (gN x - i).toNat) i.toNat v (j + 1) = f j := fun f v j hj hj2 => by
      rw [up_ne (by omega), cp_in (by omega) (by omega)]
      congr 1
      omega
    constructor
    · symm
      refine sumN_ins _ _ i.toNat _ (by omega) (fun j hj => ?_) (fun j hj hj2 => ?_) ?_
      · show (if gM (inF x i kd ln) j = 1 ∧ gK (inF x i kd ln) j = k then (1 : Int) else 0) = _
        rw [show gM (inF x i kd ln) j = gM x j from e1 _ _ j hj, show gK (inF x i kd ln) j = gK x j from e1 _ _ j hj]
      · show (if gM (inF x i kd ln) (j + 1) = 1 ∧ gK (inF x i kd ln) (j + 1) = k then (1 : Int) else 0) = _
        rw [show gM (inF x i kd ln) (j + 1) = gM x j from e2 _ _ j hj hj2, show gK (inF x i kd ln) (j + 1) = gK x j from e2 _ _ j hj hj2]
      · show (if gM (inF x i kd ln) i.toNat = 1 ∧ _ then (1 : Int) else 0) = 0
        rw [show gM (inF x i kd ln) i.toNat = 0 from up_at]
        simp
    · symm
      refine sumN_ins _ _ i.toNat _ (by omega) (fun j hj => ?_) (fun j hj hj2 => ?_) ?_
      · show (if gM (inF x i kd ln) j = 1 ∧ gK (inF x i kd ln) j = k then tH (gW x) (gK (inF x i kd ln) j) (gL (inF x i kd ln) j) else 0) = _
        rw [show gM (inF x i kd ln) j = gM x j from e1 _ _ j hj, show gK (inF x i kd ln) j = gK x j from e1 _ _ j hj, show gL (inF x i kd ln) j = gL x j from e1 _ _ j hj]
      · show (if gM (inF x i kd ln) (j + 1) = 1 ∧ gK (inF x i kd ln) (j + 1) = k then tH (gW x) (gK (inF x i kd ln) (j + 1)) (gL (inF x i kd ln) (j + 1)) else 0) = _
        rw [show gM (inF x i kd ln) (j + 1) = gM x j from e2 _ _ j hj hj2, show gK (inF x i kd ln) (j + 1) = gK x j from e2 _ _ j hj hj2, show gL (inF x i kd ln) (j + 1) = gL x j from e2 _ _ j hj hj2]
      · show (if gM (inF x i kd ln) i.toNat = 1 ∧ _ then (_ : Int) else 0) = 0
        rw [show gM (inF x i kd ln) i.toNat = 0 from up_at]
        simp
theorem WFL_rm {x : LnS} (h0 : WFL x) {i : Int} (hi : 0 ≤ i ∧ i < gN x) : WFL (rmF x i) := by
  have h := WFL_fg h0 (i := i.toNat) (by omega)
  have hm0 : gM (fgF x i.toNat) i.toNat = 0 := by rw [fgF_M]; exact up_at
  have hNy := fgF_N x i.toNat
  unfold rmF
  generalize fgF x i.toNat = y at h hm0 hNy
  refine ⟨by show 0 ≤ gN y - 1 ∧ gN y - 1 ≤ 100; have := h.1; omega, h.2.1, fun j => ⟨?_, ?_, ?_⟩, fun k hk3 => ?_⟩
  · exact cp_any (fun z => 0 ≤ z ∧ z ≤ 2) (fun j => (h.2.2.1 j).1) (fun j => (h.2.2.1 j).1)
  · exact cp_any (fun z => 0 ≤ z ∧ z ≤ 400) (fun j => (h.2.2.1 j).2.1) (fun j => (h.2.2.1 j).2.1)
  · exact cp_any (fun z => z = 0 ∨ z = 1) (fun j => (h.2.2.1 j).2.2) (fun j => (h.2.2.1 j).2.2)
  · have h4 := h.2.2.2 k hk3
    have hN : (gN y).toNat = (gN y - 1).toNat + 1 := by omega
    have e1 : ∀ (f : Nat → Int) (j : Nat), j < i.toNat → f j = va_cpy f f (i + 1).toNat i.toNat (gN y - 1 - i).toNat j := fun f j hj => by rw [cp_out (by omega)]
    have e2 : ∀ (f : Nat → Int) (j : Nat), i.toNat ≤ j → j < (gN y - 1).toNat → f (j + 1) = va_cpy f f (i + 1).toNat i.toNat (gN y - 1 - i).toNat j := fun f j hj hj2 => by
      rw [cp_in (by omega) (by omega)]
      congr 1
      omega
    show gC y k = cntF (va_cpy (gK y) (gK y) (i + 1).toNat i.toNat (gN y - 1 - i).toNat) (va_cpy (gM y) (gM y) (i + 1).toNat i.toNat (gN y - 1 - i).toNat) k (gN y - 1).toNat ∧ gS y k = smF (gW y) (va_cpy (gK y) (gK y) (i + 1).toNat i.toNat (gN y - 1 - i).toNat) (va_cpy (gL y) (gL y) (i + 1).toNat i.toNat (gN y - 1 - i).toNat) (va_cpy (gM y) (gM y) (i + 1).toNat i.toNat (gN y - 1 - i).toNat) k (gN y - 1).toNat
    rw [h4.1, h4.2, hN, cntF_s, cntF_s, smF_s, smF_s]
    constructor
    · refine sumN_ins _ _ i.toNat _ (by omega) (fun j hj => ?_) (fun j hj hj2 => ?_) ?_
      · rw [← e1 _ j hj, ← e1 _ j hj]
      · rw [← e2 _ j hj hj2, ← e2 _ j hj hj2]
      · rw [hm0]
        simp
    · refine sumN_ins _ _ i.toNat _ (by omega) (fun j hj => ?_) (fun j hj hj2 => ?_) ?_
      · rw [← e1 _ j hj, ← e1 _ j hj, ← e1 _ j hj]
      · rw [← e2 _ j hj hj2, ← e2 _ j hj hj2, ← e2 _ j hj hj2]
      · rw [hm0]
        simp
theorem WFL_sl {x : LnS} (h0 : WFL x) {i ln : Int} (hi : 0 ≤ i ∧ i < gN x) (hl : 0 ≤ ln ∧ ln ≤ 400) : WFL (slF x i ln) := by
  have h := WFL_fg h0 (i := i.toNat) (by omega)
  have hm0 : gM (fgF x i.toNat) i.toNat = 0 := by rw [fgF_M]; exact up_at
  unfold slF
  generalize fgF x i.toNat = y at h hm0
  refine ⟨h.1, h.2.1, fun j => ⟨(h.2.2.1 j).1, ?_, (h.2.2.1 j).2.2⟩, fun k hk3 => ?_⟩
  · exact up_any (fun z => 0 ≤ z ∧ z ≤ 400) (fun j => (h.2.2.1 j).2.1) hl
  · have h4 := h.2.2.2 k hk3
    refine ⟨h4.1, ?_⟩
    show gS y k = smF (gW y) (gK y) (va_up (gL y) i.toNat ln) (gM y) k (gN y).toNat
    rw [h4.2, smF_s, smF_s]
    refine sumN_congr _ _ _ (fun j hj => ?_)
    by_cases e : j = i.toNat
    · subst e; rw [hm0]; simp
    · rw [up_ne e]
theorem WFL_fa {x : LnS} (h0 : WFL x) {w : Int} (hw : 5 ≤ w ∧ w ≤ 80) : WFL (faF x w) := by
  have hn := h0.1
  have h := WFL_fgA h0 (gN x).toNat (by omega)
  have hm : ∀ j, j < (gN x).toNat → gM (fgA x (gN x).toNat) j = 0 := fun j hj => by rw [fgA_M, if_pos hj]
  have hN := fgA_N x (gN x).toNat
  unfold faF
  generalize fgA x (gN x).toNat = y at h hm hN
  refine ⟨h.1, hw, h.2.2.1, fun k hk3 => ?_⟩
  have h4 := h.2.2.2 k hk3
  refine ⟨h4.1, ?_⟩
  show gS y k = smF w (gK y) (gL y) (gM y) k (gN y).toNat
  rw [h4.2, smF_s, smF_s]
  refine sumN_congr _ _ _ (fun j hj => ?_)
  rw [hm j (by rw [← hN]; exact hj)]
  simp
theorem xi_cpy0 {f g : Nat → Int} {n j : Nat} (h : j < n) : va_cpy f g 0 0 n j = f j := by rw [cp_in (by omega) (by omega)]; congr 1; omega
