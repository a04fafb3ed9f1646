/-! ===== PURE: history, text ===== -/
def upW (H : Nat → WnS) (k : Int) (Y : WnS) : Nat → WnS := fun j => if k.toNat = j then Y else H j
def hisE (T : TT) (h : Nat → Nat) (b : Nat → Nat → Nat) (st : Nat → Option Nat) (sz nx : Int) (H : Nat → WnS) : va_W :=
  (h 0, ob 0 [.ref (h 1), iv sz, iv nx]) :: (h 1, qa T.2.2.2.2.1 5 st) :: (winE T (b 0) (H 0) ++ (winE T (b 1) (H 1) ++ (winE T (b 2) (H 2) ++ (winE T (b 3) (H 3) ++ winE T (b 4) (H 4)))))
def HST (b : Nat → Nat → Nat) (st : Nat → Option Nat) : Prop := ∀ k, k < 5 → st k = some (b k 6)
def prgE (T : TT) (g : Nat → Nat) (tx nm : Nat → Int) (L s e p : Int) : va_W := [(g 0, ob 2 [.ref (g 1), .ref (g 2), iv L, iv s, iv e, iv p]), (g 1, ia T.2.2.2.1 100 tx), (g 2, ia T.2.1 3 nm)]
def TXI (tx : Nat → Int) (L : Int) : Prop := (0 ≤ L ∧ L ≤ 100) ∧ ∀ j, 0 ≤ tx j ∧ tx j ≤ 255
def sgF (tx : Nat → Int) (L i : Int) : Int := if 0 ≤ i ∧ i < L then tx i.toNat else 0
theorem sgF_b {tx : Nat → Int} {L : Int} (h : TXI tx L) (i : Int) : 0 ≤ sgF tx L i ∧ sgF tx L i ≤ 255 := by
  unfold sgF
  split
  · exact h.2 _
  · omega
def letP (c : Int) : Prop := 97 ≤ c ∧ c ≤ 122
def digP (c : Int) : Prop := 48 ≤ c ∧ c ≤ 57
