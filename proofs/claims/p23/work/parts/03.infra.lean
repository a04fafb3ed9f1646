/-! ===== INFRA: worlds of ints as Int, one goal form VV, a row an instruction ===== -/
abbrev TT : Type := va_G × ClassId × ClassId × ClassId × ClassId × Nat × Nat × (Nat → Int32)
abbrev xtys (T : TT) : List (ClassId × FieldType) := [(T.2.1, .int), (T.2.2.1, .boolean), (T.2.2.2.1, .char), (T.2.2.2.2.1, .object RX3)]
abbrev MB : Type := Program × Launch × Env × Room × State × MethodId × Array Value × List Frame × Method × Code × (State → Prop) × (Nat → Prop)
abbrev xcl : List vw_C := [(RX0, TX0, 3), (RX1, TX1, 7), (RX2, TX2, 6), (RX3, TX3, 4), (RX4, TX4, 4)]
def iv (n : Int) : Value := .int (Int32.ofInt n)
def ia (c : ClassId) (n : Nat) (w : Nat → Int) : va_E := .inl (c, n, .inl (fun j => Int32.ofInt (w j)))
def qa (c : ClassId) (n : Nat) (f : Nat → Option Nat) : va_E := .inl (c, n, .inr (.inr (.inr (.inr f))))
def ob (ci : Nat) (fs : List Value) : va_E := .inr (ci, fs)
-- what stands in the old heap and is never changed: the link of a nest mate, the script (at T.2.2.2.2.2.1, so long, these ints)
def SX (T : TT) (A : Nat → Prop) (U : State) (H : Heap) : Prop :=
  va_Nw (.methodLinkNest RX3 35 yX4_isOutside RX4) U ∧ va_X T.2.2.2.2.2.1 T.2.2.2.2.2.2.1 T.2.2.2.2.2.2.2 U H ∧ T.2.2.2.2.2.1 < H.size ∧ ¬ A T.2.2.2.2.2.1
theorem SX.warm {T : TT} {A : Nat → Prop} {s U : State} {H : Heap} (hW : s.WarmedH U.vm) (h : SX T A s H) : SX T A U H :=
  ⟨va_Nw.warmM hW h.1, va_X.moved hW.alike h.2.1, h.2.2.1, h.2.2.2⟩
theorem SX.kept {T : TT} {A : Nat → Prop} {U : State} {H H1 : Heap} (h : SX T A U H) (hq : ∀ a : Nat, a < H.size → ¬ A a → H1[a]? = H[a]?) : SX T A U H1 :=
  ⟨h.1, h.2.1.kept (hq _ h.2.2.1 h.2.2.2), by
    have e := hq _ h.2.2.1 h.2.2.2
    rw [Array.getElem?_eq_getElem h.2.2.1] at e
    exact (Array.getElem?_eq_some_iff.mp e).1, h.2.2.2⟩
theorem SX.narrow {T : TT} {A B : Nat → Prop} {U : State} {H : Heap} (h : SX T A U H) (hAB : ∀ q, B q → A q) : SX T B U H :=
  ⟨h.1, h.2.1, h.2.2.1, fun hb => h.2.2.2 (hAB _ hb)⟩
def VV (T : TT) (M : MB) (nL : Nat) (lv : List (Nat × Value)) (ws : va_W) (ce sl : Nat) (pc : Nat) (st : List Value) : Prop :=
  ∀ (ls : Array Slot) (H : Heap) (locs : List Loc), lv_has ls nL lv → va_P T.1 xcl ws H → va_D M.2.2.2.2.2.2.2.2.2.2.2 ws → va_S M.2.2.2.2.2.2.2.2.2.2.2 M.2.2.2.2.1.heap H locs →
   W M.1 M.2.1 M.2.2.1 M.2.2.2.1 M.2.2.2.2.1 M.2.2.2.2.2.1 M.2.2.2.2.2.2.1 M.2.2.2.2.2.2.2.1 M.2.2.2.2.2.2.2.2.1 M.2.2.2.2.2.2.2.2.2.1 H locs ce sl M.2.2.2.2.2.2.2.2.2.2.1 (F0 M.2.2.2.2.2.1 pc ls st)
def FM (T : TT) (M : MB) (cc : ByteArray) (own : String) (nL : Nat) (Ts : List Cond) (R0 : Room) : Prop :=
  M.1.tables.exec = Jvm.exec ∧ M.2.2.2.2.2.2.2.2.2.1.code = cc ∧ M.2.2.2.2.2.2.2.2.2.1.maxLocals = nL ∧ M.2.2.2.2.1.vm.findClass own = some M.2.2.2.2.2.1.cls ∧
   (∀ w ∈ Ts, w.before M.2.2.2.2.2.2.1 M.2.2.2.2.1 = true) ∧ va_K T.1 xcl (xtys T) M.2.2.2.2.1 ∧ (∀ q, M.2.2.2.2.1.heap.size ≤ q → M.2.2.2.2.2.2.2.2.2.2.2 q) ∧ M.2.2.2.1 = R0 ∧ SX T M.2.2.2.2.2.2.2.2.2.2.2 M.2.2.2.2.1 M.2.2.2.2.1.heap
/-- the end of a method: at an ireturn with this value and this world the walk is done -/
def FinI (T : TT) (M : MB) (cc : ByteArray) (nL : Nat) (v : Value) (ws : va_W) : Prop := ∀ (lv : List (Nat × Value)) (pc : Nat), decode cc pc = .ok (.ireturn, 1) → VV T M nL lv ws 0 0 pc [v]
def FinV (T : TT) (M : MB) (cc : ByteArray) (nL : Nat) (ws : va_W) : Prop := ∀ (lv : List (Nat × Value)) (pc : Nat), decode cc pc = .ok (.return_, 1) → VV T M nL lv ws 0 0 pc []
def FinA (T : TT) (M : MB) (cc : ByteArray) (nL : Nat) (v : Value) (ws : va_W) : Prop := ∀ (lv : List (Nat × Value)) (pc : Nat), decode cc pc = .ok (.areturn, 1) → VV T M nL lv ws 0 0 pc [v]
/-- a contract that makes nothing: from this world to that one, with this answer -/
def CT (l : Launch) (y : MethodName) (wy : List Cond) (rm : Room) (T : TT) (vals : List Value) (ws : va_W) (ret : Option Value) (ws' : va_W) : Prop :=
  ∀ sz : Nat, Met l y wy rm (va_Pc vals (fun U => U.heap.size = sz ∧ va_P T.1 xcl ws U.heap ∧ va_K T.1 xcl (xtys T) U ∧ va_D (fun _ => True) ws ∧ SX T (va_A ws sz) U U.heap))
    (fun _ st oc t => (oc = .returned ret ∧ va_P T.1 xcl ws' t.heap) ∧ va_F (va_A ws sz) st t) 0 0 (va_A ws sz)
-- ints
theorem xi_lt {a b : Int} (h : (-2147483648 ≤ a ∧ a < 2147483648) ∧ -2147483648 ≤ b ∧ b < 2147483648) : Int32.ofInt a < Int32.ofInt b ↔ a < b := by
  rw [Int32.lt_iff_toInt_lt, Int32.toInt_ofInt_of_le (by omega) (by omega), Int32.toInt_ofInt_of_le (by omega) (by omega)]
theorem xi_le {a b : Int} (h : (-2147483648 ≤ a ∧ a < 2147483648) ∧ -2147483648 ≤ b ∧ b < 2147483648) : Int32.ofInt a ≤ Int32.ofInt b ↔ a ≤ b := by
  rw [Int32.le_iff_toInt_le, Int32.toInt_ofInt_of_le (by omega) (by omega), Int32.toInt_ofInt_of_le (by omega) (by omega)]
theorem xi_eq {a b : Int} (h : (-2147483648 ≤ a ∧ a < 2147483648) ∧ -2147483648 ≤ b ∧ b < 2147483648) : Int32.ofInt a = Int32.ofInt b ↔ a = b := by
  rw [← Int32.toInt_inj, Int32.toInt_ofInt_of_le (by omega) (by omega), Int32.toInt_ofInt_of_le (by omega) (by omega)]
theorem xi_cl {i : Int} (h : 0 ≤ i ∧ i < 2147483648) : (Int32.ofInt i).toNatClampNeg = i.toNat := by
  rw [Int32.toNatClampNeg, Int32.toInt_ofInt_of_le (by omega) (by omega)]
theorem xi_in {i : Int} {n : Nat} (h : 0 ≤ i ∧ i < (n : Int) ∧ i < 2147483648) : vp_in (Int32.ofInt i) n := by
  rw [vp_in_iff, Int32.toInt_ofInt_of_le (by omega) (by omega)]
  omega
theorem xi_div {a b : Int} (h : (0 ≤ a ∧ a < 2147483648) ∧ 0 < b ∧ b < 2147483648) : Int32.ofInt a / Int32.ofInt b = Int32.ofInt (a / b) := by
  have h1 : Int32.ofInt b ≠ -1 := by
    intro h9
    have h8 := congrArg Int32.toInt h9
    rw [Int32.toInt_ofInt_of_le (by omega) (by omega)] at h8
    have h7 : (-1 : Int32).toInt = -1 := by decide
    omega
  have hq0 : 0 ≤ a / b := Int.ediv_nonneg (by omega) (by omega)
  have hq1 : a / b ≤ a := Int.ediv_le_self b (by omega)
  rw [← Int32.toInt_inj, Int32.toInt_div_of_ne_right _ _ h1, Int32.toInt_ofInt_of_le (by omega) (by omega), Int32.toInt_ofInt_of_le (by omega) (by omega), Int32.toInt_ofInt_of_le (by omega) (by omega), Int.tdiv_eq_ediv_of_nonneg (by omega)]
theorem xi_upd {w : Nat → Int} {k : Nat} {v : Int} : upd (fun j => Int32.ofInt (w j)) k (Int32.ofInt v) = fun j => Int32.ofInt (va_up w k v j) := by
  funext j
  by_cases h : j = k <;> simp [upd, va_up, h]
theorem xi_cpy {f g : Nat → Int} {a b n : Nat} : va_cpy (fun j => Int32.ofInt (f j)) (fun j => Int32.ofInt (g j)) a b n = fun j => Int32.ofInt (va_cpy f g a b n j) := by
  funext j
  simp only [va_cpy]
  split <;> rfl
theorem xi_z : Int32.ofInt 0 = 0 := rfl
theorem xi_e0 {a : Int} (h : -2147483648 ≤ a ∧ a < 2147483648) : Int32.ofInt a = 0 ↔ a = 0 := by
  rw [← xi_z, xi_eq ⟨h, by omega⟩]
theorem xi_to (y : Int32) : y = Int32.ofInt y.toInt := (Int32.ofInt_toInt y).symm
theorem iv_to (y : Int32) : Value.int y = iv y.toInt := by rw [iv, Int32.ofInt_toInt]
theorem xi_bd (y : Int32) : -2147483648 ≤ y.toInt ∧ y.toInt < 2147483648 := ⟨Int32.le_toInt y, Int32.toInt_lt y⟩
-- truth values
def bi (P : Prop) [Decidable P] : Int := if P then 1 else 0
theorem bi_t {P : Prop} [Decidable P] (h : P) : bi P = 1 := if_pos h
theorem bi_f {P : Prop} [Decidable P] (h : ¬ P) : bi P = 0 := if_neg h
theorem bi_b {P : Prop} [Decidable P] : -2147483648 ≤ bi P ∧ bi P < 2147483648 := by unfold bi; split <;> decide
theorem bi_0 {P : Prop} [Decidable P] : bi P = 0 ↔ ¬ P := by unfold bi; split <;> simp [*]
theorem bi_n {P : Prop} [Decidable P] : narrow .boolean (iv (bi P)) = iv (bi P) := by unfold bi; split <;> rfl
-- locals
def setL (lv : List (Nat × Value)) (i : Nat) (v : Value) : List (Nat × Value) := if lv.any (fun q => q.1 == i) then lv.map (fun q => if q.1 = i then (i, v) else q) else lv ++ [(i, v)]
theorem setL_mem {lv : List (Nat × Value)} {i : Nat} {v : Value} {q : Nat × Value} (h : q ∈ setL lv i v) : q = (i, v) ∨ (q ∈ lv ∧ q.1 ≠ i) := by
  unfold setL at h
  split at h
  · obtain ⟨a, ha, hq⟩ := List.mem_map.mp h
    split at hq
    · exact Or.inl hq.symm
    · rename_i hne
      exact Or.inr ⟨hq ▸ ha, hq ▸ hne⟩
  · rename_i hn
    rcases List.mem_append.mp h with h | h
    · refine Or.inr ⟨h, fun he => hn ?_⟩
      exact List.any_eq_true.mpr ⟨q, h, by simp [he]⟩
    · exact Or.inl (List.mem_singleton.mp h)
theorem lv_setL {ls : Array Slot} {nL i : Nat} {lv : List (Nat × Value)} {v : Value} (hc : lv.all (fun q => q.2.category == 1) = true) (h : lv_has ls nL ((i, v) :: lv.filter (fun q => !(q.1 == i) && !(q.1 + 1 == i && q.2.category == 2)))) : lv_has ls nL (setL lv i v) := by
  refine ⟨h.1, h.2.1, fun q hq => h.2.2 q ?_⟩
  rcases setL_mem hq with rfl | ⟨hm, hne⟩
  · exact List.mem_cons_self
  · refine List.mem_cons_of_mem _ (List.mem_filter.mpr ⟨hm, ?_⟩)
    have h1 := List.all_eq_true.mp hc q hm
    simp only [beq_iff_eq] at h1
    simp [hne, h1]
-- worlds
def setA : va_W → List Nat → va_W → va_W
  | ws, i :: is, c :: cs => setA (ws.set i c) is cs
  | ws, _, _ => ws
theorem setA_fst (is : List Nat) (ws cs : va_W) (wc : va_W) (hs : is.map (fun i => ws[i]?) = wc.map some) (hadr : cs.map Prod.fst = wc.map Prod.fst) (hn : va_nd is = true) : (setA ws is cs).map Prod.fst = ws.map Prod.fst := by
  induction is generalizing ws cs wc with
  | nil => cases cs <;> rfl
  | cons i is ih =>
    cases cs with
    | nil => rfl
    | cons c cs =>
      cases wc with
      | nil => simp at hs
      | cons w wc =>
        simp only [List.map_cons, List.cons.injEq] at hs hadr
        simp only [va_nd, Bool.and_eq_true, decide_eq_true_eq] at hn
        have hset : (ws.set i c).map Prod.fst = ws.map Prod.fst := by
          have h1 : (ws.map Prod.fst)[i]? = some c.1 := by rw [List.getElem?_map, hs.1, hadr.1]; rfl
          rw [List.map_set]
          apply List.ext_getElem?
          intro j
          rw [List.getElem?_set]
          split
          · rename_i hij
            subst hij
            split
            · exact h1.symm
            · rename_i hlt
              rw [List.getElem?_eq_none (by simpa using hlt)] at h1
              cases h1
          · rfl
        show (setA (ws.set i c) is cs).map Prod.fst = ws.map Prod.fst
        rw [ih (ws.set i c) cs wc ?_ hadr.2 hn.2, hset]
        rw [← hs.2]
        apply List.map_congr_left
        intro j hj
        rw [List.getElem?_set_ne]
        intro he
        subst he
        exact hn.1 hj
theorem setA_get (is : List Nat) (ws cs : va_W) (k : Nat) (q : Nat × va_E) (hl : is.length = cs.length) (h : (setA ws is cs)[k]? = some q) : (k ∉ is ∧ ws[k]? = some q) ∨ q ∈ cs := by
  induction is generalizing ws cs with
  | nil =>
    refine Or.inl ⟨List.not_mem_nil, ?_⟩
    cases cs <;> exact h
  | cons i is ih =>
    cases cs with
    | nil => simp at hl
    | cons c cs =>
      rcases ih (ws.set i c) cs (by simpa using hl) h with ⟨h1, h2⟩ | h1
      · by_cases hik : i = k
        · subst hik
          rw [List.getElem?_set] at h2
          simp only [if_true] at h2
          split at h2
          · cases h2
            exact Or.inr List.mem_cons_self
          · cases h2
        · rw [List.getElem?_set_ne hik] at h2
          exact Or.inl ⟨fun hm => (List.mem_cons.mp hm).elim (fun he => hik he.symm) h1, h2⟩
      · exact Or.inr (List.mem_cons_of_mem _ h1)
theorem va_D.adr {A : Nat → Prop} {ws ws' : va_W} (hD : va_D A ws) (h : ws'.map Prod.fst = ws.map Prod.fst) : va_D A ws' := by
  have key : ∀ (k : Nat) (q : Nat × va_E), ws'[k]? = some q → ∃ q2, ws[k]? = some q2 ∧ q2.1 = q.1 := by
    intro k q hq
    have h1 : (ws'.map Prod.fst)[k]? = some q.1 := by rw [List.getElem?_map, hq]; rfl
    rw [h, List.getElem?_map] at h1
    cases h2 : ws[k]? with
    | none => rw [h2] at h1; cases h1
    | some q2 => rw [h2] at h1; exact ⟨q2, rfl, by simpa using h1⟩
  refine ⟨fun i j a b ha hb hab => ?_, fun k q hq => ?_⟩
  · obtain ⟨a2, ha2, ea⟩ := key i a ha
    obtain ⟨b2, hb2, eb⟩ := key j b hb
    exact hD.1 i j a2 b2 ha2 hb2 (by rw [ea, eb, hab])
  · obtain ⟨q2, h2, e2⟩ := key k q hq
    rw [← e2]
    exact hD.2 k q2 h2
theorem va_P.setA {A0 : Nat → Prop} {D : va_G} {cl : List vw_C} {ws wc cs : va_W} {H H1 : Heap} (hP : va_P D cl ws H) (hD : va_D A0 ws) (is : List Nat) (hs : is.map (fun i => ws[i]?) = wc.map some) (hadr : cs.map Prod.fst = wc.map Prod.fst)
    (hk : ∀ q : Nat, q < H.size → ¬ va_A wc H.size q → H1[q]? = H[q]?) (hP1 : va_P D cl cs H1) : va_P D cl (setA ws is cs) H1 := by
  intro k q hq
  have hlen : is.length = cs.length := by
    have h1 := congrArg List.length hs
    have h2 := congrArg List.length hadr
    simp only [List.length_map] at h1 h2
    omega
  rcases setA_get is ws cs k q hlen hq with ⟨hni, hw⟩ | hm
  · have hat := hP k q hw
    refine hat.kept (hk q.1 hat.lt ?_)
    intro hA
    rcases hA with ⟨j, e, he⟩ | hge
    · have h1 : (is.map (fun i => ws[i]?))[j]? = some (some (q.1, e)) := by rw [hs, List.getElem?_map, he]; rfl
      rw [List.getElem?_map] at h1
      cases h2 : is[j]? with
      | none => rw [h2] at h1; cases h1
      | some i =>
        rw [h2] at h1
        have h3 : ws[i]? = some (q.1, e) := by simpa using h1
        have := hD.1 i k (q.1, e) q h3 hw rfl
        subst this
        exact hni (List.mem_of_getElem? h2)
    · exact absurd hat.lt (Nat.not_lt.mpr hge)
  · obtain ⟨j, hj, he⟩ := List.mem_iff_getElem.mp hm
    exact hP1 j q (by rw [List.getElem?_eq_getElem hj, he])
theorem setA_self (is : List Nat) (ws wc : va_W) (hs : is.map (fun i => ws[i]?) = wc.map some) : setA ws is wc = ws := by
  induction is generalizing wc with
  | nil => cases wc <;> rfl
  | cons i is ih =>
    cases wc with
    | nil => rfl
    | cons w wc =>
      simp only [List.map_cons, List.cons.injEq] at hs
      have h1 : ws.set i w = ws := by
        apply List.ext_getElem?
        intro j
        rw [List.getElem?_set]
        split
        · rename_i hij
          subst hij
          split
          · exact hs.1.symm
          · rename_i hlt
            rw [List.getElem?_eq_none (by omega)] at hs
            cases hs.1
        · rfl
      show setA (ws.set i w) is wc = ws
      rw [h1]
      exact ih wc hs.2
