/-! ===== SEGMENTS: a world as a list of objects' worlds, for calls that take whole objects ===== -/
def setG {α : Type} : List α → List Nat → List α → List α
  | ws, i :: is, c :: cs => setG (ws.set i c) is cs
  | ws, _, _ => ws
theorem setG_map {α β : Type} (f : α → β) (is : List Nat) (ws cs wc : List α) (hs : is.map (fun i => ws[i]?) = wc.map some) (hadr : cs.map f = wc.map f) (hn : va_nd is = true) : (setG ws is cs).map f = ws.map f := by
  induction is generalizing ws cs wc with
  | nil => cases cs <;> rfl
  | cons i is ih =>
    cases cs with
    | nil => rfl
    | cons c cs =>
      cases wc with
      | nil => simp at hs
      | cons w wc =>
        simp only [List.map_cons, List.cons.injEq] at hs hadr
        simp only [va_nd, Bool.and_eq_true, decide_eq_true_eq] at hn
        have hset : (ws.set i c).map f = ws.map f := by
          have h1 : (ws.map f)[i]? = some (f c) := by rw [List.getElem?_map, hs.1, hadr.1]; rfl
          rw [List.map_set]
          apply List.ext_getElem?
          intro j
          rw [List.getElem?_set]
          split
          · rename_i hij
            subst hij
            split
            · exact h1.symm
            · rename_i hlt
              rw [List.getElem?_eq_none (by simpa using hlt)] at h1
              cases h1
          · rfl
        show (setG (ws.set i c) is cs).map f = ws.map f
        rw [ih (ws.set i c) cs wc ?_ hadr.2 hn.2, hset]
        rw [← hs.2]
        apply List.map_congr_left
        intro j hj
        rw [List.getElem?_set_ne]
        intro he
        subst he
        exact hn.1 hj
theorem setG_get {α : Type} (is : List Nat) (ws cs : List α) (k : Nat) (q : α) (hl : is.length = cs.length) (h : (setG ws is cs)[k]? = some q) : (k ∉ is ∧ ws[k]? = some q) ∨ q ∈ cs := by
  induction is generalizing ws cs with
  | nil =>
    refine Or.inl ⟨List.not_mem_nil, ?_⟩
    cases cs <;> exact h
  | cons i is ih =>
    cases cs with
    | nil => simp at hl
    | cons c cs =>
      rcases ih (ws.set i c) cs (by simpa using hl) h with ⟨h1, h2⟩ | h1
      · by_cases hik : i = k
        · subst hik
          rw [List.getElem?_set] at h2
          simp only [if_true] at h2
          split at h2
          · cases h2
            exact Or.inr List.mem_cons_self
          · cases h2
        · rw [List.getElem?_set_ne hik] at h2
          exact Or.inl ⟨fun hm => (List.mem_cons.mp hm).elim (fun he => hik he.symm) h1, h2⟩
      · exact Or.inr (List.mem_cons_of_mem _ h1)
theorem setG_self {α : Type} (is : List Nat) (ws wc : List α) (hs : is.map (fun i => ws[i]?) = wc.map some) : setG ws is wc = ws := by
  induction is generalizing wc with
  | nil => cases wc <;> rfl
  | cons i is ih =>
    cases wc with
    | nil => rfl
    | cons w wc =>
      simp only [List.map_cons, List.cons.injEq] at hs
      have h1 : ws.set i w = ws := by
        apply List.ext_getElem?
        intro j
        rw [List.getElem?_set]
        split
        · rename_i hij
          subst hij
          split
          · exact hs.1.symm
          · rename_i hlt
            rw [List.getElem?_eq_none (by omega)] at hs
            cases hs.1
        · rfl
      show setG (ws.set i w) is wc = ws
      rw [h1]
      exact ih wc hs.2
theorem va_P_mem {D : va_G} {cl : List vw_C} {ws : va_W} {H : Heap} : va_P D cl ws H ↔ ∀ q ∈ ws, va_at D cl q H :=
  ⟨fun h q hq => by obtain ⟨k, hk, e⟩ := List.mem_iff_getElem.mp hq; exact h k q (by rw [List.getElem?_eq_getElem hk, e]), fun h k q hq => h q (List.mem_of_getElem? hq)⟩
theorem va_D_nd {A : Nat → Prop} {ws : va_W} : va_D A ws ↔ (ws.map Prod.fst).Pairwise (· ≠ ·) ∧ ∀ q ∈ ws, A q.1 := by
  constructor
  · intro h
    refine ⟨?_, fun q hq => ?_⟩
    · rw [List.pairwise_iff_getElem]
      intro i j hi hj hij e
      simp only [List.length_map] at hi hj
      simp only [List.getElem_map] at e
      have := h.1 i j ws[i] ws[j] (List.getElem?_eq_getElem hi) (List.getElem?_eq_getElem hj) e
      omega
    · obtain ⟨k, hk, e⟩ := List.mem_iff_getElem.mp hq
      exact h.2 k q (by rw [List.getElem?_eq_getElem hk, e])
  · intro ⟨h1, h2⟩
    rw [List.pairwise_iff_getElem] at h1
    refine ⟨fun i j p q hp hq e => ?_, fun k q hq => h2 q (List.mem_of_getElem? hq)⟩
    obtain ⟨hi, rfl⟩ := List.getElem?_eq_some_iff.mp hp
    obtain ⟨hj, rfl⟩ := List.getElem?_eq_some_iff.mp hq
    rcases Nat.lt_trichotomy i j with hl | hl | hl
    · have h9 := h1 i j (by simpa using hi) (by simpa using hj) hl
      simp only [List.getElem_map] at h9
      exact absurd e h9
    · exact hl
    · have h9 := h1 j i (by simpa using hj) (by simpa using hi) hl
      simp only [List.getElem_map] at h9
      exact absurd e.symm h9
theorem seg_dis {A : Nat → Prop} {sg : List va_W} (hD : va_D A sg.flatten) {i k : Nat} {s t : va_W} (hi : sg[i]? = some s) (hk : sg[k]? = some t) (hne : i ≠ k) {p q : Nat × va_E} (hp : p ∈ s) (hq : q ∈ t) : p.1 ≠ q.1 := by
  have h1 := (va_D_nd.mp hD).1
  rw [List.map_flatten, List.pairwise_flatten, List.pairwise_iff_getElem] at h1
  obtain ⟨hi1, rfl⟩ := List.getElem?_eq_some_iff.mp hi
  obtain ⟨hk1, rfl⟩ := List.getElem?_eq_some_iff.mp hk
  rcases Nat.lt_or_gt_of_ne hne with hl | hl
  · exact h1.2 i k (by simpa using hi1) (by simpa using hk1) hl p.1 (by simpa using ⟨p.2, hp⟩) q.1 (by simpa using ⟨q.2, hq⟩)
  · exact (h1.2 k i (by simpa using hk1) (by simpa using hi1) hl q.1 (by simpa using ⟨q.2, hq⟩) p.1 (by simpa using ⟨p.2, hp⟩)).symm
theorem seg_in {sg cs : List va_W} {is : List Nat} (hs : is.map (fun i => sg[i]?) = cs.map some) {j : Nat} {c : va_W} (hj : cs[j]? = some c) : ∃ i, is[j]? = some i ∧ sg[i]? = some c := by
  have h1 : (is.map (fun i => sg[i]?))[j]? = some (some c) := by rw [hs, List.getElem?_map, hj]; rfl
  rw [List.getElem?_map] at h1
  cases h2 : is[j]? with
  | none => rw [h2] at h1; cases h1
  | some i => rw [h2] at h1; exact ⟨i, rfl, by simpa using h1⟩
theorem seg_mem {sg cs : List va_W} {is : List Nat} (hs : is.map (fun i => sg[i]?) = cs.map some) {q : Nat × va_E} (hq : q ∈ cs.flatten) : ∃ i s, i ∈ is ∧ sg[i]? = some s ∧ q ∈ s := by
  obtain ⟨c, hc, hqc⟩ := List.mem_flatten.mp hq
  obtain ⟨j, hj, e⟩ := List.mem_iff_getElem.mp hc
  obtain ⟨i, h1, h2⟩ := seg_in hs (j := j) (c := c) (by rw [List.getElem?_eq_getElem hj, e])
  exact ⟨i, c, List.mem_of_getElem? h1, h2, hqc⟩
theorem va_nd_ne {is : List Nat} (hn : va_nd is = true) : is.Pairwise (· ≠ ·) := by
  induction is with
  | nil => exact List.Pairwise.nil
  | cons a l ih =>
    simp only [va_nd, Bool.and_eq_true, decide_eq_true_eq] at hn
    exact List.Pairwise.cons (fun b hb he => hn.1 (by rw [he]; exact hb)) (ih hn.2)
theorem seg_P {D : va_G} {cl : List vw_C} {H : Heap} {sg cs : List va_W} {is : List Nat} (hP : va_P D cl sg.flatten H) (hs : is.map (fun i => sg[i]?) = cs.map some) : va_P D cl cs.flatten H := by
  rw [va_P_mem] at hP ⊢
  intro q hq
  obtain ⟨i, s, -, h2, h3⟩ := seg_mem hs hq
  exact hP q (List.mem_flatten.mpr ⟨s, List.mem_of_getElem? h2, h3⟩)
theorem seg_D {A : Nat → Prop} {sg cs : List va_W} {is : List Nat} (hD : va_D A sg.flatten) (hn : va_nd is = true) (hs : is.map (fun i => sg[i]?) = cs.map some) : va_D A cs.flatten := by
  have h0 := va_D_nd.mp hD
  refine va_D_nd.mpr ⟨?_, fun q hq => ?_⟩
  · have h1 := h0.1
    rw [List.map_flatten, List.pairwise_flatten] at h1 ⊢
    refine ⟨fun l hl => ?_, ?_⟩
    · obtain ⟨c, hc, rfl⟩ := List.mem_map.mp hl
      obtain ⟨j, hj, e⟩ := List.mem_iff_getElem.mp hc
      obtain ⟨i, -, h2⟩ := seg_in hs (j := j) (c := c) (by rw [List.getElem?_eq_getElem hj, e])
      exact h1.1 _ (List.mem_map.mpr ⟨c, List.mem_of_getElem? h2, rfl⟩)
    · rw [List.pairwise_iff_getElem]
      intro i j hi hj hij x hx y hy
      simp only [List.length_map] at hi hj
      simp only [List.getElem_map] at hx hy
      obtain ⟨i2, a1, a2⟩ := seg_in hs (j := i) (c := cs[i]) (List.getElem?_eq_getElem hi)
      obtain ⟨j2, b1, b2⟩ := seg_in hs (j := j) (c := cs[j]) (List.getElem?_eq_getElem hj)
      obtain ⟨p, hp, rfl⟩ := List.mem_map.mp hx
      obtain ⟨q, hq, rfl⟩ := List.mem_map.mp hy
      refine seg_dis hD a2 b2 ?_ hp hq
      have hnn := va_nd_ne hn
      rw [List.pairwise_iff_getElem] at hnn
      obtain ⟨hi2, rfl⟩ := List.getElem?_eq_some_iff.mp a1
      obtain ⟨hj2, rfl⟩ := List.getElem?_eq_some_iff.mp b1
      exact hnn i j hi2 hj2 hij
  · obtain ⟨i, s, -, h2, h3⟩ := seg_mem hs hq
    exact h0.2 q (List.mem_flatten.mpr ⟨s, List.mem_of_getElem? h2, h3⟩)
theorem seg_free {A : Nat → Prop} {sg cs : List va_W} {is : List Nat} {H0 H : Heap} {locs : List Loc} (hD : va_D A sg.flatten) (hS : va_S A H0 H locs) (hA : ∀ q, H0.size ≤ q → A q) (hs : is.map (fun i => sg[i]?) = cs.map some) : ∀ q, va_A cs.flatten H.size q → A q := by
  intro q hq
  rcases hq with ⟨k, e, he⟩ | h
  · obtain ⟨i, s, -, h2, h3⟩ := seg_mem hs (List.mem_of_getElem? he)
    exact (va_D_nd.mp hD).2 _ (List.mem_flatten.mpr ⟨s, List.mem_of_getElem? h2, h3⟩)
  · exact hA q (Nat.le_trans hS.1 h)
theorem seg_set {A0 : Nat → Prop} {D : va_G} {cl : List vw_C} {sg cs cs' : List va_W} {H H1 : Heap} (hP : va_P D cl sg.flatten H) (hD : va_D A0 sg.flatten) (is : List Nat) (hs : is.map (fun i => sg[i]?) = cs.map some) (hlen : cs'.length = cs.length)
    (hk : ∀ q : Nat, q < H.size → ¬ va_A cs.flatten H.size q → H1[q]? = H[q]?) (hP1 : va_P D cl cs'.flatten H1) : va_P D cl (setG sg is cs').flatten H1 := by
  rw [va_P_mem] at hP hP1 ⊢
  intro q hq
  obtain ⟨s, hs1, hq1⟩ := List.mem_flatten.mp hq
  obtain ⟨k, hk1, e⟩ := List.mem_iff_getElem.mp hs1
  have hlen2 : is.length = cs'.length := by
    have h1 := congrArg List.length hs
    simp only [List.length_map] at h1
    omega
  rcases setG_get is sg cs' k s hlen2 (by rw [List.getElem?_eq_getElem hk1, e]) with ⟨hni, hw⟩ | hm
  · have hat := hP q (List.mem_flatten.mpr ⟨s, List.mem_of_getElem? hw, hq1⟩)
    refine hat.kept (hk q.1 hat.lt ?_)
    rintro (⟨j, e2, he⟩ | hge)
    · obtain ⟨i, t, h1, h2, h3⟩ := seg_mem hs (List.mem_of_getElem? he)
      exact seg_dis hD h2 hw (fun he => hni (he ▸ h1)) h3 hq1 rfl
    · exact absurd hat.lt (Nat.not_lt.mpr hge)
  · exact hP1 q (List.mem_flatten.mpr ⟨s, hm, hq1⟩)
theorem seg_adr {sg cs cs' : List va_W} {is : List Nat} (hs : is.map (fun i => sg[i]?) = cs.map some) (hn : va_nd is = true) (hadr : cs'.map (fun s => s.map Prod.fst) = cs.map (fun s => s.map Prod.fst)) : (setG sg is cs').flatten.map Prod.fst = sg.flatten.map Prod.fst := by
  rw [List.map_flatten, List.map_flatten]
  congr 1
  exact setG_map (fun s => s.map Prod.fst) is sg cs' cs hs hadr hn
