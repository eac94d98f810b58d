/-! THE WORLD: cells at places 0, 1, 2 ..; a place is what a reference names; where a place lies in the machine's heap, ad says -/
def jv_T : List Cond := lw_tbl.filter goodWord
def jv_ns : List Cond := [.methodLinkNest RX3 25 yX7_within RX7, .methodLinkNest RX2 39 yX7_within RX7, .methodLinkNest RX0 31 yX7_within RX7, .methodLinkNest RX6 66 yX7_within RX7, .methodLinkNest RX1 52 yX7_within RX7]
theorem jv_ns_in : ∀ w ∈ jv_ns, w ∈ lw_tbl := by decide +kernel
theorem jv_ns_on : ∀ w ∈ jv_ns, w.onTables = true := by decide +kernel
abbrev jv_cl : List vw_C := [(RX0, TX0, 6), (RX1, TX1, 8), (RX2, TX2, 4), (RX3, TX3, 4), (RX4, TX4, 2), (RX5, TX5, 3), (RX6, TX6, 7), (RX7, TX7, 8), (RX8, TX8, 27)]
abbrev jv_G : Type := va_G × (ClassId × ClassId × ClassId × ClassId) × (Nat → Nat)
def jv_V (ad : Nat → Nat) : Value → Value
  | .ref q => .ref (ad q)
  | v => v
theorem jv_V_cat (ad : Nat → Nat) (v : Value) : (jv_V ad v).category = v.category := by cases v <;> rfl
/-- a cell: an array of ints (0), longs (1), chars (2), an array of rows, an object -/
abbrev jv_E : Type := (Nat × Nat × (Int → Int)) ⊕ ((Nat × (Int → Nat)) ⊕ (Nat × List Value))
abbrev jv_ai (n : Nat) (f : Int → Int) : jv_E := .inl (0, n, f)
abbrev jv_al (n : Nat) (f : Int → Int) : jv_E := .inl (1, n, f)
abbrev jv_ac (n : Nat) (f : Int → Int) : jv_E := .inl (2, n, f)
abbrev jv_aq (n : Nat) (g : Int → Nat) : jv_E := .inr (.inl (n, g))
abbrev jv_ob (ci : Nat) (fs : List Value) : jv_E := .inr (.inr (ci, fs))
def jv_tE (G : jv_G) : jv_E → va_E
  | .inl (0, n, f) => .inl (G.2.1.1, n, .inl (fun i => jv_i (f i)))
  | .inl (1, n, f) => .inl (G.2.1.2.1, n, .inr (.inl (fun i => jv_l (f i))))
  | .inl (_, n, f) => .inl (G.2.1.2.2.1, n, .inl (fun i => jv_i (f i)))
  | .inr (.inl (n, g)) => .inl (G.2.1.2.2.2, n, .inr (.inr (.inr (.inr (fun i => some (G.2.2 (g i)))))))
  | .inr (.inr (ci, fs)) => .inr (ci, fs.map (jv_V G.2.2))
def jv_ty (G : jv_G) : List (ClassId × FieldType) := [(G.2.1.1, .int), (G.2.1.2.1, .long), (G.2.1.2.2.1, .char), (G.2.1.2.2.2, .array .int)]
def jv_tr (G : jv_G) (h : List jv_E) : va_W := h.mapIdx (fun i c => (G.2.2 i, jv_tE G c))
theorem jv_tr_at {G : jv_G} {h : List jv_E} {a : Nat} {c : jv_E} (ha : h[a]? = some c) : (jv_tr G h)[a]? = some (G.2.2 a, jv_tE G c) := by
  simp [jv_tr, List.getElem?_mapIdx, ha]
theorem jv_tr_of {G : jv_G} {h : List jv_E} {a : Nat} {q : Nat × va_E} (ha : (jv_tr G h)[a]? = some q) : a < h.length ∧ q.1 = G.2.2 a := by
  simp only [jv_tr, List.getElem?_mapIdx] at ha
  cases hc : h[a]? with
  | none => rw [hc] at ha; cases ha
  | some c =>
    rw [hc] at ha
    cases ha
    exact ⟨(List.getElem?_eq_some_iff.mp hc).1, rfl⟩
theorem jv_tr_set (G : jv_G) (h : List jv_E) (a : Nat) (c : jv_E) : (jv_tr G h).set a (G.2.2 a, jv_tE G c) = jv_tr G (h.set a c) := by
  apply List.ext_getElem?
  intro i
  simp only [jv_tr, List.getElem?_set, List.getElem?_mapIdx, List.length_mapIdx]
  by_cases e : a = i
  · subst e
    by_cases hl : a < h.length <;> simp [hl]
  · simp [e]
/-- which addresses a list of N places takes: apart, and of a kind -/
def jv_D (G : jv_G) (A : Nat → Prop) (N : Nat) : Prop := (∀ i j, i < N → j < N → G.2.2 i = G.2.2 j → i = j) ∧ ∀ i, i < N → A (G.2.2 i)
theorem jv_D_of {G : jv_G} {A : Nat → Prop} {h : List jv_E} (d : jv_D G A h.length) : va_D A (jv_tr G h) := by
  refine ⟨fun i j p q hi hj e => ?_, fun k q hk => ?_⟩
  · obtain ⟨a1, a2⟩ := jv_tr_of hi
    obtain ⟨b1, b2⟩ := jv_tr_of hj
    exact d.1 i j a1 b1 (by rw [← a2, ← b2]; exact e)
  · obtain ⟨a1, a2⟩ := jv_tr_of hk
    rw [a2]
    exact d.2 k a1
theorem jv_D_to {G : jv_G} {A : Nat → Prop} {h : List jv_E} (d : va_D A (jv_tr G h)) : jv_D G A h.length := by
  have key : ∀ i, i < h.length → ∃ e, (jv_tr G h)[i]? = some (G.2.2 i, e) := fun i hi => ⟨_, jv_tr_at (List.getElem?_eq_getElem hi)⟩
  refine ⟨fun i j hi hj e => ?_, fun i hi => ?_⟩
  · obtain ⟨e1, h1⟩ := key i hi
    obtain ⟨e2, h2⟩ := key j hj
    exact d.1 i j _ _ h1 h2 e
  · obtain ⟨e1, h1⟩ := key i hi
    exact d.2 i _ h1
/-- what stands outside the world: words of nest mates, the one text constant (its text is named 1000, its bytes 1001) -/
def jv_S (ad : Nat → Nat) (A : Nat → Prop) (U : State) (H : Heap) : Prop := vk_R RX5 63 "htwdlfq" (ad 1000) U ∧ vk_S 1 [7] [[104, 116, 119, 100, 108, 102, 113]] (fun _ => ad 1000) (fun _ => ad 1001) A U H ∧ va_Z "java/lang/String" "COMPACT_STRINGS" "Z" (.int 1) A U H
def jv_X (ad : Nat → Nat) (A : Nat → Prop) (U : State) (H : Heap) : Prop := (∀ w ∈ jv_ns, va_Nw w U) ∧ jv_S ad A U H
theorem jv_X_warm {ad : Nat → Nat} {A : Nat → Prop} {s U : State} {H : Heap} (hW : s.WarmedH U.vm) (h : jv_X ad A s H) : jv_X ad A U H := by
  obtain ⟨h1, h2, h3, h4⟩ := h
  refine ⟨fun w hw => ?_, h2.warm hW, h3.moved hW.alike, h4.moved hW.alike⟩
  have h5 := h1 w hw
  simp only [jv_ns, List.mem_cons, List.not_mem_nil, or_false] at hw
  rcases hw with rfl | rfl | rfl | rfl | rfl <;> exact va_Nw.warmM hW h5
theorem jv_X_same {ad : Nat → Nat} {A : Nat → Prop} {s U : State} {H : Heap} (hv : U.vm = s.vm) (h : jv_X ad A s H) : jv_X ad A U H := by
  obtain ⟨h1, h2, h3, h4⟩ := h
  have ha : s.vm.Alike U.vm := by rw [hv]; exact Vm.Alike.refl _
  exact ⟨fun w hw => va_Nw.same (jv_ns_on w hw) hv.symm (h1 w hw), h2.same hv, h3.moved ha, h4.moved ha⟩
theorem jv_X_kept {ad : Nat → Nat} {A : Nat → Prop} {s : State} {H H1 : Heap} (hq : ∀ a : Nat, a < H.size → ¬ A a → H1[a]? = H[a]?) (h : jv_X ad A s H) : jv_X ad A s H1 := by
  obtain ⟨h1, h2, h3, h4⟩ := h
  exact ⟨h1, h2, h3.kept hq, h4.kept hq⟩
theorem jv_X_narrow {ad : Nat → Nat} {A B : Nat → Prop} {s : State} {H : Heap} (hAB : ∀ q, B q → A q) (h : jv_X ad A s H) : jv_X ad B s H := by
  obtain ⟨h1, h2, h3, h4⟩ := h
  exact ⟨h1, h2, h3.narrow hAB, h4.narrow hAB⟩
/-- locals: a list of slots, what is known of them -/
def jv_L (ad : Nat → Nat) (ls : Array Slot) (nL : Nat) (L : List (Option Value)) : Prop := ls.size = nL ∧ lv_wf ls ∧ (∀ (i : Nat) (v : Value), L[i]? = some (some v) → ls[i]? = some (.val (jv_V ad v))) ∧ L.length ≤ nL
/-- no long stands just before slot i -/
def jv_ok (L : List (Option Value)) (i : Nat) : Bool := match i with
  | 0 => true
  | j + 1 => match L[j]? with
    | some (some v) => v.category == 1
    | _ => true
def jv_ls (ad : Nat → Nat) (L : List (Option Value)) : List (Nat × Value) := (List.range L.length).filterMap (fun i => match L[i]? with | some (some v) => some (i, jv_V ad v) | _ => none)
theorem jv_ls_mem {ad : Nat → Nat} {L : List (Option Value)} {i : Nat} {v : Value} (h : L[i]? = some (some v)) : (i, jv_V ad v) ∈ jv_ls ad L := by
  refine List.mem_filterMap.mpr ⟨i, List.mem_range.mpr (List.getElem?_eq_some_iff.mp h).1, ?_⟩
  simp only [h]
theorem jv_ls_of {ad : Nat → Nat} {L : List (Option Value)} {q : Nat × Value} (h : q ∈ jv_ls ad L) : ∃ v, L[q.1]? = some (some v) ∧ q.2 = jv_V ad v := by
  obtain ⟨i, -, h1⟩ := List.mem_filterMap.mp h
  cases hi : L[i]? with
  | none => rw [hi] at h1; cases h1
  | some o =>
    cases o with
    | none => rw [hi] at h1; cases h1
    | some v =>
      rw [hi] at h1
      cases h1
      exact ⟨v, hi, rfl⟩
theorem jv_L_has {ad : Nat → Nat} {ls : Array Slot} {nL : Nat} {L : List (Option Value)} (h : jv_L ad ls nL L) : lv_has ls nL (jv_ls ad L) := ⟨h.1, h.2.1, fun q hq => by
  obtain ⟨v, h1, h2⟩ := jv_ls_of hq
  rw [h2]
  exact h.2.2.1 q.1 v h1⟩
theorem jv_L_s1 {ad : Nat → Nat} {ls : Array Slot} {nL i : Nat} {L : List (Option Value)} {v : Value} (hlen : L.length ≤ nL) (ok : jv_ok L i = true) (h : lv_has ls nL ((i, jv_V ad v) :: (jv_ls ad L).filter (fun q => !(q.1 == i) && !(q.1 + 1 == i && q.2.category == 2)))) : jv_L ad ls nL (L.set i (some v)) := by
  refine ⟨h.1, h.2.1, fun j w hj => ?_, by simpa using hlen⟩
  rw [List.getElem?_set] at hj
  by_cases e : i = j
  · subst e
    rw [if_pos rfl] at hj
    by_cases hl : i < L.length
    · rw [if_pos hl] at hj
      cases hj
      exact h.2.2 (i, jv_V ad v) List.mem_cons_self
    · rw [if_neg hl] at hj
      cases hj
  · rw [if_neg e] at hj
    refine h.2.2 (j, jv_V ad w) (List.mem_cons_of_mem _ (List.mem_filter.mpr ⟨jv_ls_mem hj, ?_⟩))
    have e1 : (j == i) = false := by simp; exact fun q => e q.symm
    simp only [e1, Bool.not_false, Bool.true_and, Bool.not_eq_true', Bool.and_eq_false_iff]
    by_cases e2 : j + 1 = i
    · refine Or.inr ?_
      subst e2
      simp only [jv_ok, hj] at ok
      rw [jv_V_cat]
      have : w.category = 1 := by simpa using ok
      simp [this]
    · exact Or.inl (by simpa using e2)
theorem jv_L_s2 {ad : Nat → Nat} {ls : Array Slot} {nL i : Nat} {L : List (Option Value)} {v : Value} (hlen : L.length ≤ nL) (ok : jv_ok L i = true) (h : lv_has ls nL ((i, jv_V ad v) :: (jv_ls ad L).filter (fun q => !(q.1 == i) && (!(q.1 == i + 1) && !(q.1 + 1 == i && q.2.category == 2))))) : jv_L ad ls nL ((L.set (i + 1) none).set i (some v)) := by
  refine ⟨h.1, h.2.1, fun j w hj => ?_, by simpa using hlen⟩
  rw [List.getElem?_set] at hj
  by_cases e : i = j
  · subst e
    rw [if_pos rfl] at hj
    by_cases hl : i < (L.set (i + 1) none).length
    · rw [if_pos hl] at hj
      cases hj
      exact h.2.2 (i, jv_V ad v) List.mem_cons_self
    · rw [if_neg hl] at hj
      cases hj
  · rw [if_neg e, List.getElem?_set] at hj
    by_cases e3 : i + 1 = j
    · subst e3
      rw [if_pos rfl] at hj
      by_cases hl : i + 1 < L.length
      · rw [if_pos hl] at hj; cases hj
      · rw [if_neg hl] at hj; cases hj
    · rw [if_neg e3] at hj
      refine h.2.2 (j, jv_V ad w) (List.mem_cons_of_mem _ (List.mem_filter.mpr ⟨jv_ls_mem hj, ?_⟩))
      have e1 : (j == i) = false := by simp; exact fun q => e q.symm
      have e4 : (j == i + 1) = false := by simp; exact fun q => e3 q.symm
      simp only [e1, e4, Bool.not_false, Bool.true_and, Bool.not_eq_true', Bool.and_eq_false_iff]
      by_cases e2 : j + 1 = i
      · refine Or.inr ?_
        subst e2
        simp only [jv_ok, hj] at ok
        rw [jv_V_cat]
        have : w.category = 1 := by simpa using ok
        simp [this]
      · exact Or.inl (by simpa using e2)
/-- the locals at a method's entry -/
def jv_La : List Value → List (Option Value)
  | [] => []
  | v :: vs => if v.category = 2 then some v :: none :: jv_La vs else some v :: jv_La vs
def jv_L0 (nL : Nat) (vs : List Value) : List (Option Value) := jv_La vs ++ List.replicate (nL - (jv_La vs).length) none
theorem jv_La_mem (ad : Nat → Nat) : ∀ (vs : List Value) (k i : Nat) (v : Value), (jv_La vs)[i]? = some (some v) → (k + i, jv_V ad v) ∈ lv_args k (vs.map (jv_V ad))
  | [], _, i, v, h => by simp [jv_La] at h
  | w :: vs, k, i, v, h => by
    simp only [List.map_cons, lv_args, jv_V_cat]
    by_cases hc : w.category = 2
    · rw [if_pos hc]
      rw [jv_La, if_pos hc] at h
      match i, h with
      | 0, h => cases h; exact List.mem_cons_self
      | 1, h => cases h
      | i + 2, h =>
        have := jv_La_mem ad vs (k + 2) i v h
        rw [show k + (i + 2) = k + 2 + i by omega]
        exact List.mem_cons_of_mem _ this
    · rw [if_neg hc]
      rw [jv_La, if_neg hc] at h
      match i, h with
      | 0, h => cases h; exact List.mem_cons_self
      | i + 1, h =>
        have := jv_La_mem ad vs (k + 1) i v h
        rw [show k + (i + 1) = k + 1 + i by omega]
        exact List.mem_cons_of_mem _ this
theorem jv_L0_has {ad : Nat → Nat} {ls : Array Slot} {nL : Nat} {vs : List Value} (hlen : (jv_La vs).length ≤ nL) (h : lv_has ls nL (lv_args 0 (vs.map (jv_V ad)))) : jv_L ad ls nL (jv_L0 nL vs) := by
  refine ⟨h.1, h.2.1, fun i v hi => ?_, by simp [jv_L0]; omega⟩
  have hi2 : (jv_La vs)[i]? = some (some v) := by
    unfold jv_L0 at hi
    by_cases hl : i < (jv_La vs).length
    · rwa [List.getElem?_append_left hl] at hi
    · rw [List.getElem?_append_right (by omega), List.getElem?_replicate] at hi
      by_cases h2 : i - (jv_La vs).length < nL - (jv_La vs).length
      · rw [if_pos h2] at hi; cases hi
      · rw [if_neg h2] at hi; cases hi
  have := jv_La_mem ad vs 0 i v hi2
  rw [Nat.zero_add] at this
  exact h.2.2 _ this
