/-! the making of an array of arrays, by the machine's own words for it -/
theorem jn_arrV_cg (cA : ClassId) (N : Nat) {f g : Nat → Value} (e : ∀ j, j < N → f j = g j) : arrV cA N f = arrV cA N g := by
  have q : (fun j : Fin N => f j.val) = fun j : Fin N => g j.val := funext fun j => e j.val j.isLt
  unfold arrV
  rw [q]
section
variable {E : CtlPost} {e : Env} {d : Bool} {acts : List Action}
/-- one row of eight ints -/
theorem jn_eight {t : State} {cI cc : ClassId} {kI : Class} (hk : t.vm.classes[cI]? = some kI) (hI : kI.kind = .array cc .int) (hl : ¬ 8 > e.platform.arrayLengthLimit) (hb : ¬ 8 * componentBytes .int > e.platform.maxHeapBytes) (h1 : t.heap.size < e.platform.maxCells) (h2 : t.slotsUsed + 8 ≤ e.platform.maxSlots) {Q : Addr → Pre} (hq : ∀ a, Q t.heap.size d a (t.pushCell (arrV cI 8 (fun _ => defaultValue .int)))) : wp (Jvm.Op.multianewarray.make cI [jv_i 8]) Q E e d acts t := by
  have e8 : (jv_i 8).toNatClampNeg = 8 := by decide
  have n8 : ¬ jv_i 8 < 0 := by decide
  unfold Jvm.Op.multianewarray.make
  simp only [wp_bind', W.ite, n8, if_false, wp_pure', W.theClass, hk, hI, Option.some.injEq, exists_eq_left', e8]
  refine W.newArray_of hk hI hl hb h1 h2 rfl (fun a => ?_)
  have q := hq a
  rw [← arrV_new] at q
  exact q
end
section
variable {p : Program} {l : Launch} {e : Env} {R : Room} {s : State} {m : MethodId} {args : Array Value} {below : List Frame} {meth : Method} {c : Code}
/-- T with the outer row and i inner ones -/
def jn_Gr (p : Program) (l : Launch) (e : Env) (R : Room) (s : State) (m : MethodId) (args : Array Value) (below : List Frame) (meth : Method) (c : Code) (T : State) (locs : List Loc) (cells slots : Nat) (cA cI : ClassId) (i : Nat) (U : State) : Prop :=
  Stand p l e R s m args below meth c U locs (cells + (1 + i)) (slots + (30 + 8 * i)) ∧ U.vm = T.vm ∧ U.heap.size = T.heap.size + 1 + i ∧ U.slotsUsed = T.slotsUsed + (30 + 8 * i) ∧ (∀ q, q < T.heap.size → U.heap[q]? = T.heap[q]?) ∧ U.heap[T.heap.size]? = some (arrV cA 30 (fun j => if j < i then Value.ref (T.heap.size + 1 + j) else .null)) ∧ ∀ j, j < i → U.heap[T.heap.size + 1 + j]? = some (arrV cI 8 (fun _ => defaultValue .int))
theorem jn_Gr0 {T : State} {locs : List Loc} {cells slots : Nat} (X : Stand p l e R s m args below meth c T locs cells slots) (cA cI : ClassId) : jn_Gr p l e R s m args below meth c T locs cells slots cA cI 0 (T.pushCell (arrV cA 30 (fun _ => .null))) := by
  have hs : (arrV cA 30 (fun _ => Value.null)).slots.size = 30 := arrV_size ..
  have Y := X.pushed (arrV cA 30 (fun _ => .null))
  rw [hs] at Y
  refine ⟨Y, rfl, ?_, ?_, fun q hq => State.heap_pushCell_of_lt _ _ hq, ?_, fun j hj => absurd hj (Nat.not_lt_zero j)⟩
  · simp
  · simp [hs]
  · rw [State.heap_pushCell_size]
    exact congrArg some (jn_arrV_cg cA 30 (fun j _ => by rw [if_neg (Nat.not_lt_zero j)]))
theorem jn_Gr1 {T U : State} {locs : List Loc} {cells slots i : Nat} {cA cI : ClassId} (X : Stand p l e R s m args below meth c T locs cells slots) (g : jn_Gr p l e R s m args below meth c T locs cells slots cA cI i U) : jn_Gr p l e R s m args below meth c T locs cells slots cA cI (i + 1) ((U.pushCell (arrV cI 8 (fun _ => defaultValue .int))).setCell T.heap.size ((arrV cA 30 (fun j => if j < i then Value.ref (T.heap.size + 1 + j) else .null)).setSlot i (.ref U.heap.size))) := by
  obtain ⟨Y, g1, g2, g3, g4, g5, g6⟩ := g
  have hs : (arrV cI 8 (fun _ => defaultValue .int)).slots.size = 8 := arrV_size ..
  have lt : T.heap.size < U.heap.size := by omega
  have Z := Y.pushed (arrV cI 8 (fun _ => defaultValue .int))
  rw [hs] at Z
  have hc : (U.pushCell (arrV cI 8 (fun _ => defaultValue .int))).heap[T.heap.size]? = some (arrV cA 30 (fun j => if j < i then Value.ref (T.heap.size + 1 + j) else .null)) := (State.heap_pushCell_of_lt _ _ lt).trans g5
  have V := (Z.stored hc i (.ref U.heap.size)).dropFresh (J := [⟨T.heap.size, i⟩]) (fun x hx => by
    rw [List.mem_singleton.mp hx]
    exact X.heapGrown)
  refine ⟨?_, g1, ?_, ?_, fun q hq => ?_, ?_, fun j hj => ?_⟩
  · have a1 : cells + (1 + i) + 1 = cells + (1 + (i + 1)) := by omega
    have a2 : slots + (30 + 8 * i) + 8 = slots + (30 + 8 * (i + 1)) := by omega
    rw [a1, a2] at V
    exact V
  · simp [State.setCell, g2]; omega
  · simp [hs, g3]; omega
  · rw [State.heap_setCell_other (show T.heap.size ≠ q by omega), State.heap_pushCell_of_lt (h := show q < U.heap.size by omega)]
    exact g4 q hq
  · rw [State.heap_setCell_self hc, arrV_store, g2]
    refine congrArg some (jn_arrV_cg cA 30 (fun j _ => ?_))
    unfold updV
    by_cases e : j = i
    · subst e; rw [if_pos rfl, if_pos (by omega)]
    · by_cases q : j < i
      · rw [if_neg e, if_pos (show j < i + 1 by omega)]; exact if_pos q
      · rw [if_neg e, if_neg (show ¬ j < i + 1 by omega)]; exact if_neg q
  · rw [State.heap_setCell_other (show T.heap.size ≠ T.heap.size + 1 + j by omega)]
    by_cases q : j = i
    · subst q
      rw [← g2]
      exact State.heap_pushCell_size _ _
    · rw [State.heap_pushCell_of_lt (h := show T.heap.size + 1 + j < U.heap.size by omega)]
      exact g6 j (by omega)
def jn_mk (T : State) (cA cI : ClassId) : Nat → State
  | 0 => T.pushCell (arrV cA 30 (fun _ => .null))
  | i + 1 => ((jn_mk T cA cI i).pushCell (arrV cI 8 (fun _ => defaultValue .int))).setCell T.heap.size ((arrV cA 30 (fun j => if j < i then Value.ref (T.heap.size + 1 + j) else .null)).setSlot i (.ref (jn_mk T cA cI i).heap.size))
theorem jn_mkG {T : State} {locs : List Loc} {cells slots : Nat} (X : Stand p l e R s m args below meth c T locs cells slots) (cA cI : ClassId) : ∀ i, jn_Gr p l e R s m args below meth c T locs cells slots cA cI i (jn_mk T cA cI i)
  | 0 => jn_Gr0 X cA cI
  | i + 1 => jn_Gr1 X (jn_mkG X cA cI i)
/-- the machine's 'make' of an int[30][8] -/
theorem jn_thirty {E : CtlPost} {d : Bool} {acts : List Action} {T : State} {locs : List Loc} {cells slots : Nat} {cA cI cc : ClassId} {kA kI : Class} (X : Stand p l e R s m args below meth c T locs cells slots) (f : JFrame) (hkA : T.vm.classes[cA]? = some kA) (hA : kA.kind = .array cI (.array .int)) (hkI : T.vm.classes[cI]? = some kI) (hI : kI.kind = .array cc .int) (hl : 30 ≤ e.platform.arrayLengthLimit) (hb : 120 ≤ e.platform.maxHeapBytes) (h1 : T.heap.size + 31 ≤ e.platform.maxCells) (h2 : T.slotsUsed + 270 ≤ e.platform.maxSlots) {Q : Addr → Pre} (hq : ∀ b a, Q T.heap.size b a ((jn_mk T cA cI 30).setTop f)) : wp (Jvm.Op.multianewarray.make cA [jv_i 30, jv_i 8]) Q E e d acts (T.setTop f) := by
  have e30 : (jv_i 30).toNatClampNeg = 30 := by decide
  have n30 : ¬ jv_i 30 < 0 := by decide
  have z30 : (jv_i 30 == 0) = false := by decide
  have hkA' : (T.setTop f).vm.classes[cA]? = some kA := hkA
  unfold Jvm.Op.multianewarray.make
  simp only [wp_bind', W.ite, n30, if_false, wp_pure', W.theClass, hkA', hA, Option.some.injEq, exists_eq_left', e30, z30, Bool.false_eq_true]
  refine W.newArray_of hkA' hA (by omega) (show ¬ 30 * 4 > _ by omega) (show T.heap.size < _ by omega) (show T.slotsUsed + 30 ≤ _ by omega) rfl (fun a => ?_)
  rw [arrV_new, wp_bind', Std.Legacy.Range.forIn_eq_forIn_range']
  show wp (forIn (List.range' 0 30 1) PUnit.unit _) _ E e d a _
  refine wp_forIn_inv (fun r t => ∃ i, i ≤ 30 ∧ r = List.range' i (30 - i) ∧ t = (jn_mk T cA cI i).setTop f) _ _ ⟨0, Nat.zero_le 30, rfl, rfl⟩ ?_ ?_
  · rintro x r t b a2 Q2 ⟨i, hi, hr, rfl⟩ nx
    obtain ⟨Y, g1, g2, g3, g4, g5, g6⟩ := jn_mkG X cA cI i
    by_cases q : i = 30
    · subst q; cases hr
    · obtain ⟨j, hj⟩ : ∃ j, 30 - i = j + 1 := ⟨29 - i, by omega⟩
      rw [hj, List.range'_succ] at hr
      injection hr with hx hr
      subst hx
      have ej : j = 30 - (x + 1) := by omega
      subst ej
      simp only [wp_bind']
      refine jn_eight (t := (jn_mk T cA cI x).setTop f) (show (jn_mk T cA cI x).vm.classes[cI]? = some kI by rw [g1]; exact hkI) hI (by omega) (show ¬ 8 * 4 > _ by omega) (show (jn_mk T cA cI x).heap.size < _ by omega) (show (jn_mk T cA cI x).slotsUsed + 8 ≤ _ by omega) (fun a3 => ?_)
      rw [wp_bind', W.writeLoc]
      simp only [wp_pure']
      refine ⟨_, (State.heap_pushCell_of_lt _ _ (show T.heap.size < (jn_mk T cA cI x).heap.size by omega)).trans g5, (fun q => by cases q), (by rw [arrV_size]; omega), ?_, nx _ _ _ ⟨x + 1, by omega, hr, rfl⟩⟩
      have hk9 : (jn_mk T cA cI x).vm.classes[cA]? = some kA := by rw [g1]; exact hkA
      simp [State.fitsSlot, State.slotType?, arrV, hk9, hA]
      rfl
  · rintro t b a2 ⟨i, hi, hr, rfl⟩
    have q : i = 30 := by
      by_cases q : i = 30
      · exact q
      · obtain ⟨j, hj⟩ : ∃ j, 30 - i = j + 1 := ⟨29 - i, by omega⟩
        rw [hj, List.range'_succ] at hr
        cases hr
    subst q
    simp only [wp_pure']
    exact hq _ _
end
theorem jn_ma : jn_MA := by
  intro X cc own K B pc idx L S h cells slots d w1 w2 hl hc hs kk
  obtain ⟨⟨p, l, e, R, s⟩, ⟨m, args, below, meth, c⟩, Q, ⟨G, base, nL⟩⟩ := X
  intro C hN H locs ls hz hP hS hL
  have C9 := C
  obtain ⟨hx, hb, hml, hown, hts, hK, hbs, had, hR, hB1, hB2, hAO⟩ := C9
  intro T hT Xs
  obtain ⟨cI, cA, kA, fI, -, hkA, hA, fA⟩ := arrayOverA_spec (over_moved (a' := args) (E := s) (Vm.Alike.refl _) hAO.1)
  obtain ⟨cJ, kI, cz, fJ, hkI, hI⟩ := Cond.arrayClass_spec (hts _ w2)
  obtain ⟨cB, fB, lk⟩ := Cond.classLink_spec hown (hts _ w1) e.platform (by rw [Xs.admits.platform])
  have e1 : cJ = cI := Option.some.inj (fJ.symm.trans fI)
  have e2 : cB = cA := Option.some.inj (fB.symm.trans fA)
  have eA : cA = G.2.1.2.2.2 := Option.some.inj (fA.symm.trans (hK.2 3 (G.2.1.2.2.2, .array .int) rfl).2)
  have eI : cI = G.2.1.1 := Option.some.inj (fI.symm.trans (hK.2 0 (G.2.1.1, .int) rfl).2)
  subst e1; subst e2; subst eA; subst eI
  obtain ⟨y1, y2, y3⟩ := State.classEntry (e := e) Xs.warmed lk
  generalize T.vm.noted m.cls idx (.cls G.2.1.2.2.2) = vm₁ at y1 y2 y3
  obtain ⟨kA₁, z1, z2⟩ := y2.alike.2.2 _ _ hkA
  obtain ⟨kI₁, z3, z4⟩ := y2.alike.2.2 _ _ hkI
  have X₁ := Xs.noted y2
  obtain ⟨r1, r2⟩ := Xs.roomAbove (a := 31) (b := 270) (Nat.le_trans (by omega) hB1) (Nat.le_trans (by omega) hB2)
  obtain ⟨X', g1, f1, -, f3, f2, f4⟩ := jn_mkG X₁ G.2.1.2.2.2 G.2.1.1 30
  have hsz : (T.setVm vm₁).heap.size = base + h.length := by show T.heap.size = _; rw [hT]; exact hz
  have hh : (T.setVm vm₁).heap = H := hT
  rw [hsz] at f1 f2 f3 f4
  rw [hh] at f3
  have e9 := had h.length (by omega)
  obtain ⟨U, eU⟩ : ∃ U, jn_mk (T.setVm vm₁) G.2.1.2.2.2 G.2.1.1 30 = U := ⟨_, rfl⟩
  rw [eU] at X' f1 f2 f3 f4
  have f5 : U.heap[base + h.length]? = some (arrV G.2.1.2.2.2 30 (fun j => Value.ref (G.2.2 (h.length + 1 + ((j : Nat) : Int).toNat)))) := by
    rw [f2]
    exact congrArg some (jn_arrV_cg _ 30 (fun j hj => by rw [if_pos hj, Int.toNat_natCast, had _ (by omega), Nat.add_assoc base, Nat.add_assoc base]))
  have hP1 : va_P G.1 jv_cl (jv_tr G (h ++ (jv_aq 30 (fun i => h.length + 1 + i.toNat) :: List.replicate 30 (jv_ai 8 (fun _ => 0))))) U.heap := by
    intro k q hq
    simp only [jv_tr, List.getElem?_mapIdx] at hq
    by_cases hk : k < h.length
    · rw [List.getElem?_append_left hk] at hq
      have hq2 : (jv_tr G h)[k]? = some q := by simp only [jv_tr, List.getElem?_mapIdx]; exact hq
      have hv := hP k q hq2
      exact hv.kept (f3 q.1 (by rw [← hz]; exact hv.lt))
    · rw [List.getElem?_append_right (by omega)] at hq
      by_cases hk2 : k = h.length
      · subst hk2
        rw [Nat.sub_self] at hq
        cases hq
        show _ = some (vp_cell _ _)
        rw [e9, f5]
        rfl
      · obtain ⟨j, hj⟩ : ∃ j, k - h.length = j + 1 := ⟨k - h.length - 1, by omega⟩
        rw [hj, List.getElem?_cons_succ, List.getElem?_replicate] at hq
        by_cases hj30 : j < 30
        · rw [if_pos hj30] at hq
          cases hq
          show _ = some (vp_cell _ _)
          rw [had k (by omega), show base + k = base + h.length + 1 + j by omega, f4 j hj30]
          rfl
        · rw [if_neg hj30] at hq
          cases hq
  have hlen : (h ++ (jv_aq 30 (fun i => h.length + 1 + i.toNat) :: List.replicate 30 (jv_ai 8 (fun _ => 0)))).length = h.length + 31 := by simp
  obtain ⟨t, a1, b1⟩ := kk C (by rw [hlen]; omega) U.heap locs ls (by rw [f1, hlen]; omega) hP1 (jn_S hS hz (by rw [f1]; omega) f3) hL U rfl X'
  have key : ∀ (g : JFrame) (r : List Value), g.method = m → decode c.code g.pc = .ok (.multianewarray idx 2, 4) → g.stack = .int (jv_i 8) :: .int (jv_i 30) :: r → Steps p.tables e below (U.setTop { g with pc := g.pc + 4, stack := .ref T.heap.size :: r }) t → Steps p.tables e below (T.setTop g) t := by
    intro g r eg dg hst go
    subst eg
    jvm_step Xs.here [hx, dg]
    simp only [Jvm.Op.multianewarray.sem, wp_bind', W.resolveClassAt_links (State.method?_setTop g Xs.here.top) y1]
    rw [W.popN, if_neg (by decide)]
    refine ⟨g, State.topJava?_setTop' (s := T.setVm vm₁) g Xs.here.top, [.int (jv_i 30), .int (jv_i 8)], r, rfl, hst, ?_⟩
    simp only [List.mapM_cons, List.mapM_nil, wp_bind', wp_pure']
    have es : ((T.setTop g).setVm vm₁).setTop { g with stack := r } = (T.setVm vm₁).setTop { g with stack := r } := State.setTop_setTop (s := T.setVm vm₁) ..
    rw [es]
    refine jn_thirty (kA := kA₁) (kI := kI₁) (cc := cz) X₁ { g with stack := r } z1 (by rw [z2]; exact hA) z3 (by rw [z4]; exact hI) (by rw [Launch.admits_arrayLengthLimit Xs.admits]; omega) (by rw [Launch.admits_maxHeapBytes Xs.admits]; omega) r1 r2 (fun b a => ?_)
    rw [eU]
    simp only [wp_bind', W.mark, W.pushRef, State.topJava?_setTop' _ X'.here.top, Option.some.injEq, exists_eq_left', State.setTop_setTop]
    intro _
    simp [jvm, X'.here.top]
    exact go
  refine ⟨t, key _ (S.map (jv_V G.2.2)) rfl (by rw [hb]; exact d) rfl ?_, b1⟩
  have e7 : T.heap.size = G.2.2 h.length := by rw [hT, hz, e9]
  rw [e7]
  exact a1
/-- from the entry, for every script of at most 2560 ints, the law comes to its end with true -/
theorem whole_start {p : Program} {e : Env} {s : State} {m : MethodId} {below : List Frame} {meth : Method} {c : Code} (l : Launch) {b L : Nat} {xs : Nat → Int32} (hL : L ≤ 2560) (C0 : lw_At p s m meth c b L xs) : W p l e room_1 s m #[Value.ref b] below meth c s.heap [] 0 0 (lw_Z below #[Value.ref b] s) (entryFrame m ([Value.ref b] : List Value).toArray 4) := whole_startM jn_ma l hL C0
