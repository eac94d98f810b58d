/-! THE JUDGEMENT jv_J: the machine, at pc of a method with slots L, operands S and the world h, comes to its end; the contract jv_Ct -/
abbrev jv_M : Type := (Program × Launch × Env × Room × State) × (MethodId × Array Value × List Frame × Method × Code) × (Nat × Nat × (State → Prop)) × (jv_G × (Nat → Prop) × Nat × Nat)
def jv_C (p : Program) (R : Room) (s : State) (m : MethodId) (args : Array Value) (c : Code) (G : jv_G) (A : Nat → Prop) (N nL : Nat) (cc : ByteArray) (own : String) (K cells slots : Nat) : Prop :=
  p.tables.exec = Jvm.exec ∧ c.code = cc ∧ c.maxLocals = nL ∧ s.vm.findClass own = some m.cls ∧ (∀ w ∈ jv_T, w.before args s = true) ∧ va_K G.1 jv_cl (jv_ty G) s ∧ (∀ q, s.heap.size ≤ q → A q) ∧ jv_D G A N ∧ jv_X G.2.2 A s s.heap ∧ (K ≤ R.frames ∧ 40 * K ≤ R.locals) ∧ cells ≤ R.cells ∧ slots ≤ R.slots
def jv_J (X : jv_M) (cc : ByteArray) (own : String) (K pc : Nat) (L : List (Option Value)) (S : List Value) (h : List jv_E) : Prop := match X with
  | ((p, l, e, R, s), (m, args, below, meth, c), (cells, slots, Q), (G, A, N, nL)) => jv_C p R s m args c G A N nL cc own K cells slots → h.length = N → ∀ (H : Heap) (locs : List Loc) (ls : Array Slot), va_P G.1 jv_cl (jv_tr G h) H → va_S A s.heap H locs → jv_L G.2.2 ls nL L → W p l e R s m args below meth c H locs cells slots Q (F0 m pc ls (S.map (jv_V G.2.2)))
def jv_rm (K : Nat) : Room := { frames := K, cells := 0, slots := 0, locals := 40 * K }
def jv_Q (G : jv_G) (A : Nat → Prop) (N : Nat) (post : Option Value → List jv_E → Prop) : Array Value → State → Outcome → State → Prop := fun _ st oc t => (∃ (v : Option Value) (h' : List jv_E), oc = .returned (v.map (jv_V G.2.2)) ∧ post v h' ∧ h'.length = N ∧ va_P G.1 jv_cl (jv_tr G h') t.heap) ∧ va_F A st t
def jv_P (G : jv_G) (sz : Nat) (av : List Value) (h : List jv_E) : Array Value → State → Prop := va_Pc (av.map (jv_V G.2.2)) (fun U => U.heap.size = sz ∧ va_P G.1 jv_cl (jv_tr G h) U.heap ∧ va_K G.1 jv_cl (jv_ty G) U ∧ va_D (fun _ => True) (jv_tr G h) ∧ jv_X G.2.2 (va_A (jv_tr G h) sz) U U.heap)
def jv_Ct (y : MethodName) (cc : ByteArray) (maxL : Nat) (ret : Option FieldType) (K : Nat) (av : List Value) (h : List jv_E) (post : Option Value → List jv_E → Prop) : Prop :=
  ∀ (l : Launch) (G : jv_G) (sz : Nat), Met l y (.code y cc maxL ret :: jv_T) (jv_rm K) (jv_P G sz av h) (jv_Q G (va_A (jv_tr G h) sz) h.length post) 0 0 (va_A (jv_tr G h) sz)
def jv_ret (X : jv_M) (ret : Option FieldType) (post : Option Value → List jv_E → Prop) : Prop := match X with
  | ((_, _, _, _, s), (_, args, below, meth, _), (cells, slots, Q), (G, A, N, _)) => Q = MQ below (jv_Q G A N post) args s 0 0 A ∧ cells = 0 ∧ slots = 0 ∧ meth.sig.returnType = ret ∧ meth.locks = false
theorem jv_sl_len (ad : Nat → Nat) : ∀ vs : List Value, (lg_sl (vs.map (jv_V ad))).length = (jv_La vs).length
  | [] => rfl
  | v :: vs => by
    have ih := jv_sl_len ad vs
    simp only [List.map_cons, lg_sl, List.flatMap_cons, List.length_append, jv_V_cat] at ih ⊢
    by_cases hc : v.category = 2
    · rw [if_pos hc, jv_La, if_pos hc, ih]; simp; omega
    · rw [if_neg hc, jv_La, if_neg hc, ih]; simp; omega
/-- a contract out of the walk of a body -/
theorem jv_entry {y : MethodName} {cc : ByteArray} {maxL : Nat} {ret : Option FieldType} {K : Nat} {av : List Value} {h : List jv_E} {post : Option Value → List jv_E → Prop} {own : String} (hy : plainName y.cls = true) (ho : y.cls = own) (hl : (jv_La av).length ≤ maxL)
    (body : ∀ X : jv_M, jv_ret X ret post → jv_J X cc own K 0 (jv_L0 maxL av) [] h) : jv_Ct y cc maxL ret K av h post := by
  intro l G sz
  refine Met.ofW (cc := cc) (maxL := maxL) (ret := ret) hy rfl ?_
  intro p e s m args below meth c s₁ B hml hv
  obtain ⟨rfl, hsz, hP, hK, hD0, hX⟩ := hv
  have hts := atoms_spec (ws := .code y cc maxL ret :: jv_T) B.pre
  have hown : s.vm.findClass own = some m.cls := by rw [← ho]; exact findClass_of_methodNamed B.named
  subst hsz
  rw [lg_entry_eq]
  have hl' := lv_entry (av.map (jv_V G.2.2)) (n := maxL) (by rw [jv_sl_len]; exact hl)
  have J := body ((p, l, e, jv_rm K, s), (m, (av.map (jv_V G.2.2)).toArray, below, meth, c), (0, 0, MQ below (jv_Q G (va_A (jv_tr G h) s.heap.size) h.length post) (av.map (jv_V G.2.2)).toArray s 0 0 (va_A (jv_tr G h) s.heap.size)), (G, va_A (jv_tr G h) s.heap.size, h.length, maxL)) ⟨rfl, rfl, rfl, B.returns, B.notSynchronized⟩
  exact J ⟨B.exec, B.bytes, hml, hown, fun w hw => hts w (List.mem_cons_of_mem _ hw), hK, fun q hq => Or.inr hq, jv_D_to (hD0.self), hX, ⟨Nat.le_refl _, Nat.le_refl _⟩, Nat.zero_le _, Nat.zero_le _⟩ rfl s.heap [] _ hP va_S.rf (jv_L0_has hl hl')
/-- behind a call -/
theorem jv_goon {p : Program} {l : Launch} {e : Env} {R : Room} {s : State} {m : MethodId} {args : Array Value} {below : List Frame} {meth : Method} {c : Code} {H : Heap} {locs : List Loc} {cells slots : Nat} {Q : State → Prop} {pc : Nat} {ls : Array Slot} {rest st0 : List Value} {a : Array Value} {A0 A1 : Nat → Prop} {G : jv_G} {N : Nat} {post : Option Value → List jv_E → Prop}
    (hr : va_Run p l e R s m args below meth c H locs cells slots 0 0 (F0 m pc ls st0) rest (jv_Q G A1 N post a) A1) (hS : va_S A0 s.heap H locs) (hA : ∀ q, A1 q → A0 q)
    (kk : ∀ (v : Option Value) (h' : List jv_E) (H1 : Heap) (locs1 : List Loc), post v h' → h'.length = N → va_P G.1 jv_cl (jv_tr G h') H1 → va_S A0 s.heap H1 locs1 → W p l e R s m args below meth c H1 locs1 cells slots Q (F0 m (pc + 3) ls ((v.map (jv_V G.2.2)).toList ++ rest))) : W p l e R s m args below meth c H locs cells slots Q (F0 m pc ls st0) := by
  intro T hT X
  obtain ⟨v, st₀, t, T', L, h0, X', hL, e1, e2, ⟨⟨v', h', hv, hp, hn, hP'⟩, hz, hk⟩, st⟩ := hr T hT X
  cases hv
  rw [h0] at hz hk
  obtain ⟨t2, a1, b1⟩ := kk v' h' T'.heap (locs ++ L) hp hn (by rw [e1]; exact hP')
    ⟨Nat.le_trans hS.1 (by rw [e1]; exact hz), fun q h1 h2 => by rw [e1, hk q (Nat.lt_of_lt_of_le h1 hS.1) (fun z => h2 (hA q z))]; exact hS.2.1 q h1 h2, fun q hq => by
      rcases List.mem_append.mp hq with h | h
      · exact hS.2.2 q h
      · exact hA _ (hL q h)⟩ T' rfl X'
  exact ⟨t2, st t2 a1, b1⟩
theorem jv_good {y : MethodName} {bytes : ByteArray} {maxL : Nat} {ret : Option FieldType} (h : Cond.code y bytes maxL ret ∈ jv_T) : GoodIn jv_T (.code y bytes maxL ret :: jv_T) := fun w hw => by
  have hm : w ∈ jv_T := by
    rcases List.mem_cons.mp hw with rfl | q
    · exact h
    · exact q
  exact ⟨hm, good_of_word (List.mem_filter.mp hm).2⟩
theorem jv_blind {G : jv_G} {sz : Nat} {av : List Value} {h : List jv_E} : FrameBlind (jv_P G sz av h) := fun a U g mk q => by
  obtain ⟨q0, q1, qP, qK, qD, qX⟩ := q
  exact ⟨q0, q1, qP, va_K.moved (u := U) (U := U.calling g mk a) (Vm.Alike.refl U.vm) qK, qD, jv_X_same (s := U) (U := U.calling g mk a) rfl qX⟩
theorem jv_pre {p : Program} {R : Room} {s : State} {m : MethodId} {args : Array Value} {c : Code} {G : jv_G} {A : Nat → Prop} {N nL : Nat} {cc : ByteArray} {own : String} {K cells slots : Nat} {H : Heap} {locs : List Loc} {h : List jv_E} {av : List Value} (C : jv_C p R s m args c G A N nL cc own K cells slots) (hN : h.length = N) (hP : va_P G.1 jv_cl (jv_tr G h) H) (hS : va_S A s.heap H locs) :
    (∀ q, va_A (jv_tr G h) H.size q → A q) ∧ ∀ U : State, U.heap = H → s.WarmedH U.vm → jv_P G H.size av h (av.map (jv_V G.2.2)).toArray U := by
  obtain ⟨hx, hb, hml, hown, hts, hK, hA, hD, hX, hR, hR2⟩ := C
  subst hN
  have hF : ∀ q, va_A (jv_tr G h) H.size q → A q := fun q hq => by
    rcases hq with ⟨k, e, hk⟩ | hq
    · exact (jv_D_of hD).2 k _ hk
    · exact hA q (Nat.le_trans hS.1 hq)
  refine ⟨hF, fun U hU hW => ⟨rfl, by rw [hU], by rw [hU]; exact hP, va_K.moved hW.alike hK, (jv_D_of hD).weaken (fun _ _ _ _ => trivial), ?_⟩⟩
  rw [hU]
  exact jv_X_warm hW (jv_X_narrow hF (jv_X_kept hS.2.1 hX))
