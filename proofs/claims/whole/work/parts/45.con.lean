/-! CONSTRUCTORS: addresses are exact (place i < 1000 lies at base + i), the world grows -/
abbrev jn_M : Type := (Program × Launch × Env × Room × State) × (MethodId × Array Value × List Frame × Method × Code) × (State → Prop) × (jv_G × Nat × Nat)
def jn_ns : List Cond := [.methodLinkNest RX7 9 yX3_init RX7, .methodLinkNest RX7 18 yX2_init RX7, .methodLinkNest RX7 25 yX0_init RX7, .methodLinkNest RX7 32 yX5_init RX7, .methodLinkNest RX7 39 yX6_init RX7, .methodLinkNest RX7 49 yX1_init RX7, .methodLinkNest RX7 56 yX4_init RX7]
theorem jn_ns_in : ∀ w ∈ jn_ns, w ∈ lw_tbl := by decide +kernel
theorem jn_ns_on : ∀ w ∈ jn_ns, w.onTables = true := by decide +kernel
def jn_AO (U : State) : Prop := (Cond.arrayOver (.array .int)).before #[] U = true ∧ ∀ w ∈ jn_ns, va_Nw w U
theorem jn_AO_warm {s U : State} (hW : s.WarmedH U.vm) (h : jn_AO s) : jn_AO U := by
  refine ⟨over_moved hW.alike h.1, fun w hw => ?_⟩
  have h5 := h.2 w hw
  simp only [jn_ns, List.mem_cons, List.not_mem_nil, or_false] at hw
  rcases hw with rfl | rfl | rfl | rfl | rfl | rfl | rfl <;> exact va_Nw.warmM hW h5
theorem jn_AO_same {s U : State} (hv : U.vm = s.vm) (h : jn_AO s) : jn_AO U := by
  have ha : s.vm.Alike U.vm := by rw [hv]; exact Vm.Alike.refl _
  exact ⟨over_moved ha h.1, fun w hw => va_Nw.same (jn_ns_on w hw) hv.symm (h.2 w hw)⟩
def jn_C (p : Program) (R : Room) (s : State) (m : MethodId) (args : Array Value) (c : Code) (G : jv_G) (base nL : Nat) (cc : ByteArray) (own : String) (K : Nat) (B : Nat × Nat) : Prop :=
  p.tables.exec = Jvm.exec ∧ c.code = cc ∧ c.maxLocals = nL ∧ s.vm.findClass own = some m.cls ∧ (∀ w ∈ jv_T, w.before args s = true) ∧ va_K G.1 jv_cl (jv_ty G) s ∧ base ≤ s.heap.size ∧ (∀ i, i < 1000 → G.2.2 i = base + i) ∧ (K ≤ R.frames ∧ 40 * K ≤ R.locals) ∧ B.1 ≤ R.cells ∧ B.2 ≤ R.slots ∧ jn_AO s
def jn_J (X : jn_M) (cc : ByteArray) (own : String) (K : Nat) (B : Nat × Nat) (pc : Nat) (L : List (Option Value)) (S : List Value) (h : List jv_E) (cells slots : Nat) : Prop := match X with
  | ((p, l, e, R, s), (m, args, below, meth, c), Q, (G, base, nL)) => jn_C p R s m args c G base nL cc own K B → h.length ≤ 1000 → ∀ (H : Heap) (locs : List Loc) (ls : Array Slot), H.size = base + h.length → va_P G.1 jv_cl (jv_tr G h) H → va_S (fun q => base ≤ q) s.heap H locs → jv_L G.2.2 ls nL L → W p l e R s m args below meth c H locs cells slots Q (F0 m pc ls (S.map (jv_V G.2.2)))
def jn_P (G : jv_G) (base : Nat) (av : List Value) (h : List jv_E) : Array Value → State → Prop := va_Pc (av.map (jv_V G.2.2)) (fun U => U.heap.size = base + h.length ∧ va_P G.1 jv_cl (jv_tr G h) U.heap ∧ va_K G.1 jv_cl (jv_ty G) U ∧ jn_AO U)
def jn_Q (G : jv_G) (base : Nat) (h' : List jv_E) : Array Value → State → Outcome → State → Prop := fun _ st oc t => (oc = .returned none ∧ t.heap.size = base + h'.length ∧ va_P G.1 jv_cl (jv_tr G h') t.heap) ∧ va_F (fun q => base ≤ q) st t
def jn_rm (K mc ms : Nat) : Room := { frames := K, cells := mc, slots := ms, locals := 40 * K }
def jn_Con (y : MethodName) (cc : ByteArray) (K mc ms : Nat) (av : List Value) (h h' : List jv_E) : Prop :=
  ∀ (l : Launch) (G : jv_G) (base : Nat), (∀ i, i < 1000 → G.2.2 i = base + i) → Met l y (.code y cc 1 none :: jv_T) (jn_rm K mc ms) (jn_P G base av h) (jn_Q G base h') mc ms (fun q => base ≤ q)
def jn_ret (X : jn_M) (mc ms : Nat) (h' : List jv_E) : Prop := match X with
  | ((_, _, _, _, s), (_, args, below, meth, _), Q, (G, base, _)) => Q = MQ below (jn_Q G base h') args s mc ms (fun q => base ≤ q) ∧ meth.sig.returnType = none ∧ meth.locks = false ∧ meth.name = "<init>"
def jn_in (X : jn_M) : Prop := X.2.1.2.2.2.1.name = "<init>"
theorem jn_ret_in {X : jn_M} {mc ms : Nat} {h' : List jv_E} (q : jn_ret X mc ms h') : jn_in X := by
  obtain ⟨⟨p, l, e, R, s⟩, ⟨m, args, below, meth, c⟩, Q, ⟨G, base, nL⟩⟩ := X
  exact q.2.2.2
theorem jn_tr_app (G : jv_G) (h : List jv_E) (x : jv_E) : jv_tr G (h ++ [x]) = jv_tr G h ++ [(G.2.2 h.length, jv_tE G x)] := by
  simp [jv_tr, List.mapIdx_append]
theorem jn_D {G : jv_G} {base : Nat} {h : List jv_E} (had : ∀ i, i < 1000 → G.2.2 i = base + i) (hl : h.length ≤ 1000) : va_D (fun q => base ≤ q) (jv_tr G h) := by
  refine jv_D_of ⟨fun i j hi hj e => ?_, fun i hi => ?_⟩
  · rw [had i (by omega), had j (by omega)] at e; omega
  · rw [had i (by omega)]; omega
/-- one cell more, behind all -/
theorem jn_grow {G : jv_G} {base : Nat} {h : List jv_E} {H H1 : Heap} {x : jv_E} (hP : va_P G.1 jv_cl (jv_tr G h) H) (hz : H.size = base + h.length) (o1 : ∀ q : Nat, q < base + h.length → H1[q]? = H[q]?) (hx : va_at G.1 jv_cl (G.2.2 h.length, jv_tE G x) H1) : va_P G.1 jv_cl (jv_tr G (h ++ [x])) H1 := by
  rw [jn_tr_app]
  have hk : ∀ (k : Nat) (y : Nat × va_E), (jv_tr G h)[k]? = some y → H1[y.1]? = H[y.1]? := fun k y hy => o1 y.1 (by rw [← hz]; exact (hP k y hy).lt)
  refine (hP.kept hk).app (fun k y hy => ?_)
  have hz : k < 1 := (List.getElem?_eq_some_iff.mp hy).1
  rw [show k = 0 by omega] at hy
  cases hy
  exact hx
theorem jn_S {A : Nat → Prop} {H0 H H1 : Heap} {locs : List Loc} {n : Nat} (hS : va_S A H0 H locs) (hz : H.size = n) (h1 : n ≤ H1.size) (o1 : ∀ q : Nat, q < n → H1[q]? = H[q]?) : va_S A H0 H1 locs :=
  ⟨Nat.le_trans hS.1 (by omega), fun x a b => (o1 x (by have := hS.1; omega)).trans (hS.2.1 x a b), hS.2.2⟩
section JN
variable {X : jn_M} {cc : ByteArray} {own : String} {K pc : Nat} {B : Nat × Nat} {L : List (Option Value)} {S : List Value} {h : List jv_E} {cells slots : Nat}
theorem jn_cg {h2 : List jv_E} {c2 s2 : Nat} (kk : jn_J X cc own K B pc L S h2 c2 s2) (eh : h = h2 := by rfl) (ec : cells = c2 := by rfl) (es : slots = s2 := by rfl) : jn_J X cc own K B pc L S h cells slots := by
  subst eh; subst ec; subst es; exact kk
theorem jn_aload_n {k : Fin 4} {x : Nat} (d : decode cc pc = .ok (.aload_n k, 1)) (hl : L[(k : Nat)]? = some (some (.ref x))) (kk : jn_J X cc own K B (pc + 1) L (.ref x :: S) h cells slots) : jn_J X cc own K B pc L S h cells slots := by
  obtain ⟨⟨p, l, e, R, s⟩, ⟨m, args, below, meth, c⟩, Q, ⟨G, base, nL⟩⟩ := X
  intro C hN H locs ls hz hP hS hL
  exact lv_aload_n C.1 C.2.1 d rfl (hL.2.2.1 _ _ hl) (kk C hN H locs ls hz hP hS hL)
theorem jn_astore_n {k : Fin 4} {x : Nat} (d : decode cc pc = .ok (.astore_n k, 1)) (ok : jv_ok L (k : Nat) = true) (hn : (k : Nat) < L.length) (kk : jn_J X cc own K B (pc + 1) (L.set (k : Nat) (some (.ref x))) S h cells slots) : jn_J X cc own K B pc L (.ref x :: S) h cells slots := by
  obtain ⟨⟨p, l, e, R, s⟩, ⟨m, args, below, meth, c⟩, Q, ⟨G, base, nL⟩⟩ := X
  intro C hN H locs ls hz hP hS hL
  exact lv_astore_n C.1 C.2.1 d rfl (jv_L_has hL) (Nat.lt_of_lt_of_le hn hL.2.2.2) rfl (fun ls hL9 => kk C hN H locs ls hz hP hS (jv_L_s1 (v := .ref x) hL.2.2.2 ok hL9))
theorem jn_istore_n {k : Fin 4} {x : Int32} (d : decode cc pc = .ok (.istore_n k, 1)) (ok : jv_ok L (k : Nat) = true) (hn : (k : Nat) < L.length) (kk : jn_J X cc own K B (pc + 1) (L.set (k : Nat) (some (.int x))) S h cells slots) : jn_J X cc own K B pc L (.int x :: S) h cells slots := by
  obtain ⟨⟨p, l, e, R, s⟩, ⟨m, args, below, meth, c⟩, Q, ⟨G, base, nL⟩⟩ := X
  intro C hN H locs ls hz hP hS hL
  exact lv_istore_n C.1 C.2.1 d rfl (jv_L_has hL) (Nat.lt_of_lt_of_le hn hL.2.2.2) rfl (fun ls hL9 => kk C hN H locs ls hz hP hS (jv_L_s1 (v := .int x) hL.2.2.2 ok hL9))
theorem jn_iconst {n : Int} (d : decode cc pc = .ok (.iconst n, 1)) (kk : jn_J X cc own K B (pc + 1) L (.int (jv_i n) :: S) h cells slots) : jn_J X cc own K B pc L S h cells slots := by
  obtain ⟨⟨p, l, e, R, s⟩, ⟨m, args, below, meth, c⟩, Q, ⟨G, base, nL⟩⟩ := X
  intro C hN H locs ls hz hP hS hL
  exact lv_iconst C.1 C.2.1 d rfl (kk C hN H locs ls hz hP hS hL)
theorem jn_bipush {n : Int} (d : decode cc pc = .ok (.bipush n, 2)) (kk : jn_J X cc own K B (pc + 2) L (.int (jv_i n) :: S) h cells slots) (hv : (Int8.ofInt n).toInt32 = jv_i n := by decide) : jn_J X cc own K B pc L S h cells slots := by
  obtain ⟨⟨p, l, e, R, s⟩, ⟨m, args, below, meth, c⟩, Q, ⟨G, base, nL⟩⟩ := X
  intro C hN H locs ls hz hP hS hL
  exact lv_bipush C.1 C.2.1 d hv (kk C hN H locs ls hz hP hS hL)
theorem jn_sipush {n : Int} (d : decode cc pc = .ok (.sipush n, 3)) (kk : jn_J X cc own K B (pc + 3) L (.int (jv_i n) :: S) h cells slots) (hv : (Int16.ofInt n).toInt32 = jv_i n := by decide) : jn_J X cc own K B pc L S h cells slots := by
  obtain ⟨⟨p, l, e, R, s⟩, ⟨m, args, below, meth, c⟩, Q, ⟨G, base, nL⟩⟩ := X
  intro C hN H locs ls hz hP hS hL
  exact lv_sipush C.1 C.2.1 d hv (kk C hN H locs ls hz hP hS hL)
theorem jn_lconst {n : Fin 2} (z : Int) (d : decode cc pc = .ok (.lconst n, 1)) (kk : jn_J X cc own K B (pc + 1) L (.long (jv_l z) :: S) h cells slots) (hv : Int64.ofNat (n : Nat) = jv_l z := by decide) : jn_J X cc own K B pc L S h cells slots := by
  obtain ⟨⟨p, l, e, R, s⟩, ⟨m, args, below, meth, c⟩, Q, ⟨G, base, nL⟩⟩ := X
  intro C hN H locs ls hz hP hS hL
  exact lv_lconst C.1 C.2.1 d hv (kk C hN H locs ls hz hP hS hL)
theorem jn_dup {x : Nat} (d : decode cc pc = .ok (.dup, 1)) (kk : jn_J X cc own K B (pc + 1) L (.ref x :: .ref x :: S) h cells slots) : jn_J X cc own K B pc L (.ref x :: S) h cells slots := by
  obtain ⟨⟨p, l, e, R, s⟩, ⟨m, args, below, meth, c⟩, Q, ⟨G, base, nL⟩⟩ := X
  intro C hN H locs ls hz hP hS hL
  exact lv_dup C.1 C.2.1 d rfl (kk C hN H locs ls hz hP hS hL)
/-- an array is made -/
theorem jn_newi {z : Int} (n : Nat) (d : decode cc pc = .ok (.newarray .int, 2)) (harr : Cond.arrayClass .int ∈ jv_T) (kk : jn_J X cc own K B (pc + 2) L (.ref h.length :: S) (h ++ [jv_ai n (fun _ => 0)]) (cells + 1) (slots + n)) (hl : h.length < 1000) (hc : cells + 1 ≤ B.1 := by exact Nat.le_of_ble_eq_true rfl) (hs : slots + n ≤ B.2 := by exact Nat.le_of_ble_eq_true rfl) (hn : (jv_i z).toNatClampNeg = n := by decide) (h0 : ¬ jv_i z < 0 := by decide) (hby : n * componentBytes .int ≤ 536870912 := by decide) : jn_J X cc own K B pc L (.int (jv_i z) :: S) h cells slots := by
  obtain ⟨⟨p, l, e, R, s⟩, ⟨m, args, below, meth, c⟩, Q, ⟨G, base, nL⟩⟩ := X
  intro C hN H locs ls hz hP hS hL
  have C9 := C
  obtain ⟨hx, hb, hml, hown, hts, hK, hbs, had, hR, hB1, hB2, hAO⟩ := C9
  refine va_newaK (atype := .int) hx hb (hts _ harr) rfl d rfl h0 hn hby (Nat.le_trans hc hB1) (Nat.le_trans hs hB2) hz fun H1 cA e1 z1 o1 hAr hNm => ?_
  have eA : cA = G.2.1.1 := Option.some.inj (hNm.symm.trans (hK.2 0 (G.2.1.1, .int) rfl).2)
  subst eA
  have e9 := had h.length hl
  have k9 := kk C (by rw [List.length_append]; exact hl) H1 locs ls (by rw [z1, List.length_append]; rfl) (jn_grow hP hz o1 (by rw [e9]; exact e1)) (jn_S hS hz (by rw [z1]; omega) o1) hL
  have e8 : jv_V G.2.2 (.ref h.length) = .ref (base + h.length) := by show Value.ref _ = _; rw [e9]
  rw [List.map_cons, e8] at k9
  exact k9
theorem jn_newl {z : Int} (n : Nat) (d : decode cc pc = .ok (.newarray .long, 2)) (harr : Cond.arrayClass .long ∈ jv_T) (kk : jn_J X cc own K B (pc + 2) L (.ref h.length :: S) (h ++ [jv_al n (fun _ => 0)]) (cells + 1) (slots + n)) (hl : h.length < 1000) (hc : cells + 1 ≤ B.1 := by exact Nat.le_of_ble_eq_true rfl) (hs : slots + n ≤ B.2 := by exact Nat.le_of_ble_eq_true rfl) (hn : (jv_i z).toNatClampNeg = n := by decide) (h0 : ¬ jv_i z < 0 := by decide) (hby : n * componentBytes .long ≤ 536870912 := by decide) : jn_J X cc own K B pc L (.int (jv_i z) :: S) h cells slots := by
  obtain ⟨⟨p, l, e, R, s⟩, ⟨m, args, below, meth, c⟩, Q, ⟨G, base, nL⟩⟩ := X
  intro C hN H locs ls hz hP hS hL
  have C9 := C
  obtain ⟨hx, hb, hml, hown, hts, hK, hbs, had, hR, hB1, hB2, hAO⟩ := C9
  refine va_newaK (atype := .long) hx hb (hts _ harr) rfl d rfl h0 hn hby (Nat.le_trans hc hB1) (Nat.le_trans hs hB2) hz fun H1 cA e1 z1 o1 hAr hNm => ?_
  have eA : cA = G.2.1.2.1 := Option.some.inj (hNm.symm.trans (hK.2 1 (G.2.1.2.1, .long) rfl).2)
  subst eA
  have e9 := had h.length hl
  have k9 := kk C (by rw [List.length_append]; exact hl) H1 locs ls (by rw [z1, List.length_append]; rfl) (jn_grow hP hz o1 (by rw [e9]; exact e1)) (jn_S hS hz (by rw [z1]; omega) o1) hL
  have e8 : jv_V G.2.2 (.ref h.length) = .ref (base + h.length) := by show Value.ref _ = _; rw [e9]
  rw [List.map_cons, e8] at k9
  exact k9
theorem jn_newc {z : Int} (n : Nat) (d : decode cc pc = .ok (.newarray .char, 2)) (harr : Cond.arrayClass .char ∈ jv_T) (kk : jn_J X cc own K B (pc + 2) L (.ref h.length :: S) (h ++ [jv_ac n (fun _ => 0)]) (cells + 1) (slots + n)) (hl : h.length < 1000) (hc : cells + 1 ≤ B.1 := by exact Nat.le_of_ble_eq_true rfl) (hs : slots + n ≤ B.2 := by exact Nat.le_of_ble_eq_true rfl) (hn : (jv_i z).toNatClampNeg = n := by decide) (h0 : ¬ jv_i z < 0 := by decide) (hby : n * componentBytes .char ≤ 536870912 := by decide) : jn_J X cc own K B pc L (.int (jv_i z) :: S) h cells slots := by
  obtain ⟨⟨p, l, e, R, s⟩, ⟨m, args, below, meth, c⟩, Q, ⟨G, base, nL⟩⟩ := X
  intro C hN H locs ls hz hP hS hL
  have C9 := C
  obtain ⟨hx, hb, hml, hown, hts, hK, hbs, had, hR, hB1, hB2, hAO⟩ := C9
  refine va_newaK (atype := .char) hx hb (hts _ harr) rfl d rfl h0 hn hby (Nat.le_trans hc hB1) (Nat.le_trans hs hB2) hz fun H1 cA e1 z1 o1 hAr hNm => ?_
  have eA : cA = G.2.1.2.2.1 := Option.some.inj (hNm.symm.trans (hK.2 2 (G.2.1.2.2.1, .char) rfl).2)
  subst eA
  have e9 := had h.length hl
  have k9 := kk C (by rw [List.length_append]; exact hl) H1 locs ls (by rw [z1, List.length_append]; rfl) (jn_grow hP hz o1 (by rw [e9]; exact e1)) (jn_S hS hz (by rw [z1]; omega) o1) hL
  have e8 : jv_V G.2.2 (.ref h.length) = .ref (base + h.length) := by show Value.ref _ = _; rw [e9]
  rw [List.map_cons, e8] at k9
  exact k9
/-- an object is made -/
abbrev jn_no (own : String) (idx ci : Nat) (fs : List Value) : Prop := ∃ (C : String) (T : u_T) (N : Nat) (ty : Nat → FieldType), jv_cl[ci]? = some (C, T, N) ∧ (∀ w ∈ u_ws C T N, w ∈ jv_T) ∧ (∀ k, k < N → parseFieldDescriptor (T k).2.2.1 = some (ty k)) ∧ Cond.classLink own idx C ∈ jv_T ∧ Cond.instantiable C N ∈ jv_T ∧ Cond.initialized C ∈ jv_T ∧ (∀ j, j < N → defaultValue (ty j) = vp_V fs j) ∧ (∀ ad, fs.map (jv_V ad) = fs) ∧ N = fs.length
theorem jn_new {idx ci : Nat} {fs : List Value} (d : decode cc pc = .ok (.new idx, 3)) (hw : jn_no own idx ci fs) (kk : jn_J X cc own K B (pc + 3) L (.ref h.length :: S) (h ++ [jv_ob ci fs]) (cells + 1) (slots + fs.length)) (hl : h.length < 1000) (hc : cells + 1 ≤ B.1 := by exact Nat.le_of_ble_eq_true rfl) (hs : slots + fs.length ≤ B.2 := by exact Nat.le_of_ble_eq_true rfl) : jn_J X cc own K B pc L S h cells slots := by
  obtain ⟨⟨p, l, e, R, s⟩, ⟨m, args, below, meth, c⟩, Q, ⟨G, base, nL⟩⟩ := X
  intro C hN H locs ls hz hP hS hL
  have C9 := C
  obtain ⟨hx, hb, hml, hown, hts, hK, hbs, had, hR, hB1, hB2, hAO⟩ := C9
  obtain ⟨C0, T, N, ty, hci, hin, hty, w1, w2, w3, hfs, hfm, hNf⟩ := hw
  have hKn := hK.1 ci _ hci
  subst hNf
  refine W.newcK hx hb hown (hts _ w1) (hts _ w2) (hts _ w3) rfl d (Nat.le_trans hc hB1) (Nat.le_trans hs hB2) hKn.2.1 hz fun H1 kC hkC e1 z1 o1 => ?_
  have e9 := had h.length hl
  have k9 := kk C (by rw [List.length_append]; exact hl) H1 locs ls (by rw [z1, List.length_append]; rfl) (jn_grow hP hz o1 (by rw [e9]; exact ⟨_, hci, (u_born ty hts hin hKn hkC e1 hty).to (fun j hj => by rw [hfm]; exact hfs j hj)⟩)) (jn_S hS hz (by rw [z1]; omega) o1) hL
  have e8 : jv_V G.2.2 (.ref h.length) = .ref (base + h.length) := by show Value.ref _ = _; rw [e9]
  rw [List.map_cons, e8] at k9
  exact k9
/-- a field is written: a final one in a constructor, or any -/
abbrev jn_fp (own : String) (idx ci k : Nat) (fin : Bool) (ty : FieldType) : Prop := ∃ (C : String) (T : u_T) (N : Nat) (tyT : Nat → FieldType), jv_cl[ci]? = some (C, T, N) ∧ k < N ∧ Cond.fieldLink own idx (T k).1 (T k).2.1 (T k).2.2.1 ∈ jv_T ∧ (∀ w ∈ u_ws C T N, w ∈ jv_T) ∧ (∀ k, k < N → parseFieldDescriptor (T k).2.2.1 = some (tyT k)) ∧ (∀ a, a < N → ∀ b, b < N → a ≠ b → (T a).2.1 ≠ (T b).2.1) ∧ (T k).2.2.2 = fin ∧ (T k).1 = own ∧ parseFieldDescriptor (T k).2.2.1 = some ty
theorem jn_putf {o idx ci k : Nat} {fin : Bool} {ty : FieldType} {v : Value} {fs : List Value} (d : decode cc pc = .ok (.putfield idx, 3)) (hi : jn_in X) (hw : jn_fp own idx ci k fin ty) (ho : h[o]? = some (jv_ob ci fs)) (kk : jn_J X cc own K B (pc + 3) L S (h.set o (jv_ob ci (fs.set k v))) cells slots) (hk : k < fs.length := by exact Nat.le_of_ble_eq_true rfl) (hn : ∀ ad, narrow ty (jv_V ad v) = jv_V ad v := by intro _; rfl) (hf : ∀ ad, fits ty (jv_V ad v) = true := by intro _; rfl) : jn_J X cc own K B pc L (v :: .ref o :: S) h cells slots := by
  obtain ⟨⟨p, l, e, R, s⟩, ⟨m, args, below, meth, c⟩, Q, ⟨G, base, nL⟩⟩ := X
  intro C hN H locs ls hz hP hS hL
  have C9 := C
  obtain ⟨hx, hb, hml, hown, hts, hK, hbs, had, hR, hB1, hB2, hAO⟩ := C9
  obtain ⟨C0, T, N, tyT, hci, hkN, w1, hin, hty, hnm, hfi, hde, hpd⟩ := hw
  have hD := jn_D (h := h) had hN
  have hin2 : meth.name = "<init>" := hi
  have he := jv_tr_at (G := G) ho
  have hap := va_apart (own := own) hts hin tyT hty hnm hK hci
  obtain ⟨r, h1, cell, q1, q2, q3, q4⟩ := hP o _ he
  have hr : r = (C0, T, N) := Option.some.inj (h1.symm.trans hci)
  subst hr
  have hlt : k < (fs.map (jv_V G.2.2)).length := by rw [List.length_map]; exact hk
  have tail : ∀ (f : Field), f.slot = G.1.2 ci k → ∀ H' : Heap, H'[G.2.2 o]? = some (cell.setSlot f.slot (jv_V G.2.2 v)) → H'.size = H.size → (∀ q, q ≠ G.2.2 o → H'[q]? = H[q]?) → W p l e R s m args below meth c H' (locs ++ [⟨G.2.2 o, f.slot⟩]) cells slots Q (F0 m (pc + 3) ls (S.map (jv_V G.2.2))) := by
    intro f hsl H' e1 e2 e3
    rw [hsl] at e1 ⊢
    refine kk C (by rw [List.length_set]; exact hN) H' _ ls (by rw [e2, hz, List.length_set]) ?_ (hS.put e2 e3 (hD.2 o _ he)) hL
    rw [← jv_tr_set]
    refine hP.set hD he ⟨_, hci, t_OB.to (V := updV (vp_V (fs.map (jv_V G.2.2))) k (jv_V G.2.2 v)) ⟨_, e1, q2, q3, t_set q4 hap hkN (jv_V G.2.2 v)⟩ (fun j _ => ?_)⟩ e3
    rw [vp_updV_set hlt]
    show _ = vp_V ((fs.set k v).map (jv_V G.2.2)) j
    rw [List.map_set]
  obtain ⟨hS9, hfc, kC, hkC, hkind⟩ := hK.1 ci _ hci
  obtain ⟨cf, kf, fi, f, hif, hsl⟩ := hS9 k hkN
  have hlay := hts _ (hin _ (u_in_lay hkN))
  have hst := (u_facts hfc hkC (u_lays hts hin hkN) hif).1
  unfold u_lay at hlay
  cases fin with
  | false =>
    rw [if_neg (by rw [hfi]; decide)] at hlay
    have h6 := u_store hfc hkC hkind hlay hif hpd (hn G.2.2) (hf G.2.2)
    exact W.putK hx hb (f := f) ⟨hown, hts _ w1, ⟨_, _, _, hif⟩, hst⟩ (by rw [q2]; exact h6) q1 q3 (by rw [hsl]; exact k2_hasslot (q4 k hkN)) rfl rfl d (tail f hsl)
  | true =>
    rw [if_pos hfi] at hlay
    have hcf : m.cls = cf := by
      obtain ⟨_, _, c', _, _, _, -, -, hf', -, -, -, hown2, -⟩ := Cond.laysFinal_spec hlay
      have e1 : c' = cf := by have := hif.symm.trans hf'; simp at this; exact this.1.symm
      rw [hde] at hown2
      rw [← e1]; exact Option.some.inj (hown.symm.trans hown2)
    have h6 := u_fits hfc hkC hkind (Or.inr hlay) hif hpd (hn G.2.2) (hf G.2.2)
    exact W.putFinK hx hb hown (hts _ w1) hif hst hcf hin2 (by rw [q2]; exact h6) q1 q3 (by rw [hsl]; exact k2_hasslot (q4 k hkN)) rfl rfl d (tail f hsl)
/-- Object.<init> -/
abbrev jn_ow (own : String) (idx : Nat) : Prop := Cond.methodLink own idx Lib.objectInit ∈ jv_T ∧ Cond.instanceMethod Lib.objectInit ∈ jv_T ∧ Cond.code Lib.objectInit ⟨#[0xb1]⟩ 1 none ∈ jv_T
theorem jn_obj {idx o : Nat} (d : decode cc pc = .ok (.invokespecial idx, 3)) (hw : jn_ow own idx) (kk : jn_J X cc own K B (pc + 3) L S h cells slots) (hK1 : 1 ≤ K := by omega) (hS8 : (S.map fun v => v.category).sum ≤ 8 := by exact Nat.le_of_ble_eq_true rfl) : jn_J X cc own K B pc L (.ref o :: S) h cells slots := by
  obtain ⟨⟨p, l, e, R, s⟩, ⟨m, args, below, meth, c⟩, Q, ⟨G, base, nL⟩⟩ := X
  intro C hN H locs ls hz hP hS hL
  have C9 := C
  obtain ⟨hx, hb, hml, hown, hts, hK, hbs, had, hR, hB1, hB2, hAO⟩ := C9
  obtain ⟨w1, w2, w3⟩ := hw
  have hr := lv_room (m := m) (pc := pc) (ls := ls) (rest := (Value.ref o :: S).map (jv_V G.2.2)) (st := S.map (jv_V G.2.2)) (by rw [jv_cat]; exact hS8)
  exact W.objInit hx hb hown (hts _ w1) (hts _ w2) (hts _ w3) rfl (hL.1.trans hml.symm) rfl d (by omega) (by have := hR.2; omega) (kk C hN H locs ls hz hP hS hL)
theorem jn_wf {own : String} {idx ci k : Nat} {C : String} {T : u_T} {N : Nat} (hf : jv_fl own idx ci k) (e : jv_cl[ci]? = some (C, T, N)) : Cond.fieldLink own idx (T k).1 (T k).2.1 (T k).2.2.1 ∈ jv_T := by
  obtain ⟨C', T', N', e', -, h, -⟩ := hf
  cases e'.symm.trans e
  exact h
theorem jn_blind {G : jv_G} {base : Nat} {av : List Value} {h : List jv_E} : FrameBlind (jn_P G base av h) := fun a U g mk q => by
  obtain ⟨q0, q1, qP, qK, qA⟩ := q
  exact ⟨q0, q1, qP, va_K.moved (u := U) (U := U.calling g mk a) (Vm.Alike.refl U.vm) qK, jn_AO_same (s := U) (U := U.calling g mk a) rfl qA⟩
/-- a constructor is called -/
theorem jn_goon {p : Program} {l : Launch} {e : Env} {R : Room} {s : State} {m : MethodId} {args : Array Value} {below : List Frame} {meth : Method} {c : Code} {Q : State → Prop} {G : jv_G} {base mc ms : Nat} {H : Heap} {locs : List Loc} {ls : Array Slot} {st0 : List Value} {a : Array Value} {h' : List jv_E} (hr : va_Run p l e R s m args below meth c H locs cells slots mc ms (F0 m pc ls st0) (S.map (jv_V G.2.2)) (jn_Q G base h' a) (fun q => base ≤ q)) (hS : va_S (fun q => base ≤ q) s.heap H locs)
    (kk : ∀ (H1 : Heap) (locs1 : List Loc), H1.size = base + h'.length → va_P G.1 jv_cl (jv_tr G h') H1 → va_S (fun q => base ≤ q) s.heap H1 locs1 → W p l e R s m args below meth c H1 locs1 (cells + mc) (slots + ms) Q (F0 m (pc + 3) ls (S.map (jv_V G.2.2)))) : W p l e R s m args below meth c H locs cells slots Q (F0 m pc ls st0) := by
  intro T hT X1
  obtain ⟨v, st₀, t, T', L1, h0, X', hL1, e1, e2, ⟨⟨hv, hz1, hP'⟩, hzz, hkk⟩, st⟩ := hr T hT X1
  cases hv
  rw [h0] at hzz hkk
  obtain ⟨t2, a1, b1⟩ := kk T'.heap (locs ++ L1) (by rw [e1]; exact hz1) (by rw [e1]; exact hP')
    ⟨Nat.le_trans hS.1 (by rw [e1]; exact hzz), fun q h1 h2 => by rw [e1, hkk q (Nat.lt_of_lt_of_le h1 hS.1) h2]; exact hS.2.1 q h1 h2, fun q hq => by
      rcases List.mem_append.mp hq with h | h
      · exact hS.2.2 q h
      · exact hL1 q h⟩ T' rfl X'
  exact ⟨t2, st t2 a1, b1⟩
abbrev jn_cw (own : String) (idx : Nat) (y : MethodName) (bytes : ByteArray) : Prop := Cond.methodLink own idx y ∈ jv_T ∧ Cond.instanceMethod y ∈ jv_T ∧ Cond.initialized y.cls ∈ jv_T ∧ Cond.code y bytes 1 none ∈ jv_T ∧ y.name = "<init>" ∧ (y.cls ≠ "java/lang/invoke/MethodHandle" ∧ y.cls ≠ "java/lang/invoke/VarHandle" ∧ (parseMethodDescriptor y.desc).map (fun d => d.parameters.length) = some 0)
abbrev jn_cn (own : String) (idx : Nat) (y : MethodName) (bytes : ByteArray) : Prop := Cond.methodLinkNest own idx y RX7 ∈ jn_ns ∧ Cond.instanceMethod y ∈ jv_T ∧ Cond.initialized y.cls ∈ jv_T ∧ Cond.code y bytes 1 none ∈ jv_T ∧ y.name = "<init>" ∧ (y.cls ≠ "java/lang/invoke/MethodHandle" ∧ y.cls ≠ "java/lang/invoke/VarHandle" ∧ (parseMethodDescriptor y.desc).map (fun d => d.parameters.length) = some 0)
theorem jn_call {idx o k mc ms : Nat} {y : MethodName} {bytes : ByteArray} {h' : List jv_E} (d : decode cc pc = .ok (.invokespecial idx, 3)) (hw : jn_cw own idx y bytes) (hc : jn_Con y bytes k mc ms [.ref o] h h') (kk : jn_J X cc own K B (pc + 3) L S h' (cells + mc) (slots + ms)) (hl : h'.length ≤ 1000) (hcc : cells + mc ≤ B.1 := by exact Nat.le_of_ble_eq_true rfl) (hss : slots + ms ≤ B.2 := by exact Nat.le_of_ble_eq_true rfl) (hk : k + 1 ≤ K := by omega) (hS8 : (S.map fun v => v.category).sum ≤ 8 := by exact Nat.le_of_ble_eq_true rfl) : jn_J X cc own K B pc L (.ref o :: S) h cells slots := by
  obtain ⟨⟨p, l, e, R, s⟩, ⟨m, args, below, meth, c⟩, Q, ⟨G, base, nL⟩⟩ := X
  intro C hN H locs ls hz hP hS hL
  have C9 := C
  obtain ⟨hx, hb, hml, hown, hts, hK, hbs, had, hR, hB1, hB2, hAO⟩ := C9
  obtain ⟨w1, w2, w3, w4, w5, w6⟩ := hw
  have cw := cwI (R := R) (s := s) (args := args) (rm := jn_rm k mc ms) (mc := mc) (ms := ms) 0 hts (jv_good w4) rfl rfl rfl (hts _ w3) (hts _ w1) (hts _ w2) w5 w6 ⟨Nat.le_trans hk hR.1, by show 8 + (1 + 11) + 40 * k ≤ R.locals; have := hR.2; omega⟩
  have hr := va_runI (cells := cells) (slots := slots) (locs := locs) (e := e) (below := below) (meth := meth) (g := F0 m pc ls ((Value.ref o :: S).map (jv_V G.2.2))) (As := []) (rest := S.map (jv_V G.2.2)) (b := G.2.2 o) ⟨hx, hb, hml, hown, hts⟩ (hc l G base had) cw ⟨jn_blind, fun U hU hW => ⟨rfl, by rw [hU]; exact hz, by rw [hU]; exact hP, va_K.moved hW.alike hK, jn_AO_warm hW hAO⟩⟩ rfl rfl hL.1 rfl (lv_room (by rw [jv_cat]; exact hS8)) d ⟨Nat.le_trans hcc hB1, Nat.le_trans hss hB2⟩
  exact jn_goon hr hS (fun H1 locs1 hz1 hP1 hS1 => kk C hl H1 locs1 ls hz1 hP1 hS1 hL)
theorem jn_callN {idx o k mc ms : Nat} {y : MethodName} {bytes : ByteArray} {h' : List jv_E} (d : decode cc pc = .ok (.invokespecial idx, 3)) (hw : jn_cn own idx y bytes) (hc : jn_Con y bytes k mc ms [.ref o] h h') (kk : jn_J X cc own K B (pc + 3) L S h' (cells + mc) (slots + ms)) (hl : h'.length ≤ 1000) (hcc : cells + mc ≤ B.1 := by exact Nat.le_of_ble_eq_true rfl) (hss : slots + ms ≤ B.2 := by exact Nat.le_of_ble_eq_true rfl) (hk : k + 1 ≤ K := by omega) (hS8 : (S.map fun v => v.category).sum ≤ 8 := by exact Nat.le_of_ble_eq_true rfl) : jn_J X cc own K B pc L (.ref o :: S) h cells slots := by
  obtain ⟨⟨p, l, e, R, s⟩, ⟨m, args, below, meth, c⟩, Q, ⟨G, base, nL⟩⟩ := X
  intro C hN H locs ls hz hP hS hL
  have C9 := C
  obtain ⟨hx, hb, hml, hown, hts, hK, hbs, had, hR, hB1, hB2, hAO⟩ := C9
  obtain ⟨w1, w2, w3, w4, w5, w6⟩ := hw
  have cw := va_cnB (R := R) (s := s) (args := args) (rm := jn_rm k mc ms) (mc := mc) (ms := ms) 0 hts (jv_good w4) rfl rfl rfl (hAO.2 _ w1) (hts _ w3) w6 ⟨Nat.le_trans hk hR.1, by show 8 + (1 + 11) + 40 * k ≤ R.locals; have := hR.2; omega⟩
  have hr := va_runIN (cells := cells) (slots := slots) (locs := locs) (e := e) (below := below) (meth := meth) (g := F0 m pc ls ((Value.ref o :: S).map (jv_V G.2.2))) (As := []) (rest := S.map (jv_V G.2.2)) (b := G.2.2 o) ⟨hx, hb, hml, hown, hts⟩ (hc l G base had) ⟨cw, w5, hts _ w2⟩ ⟨jn_blind, fun U hU hW => ⟨rfl, by rw [hU]; exact hz, by rw [hU]; exact hP, va_K.moved hW.alike hK, jn_AO_warm hW hAO⟩⟩ rfl rfl hL.1 rfl (lv_room (by rw [jv_cat]; exact hS8)) d ⟨Nat.le_trans hcc hB1, Nat.le_trans hss hB2⟩
  exact jn_goon hr hS (fun H1 locs1 hz1 hP1 hS1 => kk C hl H1 locs1 ls hz1 hP1 hS1 hL)
theorem jn_vret {mc ms : Nat} (d : decode cc pc = .ok (.return_, 1)) (hq : jn_ret X mc ms h) (ec : cells = mc := by rfl) (es : slots = ms := by rfl) : jn_J X cc own K B pc L [] h cells slots := by
  obtain ⟨⟨p, l, e, R, s⟩, ⟨m, args, below, meth, c⟩, Q, ⟨G, base, nL⟩⟩ := X
  intro C hN H locs ls hz hP hS hL
  obtain ⟨q1, q2, q3, q4⟩ := hq
  subst q1; subst ec; subst es
  exact W.vret C.1 C.2.1 q2 (fun t ht hW => ⟨⟨rfl, by rw [ht]; exact hz, by rw [ht]; exact hP⟩, hS.F ht⟩) hS.2.2 d q3
end JN
/-- a constructor's contract out of the walk of its body -/
theorem jn_entry {y : MethodName} {cc : ByteArray} {K mc ms o : Nat} {h h' : List jv_E} {own : String} (hy : plainName y.cls = true) (ho : y.cls = own) (hyn : y.name = "<init>") (hl : h.length ≤ 1000)
    (body : ∀ X : jn_M, jn_ret X mc ms h' → jn_J X cc own K (mc, ms) 0 [some (.ref o)] [] h 0 0) : jn_Con y cc K mc ms [.ref o] h h' := by
  intro l G base had
  refine Met.ofW (cc := cc) (maxL := 1) (ret := none) hy rfl ?_
  intro p e s m args below meth c s₁ B hml hv
  obtain ⟨rfl, hsz, hP, hK, hA⟩ := hv
  have hts := atoms_spec (ws := .code y cc 1 none :: jv_T) B.pre
  have hown : s.vm.findClass own = some m.cls := by rw [← ho]; exact findClass_of_methodNamed B.named
  rw [lg_entry_eq]
  have hl' := lv_entry ([Value.ref o].map (jv_V G.2.2)) (n := 1) (by rw [jv_sl_len]; exact Nat.le_refl _)
  have J := body ((p, l, e, jn_rm K mc ms, s), (m, ([Value.ref o].map (jv_V G.2.2)).toArray, below, meth, c), MQ below (jn_Q G base h') ([Value.ref o].map (jv_V G.2.2)).toArray s mc ms (fun q => base ≤ q), (G, base, 1)) ⟨rfl, B.returns, B.notSynchronized, (name_of_methodNamed B.named B.method).1.trans hyn⟩
  exact J ⟨B.exec, B.bytes, hml, hown, fun w hw => hts w (List.mem_cons_of_mem _ hw), hK, by omega, had, ⟨Nat.le_refl _, Nat.le_refl _⟩, Nat.le_refl _, Nat.le_refl _, hA⟩ hl s.heap [] _ hsz hP va_S.rf (jv_L0_has (vs := [.ref o]) (nL := 1) (Nat.le_refl _) hl')
