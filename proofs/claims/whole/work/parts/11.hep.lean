/-! RULES OF THE WORLD: fields, arrays, calls, returns -/
/-- entry idx of class own names field k of class ci -/
def jv_fl (own : String) (idx ci k : Nat) : Prop := ∃ (C : String) (T : u_T) (N : Nat), jv_cl[ci]? = some (C, T, N) ∧ k < N ∧ Cond.fieldLink own idx (T k).1 (T k).2.1 (T k).2.2.1 ∈ jv_T ∧ ∀ w ∈ u_ws C T N, w ∈ jv_T
def jv_fp (own : String) (idx ci k : Nat) (ty : FieldType) : Prop := ∃ (C : String) (T : u_T) (N : Nat) (ty0 : Nat → FieldType), jv_cl[ci]? = some (C, T, N) ∧ k < N ∧ Cond.fieldLink own idx (T k).1 (T k).2.1 (T k).2.2.1 ∈ jv_T ∧ (∀ w ∈ u_ws C T N, w ∈ jv_T) ∧ (∀ k, k < N → parseFieldDescriptor (T k).2.2.1 = some (ty0 k)) ∧ (∀ a, a < N → ∀ b, b < N → a ≠ b → (T a).2.1 ≠ (T b).2.1) ∧ (T k).2.2.2 = false ∧ parseFieldDescriptor (T k).2.2.1 = some ty
theorem jv_up_i (f : Int → Int) (k x : Int) {n : Nat} (h : (n : Int) = k) : upd (fun i : Nat => jv_i (f i)) n (jv_i x) = fun i : Nat => jv_i (jv_up f k x i) := by
  funext j
  by_cases e : j = n
  · subst e
    simp [upd, jv_up, h]
  · have e2 : (j : Int) ≠ k := fun q => e (by omega)
    simp [upd, jv_up, e, e2]
theorem jv_up_l (f : Int → Int) (k x : Int) {n : Nat} (h : (n : Int) = k) : vp_updL (fun i : Nat => jv_l (f i)) n (jv_l x) = fun i : Nat => jv_l (jv_up f k x i) := by
  funext j
  by_cases e : j = n
  · subst e
    simp [vp_updL, jv_up, h]
  · have e2 : (j : Int) ≠ k := fun q => e (by omega)
    simp [vp_updL, jv_up, e, e2]
section JH
variable {X : jv_M} {cc : ByteArray} {own : String} {K pc : Nat} {L : List (Option Value)} {S : List Value} {h : List jv_E}
theorem jv_getf {idx ci k a : Nat} {fs : List Value} {v : Value} (d : decode cc pc = .ok (.getfield idx, 3)) (hf : jv_fl own idx ci k) (ha : h[a]? = some (jv_ob ci fs)) (hv : fs[k]? = some v) (kk : jv_J X cc own K (pc + 3) L (v :: S) h) : jv_J X cc own K pc L (.ref a :: S) h := by
  obtain ⟨⟨p, l, e, R, s⟩, ⟨m, args, below, meth, c⟩, ⟨cells, slots, Q⟩, ⟨G, A, N, nL⟩⟩ := X
  intro C hN H locs ls hP hS hL
  obtain ⟨Cn, T, Nf, h1, h2, h3, h4⟩ := hf
  exact va_get C.1 C.2.1 C.2.2.2.2.1 h4 C.2.2.2.1 C.2.2.2.2.2.1 hP a (jv_tr_at ha) h1 k h2 (C.2.2.2.2.1 _ h3) (fun _ q => q) (v := jv_V G.2.2 v) (by rw [List.getElem?_map, hv]; rfl) d (kk C hN H locs ls hP hS hL)
theorem jv_putf {idx ci k a : Nat} {fs : List Value} {v : Value} {ty : FieldType} (d : decode cc pc = .ok (.putfield idx, 3)) (hf : jv_fp own idx ci k ty) (ha : h[a]? = some (jv_ob ci fs)) (hl : k < fs.length) (kk : jv_J X cc own K (pc + 3) L S (h.set a (jv_ob ci (fs.set k v)))) (hn : ∀ ad, narrow ty (jv_V ad v) = jv_V ad v := by intro _; rfl) (hfit : ∀ ad, fits ty (jv_V ad v) = true := by intro _; rfl) : jv_J X cc own K pc L (v :: .ref a :: S) h := by
  obtain ⟨⟨p, l, e, R, s⟩, ⟨m, args, below, meth, c⟩, ⟨cells, slots, Q⟩, ⟨G, A, N, nL⟩⟩ := X
  intro C hN H locs ls hP hS hL
  obtain ⟨Cn, T, Nf, ty0, h1, h2, h3, h4, h5, h6, h7, h8⟩ := hf
  subst hN
  refine va_put C.1 C.2.1 C.2.2.2.2.1 h4 ty0 h5 h6 C.2.2.2.1 C.2.2.2.2.2.1 hP (jv_D_of C.2.2.2.2.2.2.2.1) hS a (jv_tr_at ha) h1 k h2 (C.2.2.2.2.1 _ h3) (fun _ q => q) h7 h8 (hn G.2.2) (hfit G.2.2) (by rw [List.length_map]; exact hl) d (fun H1 locs1 hP1 hD1 hS1 => ?_)
  refine kk C (by rw [List.length_set]) H1 locs1 ls ?_ hS1 hL
  rw [← jv_tr_set]
  show va_P _ _ ((jv_tr G h).set a (G.2.2 a, .inr (ci, (fs.set k v).map (jv_V G.2.2)))) H1
  rw [List.map_set]
  exact hP1
theorem jv_iald {a n : Nat} {f : Int → Int} {k : Int} (d : decode cc pc = .ok (.iaload, 1)) (ha : h[a]? = some (jv_ai n f)) (kk : jv_J X cc own K (pc + 1) L (.int (jv_i (f k)) :: S) h) (hk : 0 ≤ k ∧ k < n := by omega) (hn : n < 2147483648 := by decide) : jv_J X cc own K pc L (.int (jv_i k) :: .ref a :: S) h := by
  obtain ⟨⟨p, l, e, R, s⟩, ⟨m, args, below, meth, c⟩, ⟨cells, slots, Q⟩, ⟨G, A, N, nL⟩⟩ := X
  intro C hN H locs ls hP hS hL
  obtain ⟨h1, h2⟩ := jv_i_ix hk hn
  refine va_iald C.1 C.2.1 C.2.2.2.2.2.1 hP a 0 (jv_tr_at ha) rfl h1 d ?_
  have := kk C hN H locs ls hP hS hL
  rw [← h2] at this
  exact this
theorem jv_lald {a n : Nat} {f : Int → Int} {k : Int} (d : decode cc pc = .ok (.laload, 1)) (ha : h[a]? = some (jv_al n f)) (kk : jv_J X cc own K (pc + 1) L (.long (jv_l (f k)) :: S) h) (hk : 0 ≤ k ∧ k < n := by omega) (hn : n < 2147483648 := by decide) : jv_J X cc own K pc L (.int (jv_i k) :: .ref a :: S) h := by
  obtain ⟨⟨p, l, e, R, s⟩, ⟨m, args, below, meth, c⟩, ⟨cells, slots, Q⟩, ⟨G, A, N, nL⟩⟩ := X
  intro C hN H locs ls hP hS hL
  obtain ⟨h1, h2⟩ := jv_i_ix hk hn
  refine va_lald C.1 C.2.1 C.2.2.2.2.2.1 hP a 1 (jv_tr_at ha) rfl h1 d ?_
  have := kk C hN H locs ls hP hS hL
  rw [← h2] at this
  exact this
theorem jv_cald {a n : Nat} {f : Int → Int} {k : Int} (d : decode cc pc = .ok (.caload, 1)) (ha : h[a]? = some (jv_ac n f)) (kk : jv_J X cc own K (pc + 1) L (.int (jv_i (f k)) :: S) h) (hk : 0 ≤ k ∧ k < n := by omega) (hn : n < 2147483648 := by decide) : jv_J X cc own K pc L (.int (jv_i k) :: .ref a :: S) h := by
  obtain ⟨⟨p, l, e, R, s⟩, ⟨m, args, below, meth, c⟩, ⟨cells, slots, Q⟩, ⟨G, A, N, nL⟩⟩ := X
  intro C hN H locs ls hP hS hL
  obtain ⟨h1, h2⟩ := jv_i_ix hk hn
  refine va_cald C.1 C.2.1 C.2.2.2.2.2.1 hP a 2 (jv_tr_at ha) rfl h1 d ?_
  have := kk C hN H locs ls hP hS hL
  rw [← h2] at this
  exact this
theorem jv_aald {a n : Nat} {g : Int → Nat} {k : Int} (d : decode cc pc = .ok (.aaload, 1)) (ha : h[a]? = some (jv_aq n g)) (kk : jv_J X cc own K (pc + 1) L (.ref (g k) :: S) h) (hk : 0 ≤ k ∧ k < n := by omega) (hn : n < 2147483648 := by decide) : jv_J X cc own K pc L (.int (jv_i k) :: .ref a :: S) h := by
  obtain ⟨⟨p, l, e, R, s⟩, ⟨m, args, below, meth, c⟩, ⟨cells, slots, Q⟩, ⟨G, A, N, nL⟩⟩ := X
  intro C hN H locs ls hP hS hL
  obtain ⟨h1, h2⟩ := jv_i_ix hk hn
  have hlt : (jv_i k).toNatClampNeg < n := by omega
  have hT := (C.2.2.2.2.2.1.2 3 (G.2.1.2.2.2, .array .int) rfl).1 n (fun j => va_rf (some (G.2.2 (g j))))
  refine W.aald (v := .ref (G.2.2 (g k))) C.1 C.2.1 (hP a _ (jv_tr_at ha)) hT rfl (fun q => by cases q) (by show ¬ (_ ∨ (arrV _ _ _).slots.size ≤ _); rw [arrV_size]; exact h1) (by show (arrV _ _ _).slots[_]? = _; rw [arrV_read _ _ hlt]; show some (va_rf (some (G.2.2 (g ((jv_i k).toNatClampNeg : Int))))) = _; rw [h2]; rfl) rfl rfl d (kk C hN H locs ls hP hS hL)
theorem jv_iast {a n : Nat} {f : Int → Int} {k x : Int} (d : decode cc pc = .ok (.iastore, 1)) (ha : h[a]? = some (jv_ai n f)) (kk : jv_J X cc own K (pc + 1) L S (h.set a (jv_ai n (jv_up f k x)))) (hk : 0 ≤ k ∧ k < n := by omega) (hn : n < 2147483648 := by decide) : jv_J X cc own K pc L (.int (jv_i x) :: .int (jv_i k) :: .ref a :: S) h := by
  obtain ⟨⟨p, l, e, R, s⟩, ⟨m, args, below, meth, c⟩, ⟨cells, slots, Q⟩, ⟨G, A, N, nL⟩⟩ := X
  intro C hN H locs ls hP hS hL
  obtain ⟨h1, h2⟩ := jv_i_ix hk hn
  subst hN
  refine va_iast C.1 C.2.1 C.2.2.2.2.2.1 hP (jv_D_of C.2.2.2.2.2.2.2.1) hS a 0 (jv_tr_at ha) rfl h1 d (fun H1 locs1 hP1 hD1 hS1 => ?_)
  refine kk C (by rw [List.length_set]) H1 locs1 ls ?_ hS1 hL
  rw [← jv_tr_set]
  rw [jv_up_i f k x h2] at hP1
  exact hP1
theorem jv_last {a n : Nat} {f : Int → Int} {k x : Int} (d : decode cc pc = .ok (.lastore, 1)) (ha : h[a]? = some (jv_al n f)) (kk : jv_J X cc own K (pc + 1) L S (h.set a (jv_al n (jv_up f k x)))) (hk : 0 ≤ k ∧ k < n := by omega) (hn : n < 2147483648 := by decide) : jv_J X cc own K pc L (.long (jv_l x) :: .int (jv_i k) :: .ref a :: S) h := by
  obtain ⟨⟨p, l, e, R, s⟩, ⟨m, args, below, meth, c⟩, ⟨cells, slots, Q⟩, ⟨G, A, N, nL⟩⟩ := X
  intro C hN H locs ls hP hS hL
  obtain ⟨h1, h2⟩ := jv_i_ix hk hn
  subst hN
  refine va_last C.1 C.2.1 C.2.2.2.2.2.1 hP (jv_D_of C.2.2.2.2.2.2.2.1) hS a 1 (jv_tr_at ha) rfl h1 d (fun H1 locs1 hP1 hD1 hS1 => ?_)
  refine kk C (by rw [List.length_set]) H1 locs1 ls ?_ hS1 hL
  rw [← jv_tr_set]
  rw [jv_up_l f k x h2] at hP1
  exact hP1
theorem jv_cast {a n : Nat} {f : Int → Int} {k x : Int} (d : decode cc pc = .ok (.castore, 1)) (ha : h[a]? = some (jv_ac n f)) (kk : jv_J X cc own K (pc + 1) L S (h.set a (jv_ac n (jv_up f k x)))) (hx : 0 ≤ x ∧ x < 65536 := by omega) (hk : 0 ≤ k ∧ k < n := by omega) (hn : n < 2147483648 := by decide) : jv_J X cc own K pc L (.int (jv_i x) :: .int (jv_i k) :: .ref a :: S) h := by
  obtain ⟨⟨p, l, e, R, s⟩, ⟨m, args, below, meth, c⟩, ⟨cells, slots, Q⟩, ⟨G, A, N, nL⟩⟩ := X
  intro C hN H locs ls hP hS hL
  obtain ⟨h1, h2⟩ := jv_i_ix hk hn
  subst hN
  refine va_cast C.1 C.2.1 C.2.2.2.2.2.1 hP (jv_D_of C.2.2.2.2.2.2.2.1) hS a 2 (jv_tr_at ha) rfl h1 d (fun H1 locs1 hP1 hD1 hS1 => ?_)
  refine kk C (by rw [List.length_set]) H1 locs1 ls ?_ hS1 hL
  rw [← jv_tr_set]
  rw [jv_vnarc hx, jv_up_i f k x h2] at hP1
  exact hP1
theorem jv_alen_i {a n : Nat} {f : Int → Int} (d : decode cc pc = .ok (.arraylength, 1)) (ha : h[a]? = some (jv_ai n f)) (kk : jv_J X cc own K (pc + 1) L (.int (jv_i n) :: S) h) : jv_J X cc own K pc L (.ref a :: S) h := by
  obtain ⟨⟨p, l, e, R, s⟩, ⟨m, args, below, meth, c⟩, ⟨cells, slots, Q⟩, ⟨G, A, N, nL⟩⟩ := X
  intro C hN H locs ls hP hS hL
  exact va_alen C.1 C.2.1 C.2.2.2.2.2.1 hP a 0 (jv_tr_at ha) rfl (v := jv_i n) rfl d (kk C hN H locs ls hP hS hL)
theorem jv_alen_c {a n : Nat} {f : Int → Int} (d : decode cc pc = .ok (.arraylength, 1)) (ha : h[a]? = some (jv_ac n f)) (kk : jv_J X cc own K (pc + 1) L (.int (jv_i n) :: S) h) : jv_J X cc own K pc L (.ref a :: S) h := by
  obtain ⟨⟨p, l, e, R, s⟩, ⟨m, args, below, meth, c⟩, ⟨cells, slots, Q⟩, ⟨G, A, N, nL⟩⟩ := X
  intro C hN H locs ls hP hS hL
  exact va_alen C.1 C.2.1 C.2.2.2.2.2.1 hP a 2 (jv_tr_at ha) rfl (v := jv_i n) rfl d (kk C hN H locs ls hP hS hL)
theorem jv_alen_q {a n : Nat} {g : Int → Nat} (d : decode cc pc = .ok (.arraylength, 1)) (ha : h[a]? = some (jv_aq n g)) (kk : jv_J X cc own K (pc + 1) L (.int (jv_i n) :: S) h) : jv_J X cc own K pc L (.ref a :: S) h := by
  obtain ⟨⟨p, l, e, R, s⟩, ⟨m, args, below, meth, c⟩, ⟨cells, slots, Q⟩, ⟨G, A, N, nL⟩⟩ := X
  intro C hN H locs ls hP hS hL
  exact va_alen C.1 C.2.1 C.2.2.2.2.2.1 hP a 3 (jv_tr_at ha) rfl (v := jv_i n) rfl d (kk C hN H locs ls hP hS hL)
/-- calls -/
abbrev jv_mv (own : String) (idx : Nat) (C : String) (y : MethodName) (bytes : ByteArray) (maxL : Nat) (ret : Option FieldType) (n : Nat) : Prop := (Cond.methodLink own idx y ∈ jv_T ∧ Cond.instanceMethod y ∈ jv_T ∧ Cond.selects C y y ∈ jv_T ∧ Cond.initialized C ∈ jv_T ∧ Cond.code y bytes maxL ret ∈ jv_T) ∧ y.cls = C ∧ (C ≠ "java/lang/invoke/MethodHandle" ∧ C ≠ "java/lang/invoke/VarHandle") ∧ (parseMethodDescriptor y.desc).map (fun d => d.parameters.length) = some n ∧ maxL ≤ 21
abbrev jv_ms (own : String) (idx : Nat) (C : String) (y : MethodName) (bytes : ByteArray) (maxL : Nat) (ret : Option FieldType) (n : Nat) : Prop := (Cond.methodLink own idx y ∈ jv_T ∧ Cond.static y ∈ jv_T ∧ Cond.initialized C ∈ jv_T ∧ Cond.code y bytes maxL ret ∈ jv_T) ∧ y.cls = C ∧ (C ≠ "java/lang/invoke/MethodHandle" ∧ C ≠ "java/lang/invoke/VarHandle") ∧ (parseMethodDescriptor y.desc).map (fun d => d.parameters.length) = some n ∧ maxL ≤ 21
abbrev jv_mn (own : String) (idx : Nat) (C host : String) (y : MethodName) (bytes : ByteArray) (maxL : Nat) (ret : Option FieldType) (n : Nat) : Prop := (Cond.methodLinkNest own idx y host ∈ jv_ns ∧ Cond.static y ∈ jv_T ∧ Cond.initialized C ∈ jv_T ∧ Cond.code y bytes maxL ret ∈ jv_T) ∧ y.cls = C ∧ (C ≠ "java/lang/invoke/MethodHandle" ∧ C ≠ "java/lang/invoke/VarHandle") ∧ (parseMethodDescriptor y.desc).map (fun d => d.parameters.length) = some n ∧ maxL ≤ 21
theorem jv_cat (ad : Nat → Nat) (S : List Value) : ((S.map (jv_V ad)).map fun v => v.category) = S.map fun v => v.category := by
  rw [List.map_map]
  exact List.map_congr_left (fun v _ => jv_V_cat ad v)
theorem jv_st (ad : Nat → Nat) (v : Option Value) (S : List Value) : (v.map (jv_V ad)).toList ++ S.map (jv_V ad) = (v.toList ++ S).map (jv_V ad) := by cases v <;> simp
theorem jv_callV {idx n k a ci maxL : Nat} {C0 : String} {y : MethodName} {bytes : ByteArray} {ret : Option FieldType} {fs As st : List Value} {post : Option Value → List jv_E → Prop} (d : decode cc pc = .ok (.invokevirtual idx, 3)) (hw : jv_mv own idx C0 y bytes maxL ret n) (hc : jv_Ct y bytes maxL ret k (.ref a :: As) h post) (ha : h[a]? = some (jv_ob ci fs)) (hci : (jv_cl[ci]?).map (fun q => q.1) = some C0) (hn : As.length = n) (hst : As.reverse ++ .ref a :: S = st)
    (kk : ∀ (v : Option Value) (h' : List jv_E), post v h' → jv_J X cc own K (pc + 3) L (v.toList ++ S) h') (hk : k + 1 ≤ K := by omega) (hS8 : (S.map fun v => v.category).sum ≤ 8 := by exact Nat.le_of_ble_eq_true rfl) : jv_J X cc own K pc L st h := by
  subst hst
  obtain ⟨⟨p, l, e, R, s⟩, ⟨m, args, below, meth, c⟩, ⟨cells, slots, Q⟩, ⟨G, A, N, nL⟩⟩ := X
  intro C hN H locs ls hP hS hL
  obtain ⟨⟨w1, w2, w3, w4, w5⟩, w6, w7, w8, w9⟩ := hw
  obtain ⟨hF, hU⟩ := jv_pre (av := (.ref a :: As)) C hN hP hS
  have C9 := C
  obtain ⟨hx, hb, hml, hown, hts, hK, hA, hD, hX, hR, hR2⟩ := C9
  obtain ⟨q, hq⟩ : ∃ q, jv_cl[ci]? = some q := by
    cases hz : jv_cl[ci]? with
    | none => rw [hz] at hci; cases hci
    | some q => exact ⟨q, rfl⟩
  have hq1 : q.1 = C0 := by rw [hq] at hci; exact Option.some.inj hci
  have hrec := va_recv hK hP hq (jv_tr_at ha)
  rw [hq1] at hrec
  have cw : CallW R s args own C0 idx y bytes maxL ret (.code y bytes maxL ret :: jv_T) (jv_rm k) 0 0 n := ⟨callB_of n hts (jv_good w5) rfl rfl rfl (by rw [w6]; exact hts _ w4) (hts _ w1) (by rw [w6]; exact ⟨w7.1, w7.2, w8⟩) ⟨Nat.le_trans hk hR.1, by show 8 + (maxL + 11) + 40 * k ≤ R.locals; have := hR.2; omega⟩, hts _ w2, hts _ w3⟩
  have hr := va_runV (cells := cells) (slots := slots) (locs := locs) (e := e) (below := below) (meth := meth) (g := F0 m pc ls ((As.reverse ++ .ref a :: S).map (jv_V G.2.2))) (As := As.map (jv_V G.2.2)) (rest := S.map (jv_V G.2.2)) (b := G.2.2 a) ⟨hx, hb, hml, hown, hts⟩ (hc l G H.size) cw ⟨jv_blind, hrec, hU⟩ rfl (by rw [List.length_map]; exact hn) hL.1 (by show List.map _ _ = _; rw [List.map_append, List.map_reverse]; rfl) (lv_room (by rw [jv_cat]; exact hS8)) d ⟨hR2.1, hR2.2⟩
  refine jv_goon hr hS hF (fun v h' H1 locs1 hp hl hP1 hS1 => ?_)
  rw [jv_st]
  exact kk v h' hp C (hl.trans hN) H1 locs1 ls hP1 hS1 hL
theorem jv_callS {idx n k maxL : Nat} {C0 : String} {y : MethodName} {bytes : ByteArray} {ret : Option FieldType} {As st : List Value} {post : Option Value → List jv_E → Prop} (d : decode cc pc = .ok (.invokestatic idx, 3)) (hw : jv_ms own idx C0 y bytes maxL ret n) (hc : jv_Ct y bytes maxL ret k As h post) (hn : As.length = n) (hst : As.reverse ++ S = st)
    (kk : ∀ (v : Option Value) (h' : List jv_E), post v h' → jv_J X cc own K (pc + 3) L (v.toList ++ S) h') (hk : k + 1 ≤ K := by omega) (hS8 : (S.map fun v => v.category).sum ≤ 8 := by exact Nat.le_of_ble_eq_true rfl) : jv_J X cc own K pc L st h := by
  subst hst
  obtain ⟨⟨p, l, e, R, s⟩, ⟨m, args, below, meth, c⟩, ⟨cells, slots, Q⟩, ⟨G, A, N, nL⟩⟩ := X
  intro C hN H locs ls hP hS hL
  obtain ⟨⟨w1, w2, w4, w5⟩, w6, w7, w8, w9⟩ := hw
  obtain ⟨hF, hU⟩ := jv_pre (av := As) C hN hP hS
  have C9 := C
  obtain ⟨hx, hb, hml, hown, hts, hK, hA, hD, hX, hR, hR2⟩ := C9
  have cw : CallB R s args own idx y bytes maxL ret (.code y bytes maxL ret :: jv_T) (jv_rm k) 0 0 n ∧ (Cond.static y).before args s = true := ⟨callB_of n hts (jv_good w5) rfl rfl rfl (by rw [w6]; exact hts _ w4) (hts _ w1) (by rw [w6]; exact ⟨w7.1, w7.2, w8⟩) ⟨Nat.le_trans hk hR.1, by show 8 + (maxL + 11) + 40 * k ≤ R.locals; have := hR.2; omega⟩, hts _ w2⟩
  have hr := va_runS (cells := cells) (slots := slots) (locs := locs) (e := e) (below := below) (meth := meth) (g := F0 m pc ls ((As.reverse ++ S).map (jv_V G.2.2))) (As := As.map (jv_V G.2.2)) (rest := S.map (jv_V G.2.2)) ⟨hx, hb, hml, hown, hts⟩ (hc l G H.size) cw ⟨jv_blind, hU⟩ rfl (by rw [List.length_map]; exact hn) hL.1 (by show List.map _ _ = _; rw [List.map_append, List.map_reverse]) (lv_room (by rw [jv_cat]; exact hS8)) d ⟨hR2.1, hR2.2⟩
  refine jv_goon hr hS hF (fun v h' H1 locs1 hp hl hP1 hS1 => ?_)
  rw [jv_st]
  exact kk v h' hp C (hl.trans hN) H1 locs1 ls hP1 hS1 hL
theorem jv_callN {idx n k maxL : Nat} {C0 host : String} {y : MethodName} {bytes : ByteArray} {ret : Option FieldType} {As st : List Value} {post : Option Value → List jv_E → Prop} (d : decode cc pc = .ok (.invokestatic idx, 3)) (hw : jv_mn own idx C0 host y bytes maxL ret n) (hc : jv_Ct y bytes maxL ret k As h post) (hn : As.length = n) (hst : As.reverse ++ S = st)
    (kk : ∀ (v : Option Value) (h' : List jv_E), post v h' → jv_J X cc own K (pc + 3) L (v.toList ++ S) h') (hk : k + 1 ≤ K := by omega) (hS8 : (S.map fun v => v.category).sum ≤ 8 := by exact Nat.le_of_ble_eq_true rfl) : jv_J X cc own K pc L st h := by
  subst hst
  obtain ⟨⟨p, l, e, R, s⟩, ⟨m, args, below, meth, c⟩, ⟨cells, slots, Q⟩, ⟨G, A, N, nL⟩⟩ := X
  intro C hN H locs ls hP hS hL
  obtain ⟨⟨w1, w2, w4, w5⟩, w6, w7, w8, w9⟩ := hw
  obtain ⟨hF, hU⟩ := jv_pre (av := As) C hN hP hS
  have C9 := C
  obtain ⟨hx, hb, hml, hown, hts, hK, hA, hD, hX, hR, hR2⟩ := C9
  have cw : va_CN R s args own idx y host bytes maxL ret (.code y bytes maxL ret :: jv_T) (jv_rm k) 0 0 n ∧ (Cond.static y).before args s = true ∧ True := ⟨va_cnB n hts (jv_good w5) rfl rfl rfl (hX.1 _ w1) (by rw [w6]; exact hts _ w4) (by rw [w6]; exact ⟨w7.1, w7.2, w8⟩) ⟨Nat.le_trans hk hR.1, by show 8 + (maxL + 11) + 40 * k ≤ R.locals; have := hR.2; omega⟩, hts _ w2, trivial⟩
  have hr := va_runSN (cells := cells) (slots := slots) (locs := locs) (e := e) (below := below) (meth := meth) (g := F0 m pc ls ((As.reverse ++ S).map (jv_V G.2.2))) (As := As.map (jv_V G.2.2)) (rest := S.map (jv_V G.2.2)) ⟨hx, hb, hml, hown, hts⟩ (hc l G H.size) cw ⟨jv_blind, hU⟩ rfl (by rw [List.length_map]; exact hn) hL.1 (by show List.map _ _ = _; rw [List.map_append, List.map_reverse]) (lv_room (by rw [jv_cat]; exact hS8)) d ⟨hR2.1, hR2.2⟩
  refine jv_goon hr hS hF (fun v h' H1 locs1 hp hl hP1 hS1 => ?_)
  rw [jv_st]
  exact kk v h' hp C (hl.trans hN) H1 locs1 ls hP1 hS1 hL
/-- returns -/
theorem jv_iret {ty : FieldType} {x : Int32} {post : Option Value → List jv_E → Prop} (d : decode cc pc = .ok (.ireturn, 1)) (hq : jv_ret X (some ty) post) (hp : post (some (.int x)) h) (hn : narrow ty (.int x) = .int x := by rfl) : jv_J X cc own K pc L [.int x] h := by
  obtain ⟨⟨p, l, e, R, s⟩, ⟨m, args, below, meth, c⟩, ⟨cells, slots, Q⟩, ⟨G, A, N, nL⟩⟩ := X
  intro C hN H locs ls hP hS hL
  obtain ⟨q1, q2, q3, q4, q5⟩ := hq
  subst q1; subst q2; subst q3
  exact W.zret C.1 C.2.1 q4 hn (fun t ht hW => ⟨⟨some (.int x), h, rfl, hp, hN, by rw [ht]; exact hP⟩, hS.F ht⟩) hS.2.2 d q5
theorem jv_lret {x : Int64} {post : Option Value → List jv_E → Prop} (d : decode cc pc = .ok (.lreturn, 1)) (hq : jv_ret X (some .long) post) (hp : post (some (.long x)) h) : jv_J X cc own K pc L [.long x] h := by
  obtain ⟨⟨p, l, e, R, s⟩, ⟨m, args, below, meth, c⟩, ⟨cells, slots, Q⟩, ⟨G, A, N, nL⟩⟩ := X
  intro C hN H locs ls hP hS hL
  obtain ⟨q1, q2, q3, q4, q5⟩ := hq
  subst q1; subst q2; subst q3
  exact W.lret C.1 C.2.1 q4 (fun t ht hW => ⟨⟨some (.long x), h, rfl, hp, hN, by rw [ht]; exact hP⟩, hS.F ht⟩) hS.2.2 d q5
theorem jv_aret {a : Nat} {t0 : FieldType} {post : Option Value → List jv_E → Prop} (d : decode cc pc = .ok (.areturn, 1)) (hq : jv_ret X (some (.array t0)) post) (hp : post (some (.ref a)) h) : jv_J X cc own K pc L [.ref a] h := by
  obtain ⟨⟨p, l, e, R, s⟩, ⟨m, args, below, meth, c⟩, ⟨cells, slots, Q⟩, ⟨G, A, N, nL⟩⟩ := X
  intro C hN H locs ls hP hS hL
  obtain ⟨q1, q2, q3, q4, q5⟩ := hq
  subst q1; subst q2; subst q3
  exact W.aret (v := .ref (G.2.2 a)) C.1 C.2.1 q4 (Or.inr ⟨t0, rfl⟩) (Or.inr ⟨_, rfl⟩) (fun t ht hW => ⟨⟨some (.ref a), h, rfl, hp, hN, by rw [ht]; exact hP⟩, hS.F ht⟩) hS.2.2 d q5
theorem jv_vret {post : Option Value → List jv_E → Prop} (d : decode cc pc = .ok (.return_, 1)) (hq : jv_ret X none post) (hp : post none h) : jv_J X cc own K pc L [] h := by
  obtain ⟨⟨p, l, e, R, s⟩, ⟨m, args, below, meth, c⟩, ⟨cells, slots, Q⟩, ⟨G, A, N, nL⟩⟩ := X
  intro C hN H locs ls hP hS hL
  obtain ⟨q1, q2, q3, q4, q5⟩ := hq
  subst q1; subst q2; subst q3
  exact W.vret C.1 C.2.1 q4 (fun t ht hW => ⟨⟨none, h, rfl, hp, hN, by rw [ht]; exact hP⟩, hS.F ht⟩) hS.2.2 d q5
/-- fewer slots known -/
theorem jv_less {L' : List (Option Value)} (hlen : L'.length = L.length) (hs : ∀ (i : Nat) (v : Value), L'[i]? = some (some v) → L[i]? = some (some v)) (kk : jv_J X cc own K pc L' S h) : jv_J X cc own K pc L S h := by
  obtain ⟨⟨p, l, e, R, s⟩, ⟨m, args, below, meth, c⟩, ⟨cells, slots, Q⟩, ⟨G, A, N, nL⟩⟩ := X
  intro C hN H locs ls hP hS hL
  exact kk C hN H locs ls hP hS ⟨hL.1, hL.2.1, fun i v q => hL.2.2.1 i v (hs i v q), by rw [hlen]; exact hL.2.2.2⟩
end JH
