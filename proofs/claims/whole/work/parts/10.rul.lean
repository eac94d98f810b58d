theorem jv_iconst {X : jv_M} {cc : ByteArray} {own : String} {K pc : Nat} {L : List (Option Value)} {S : List Value} {h : List jv_E} {n : Int} (d : decode cc pc = .ok (.iconst n, 1)) (kk : jv_J X cc own K (pc + 1) L (.int (jv_i n) :: S) h) : jv_J X cc own K (pc) L (S) h := by
  obtain ⟨⟨p, l, e, R, s⟩, ⟨m, args, below, meth, c⟩, ⟨cells, slots, Q⟩, ⟨G, A, N, nL⟩⟩ := X
  intro C hN H locs ls hP hS hL
  exact lv_iconst C.1 C.2.1 d rfl (kk C hN H locs ls hP hS hL)
theorem jv_bipush {X : jv_M} {cc : ByteArray} {own : String} {K pc : Nat} {L : List (Option Value)} {S : List Value} {h : List jv_E} {n : Int} (d : decode cc pc = .ok (.bipush n, 2)) (kk : jv_J X cc own K (pc + 2) L (.int (jv_i n) :: S) h) (hv : (Int8.ofInt n).toInt32 = jv_i n := by decide) : jv_J X cc own K (pc) L (S) h := by
  obtain ⟨⟨p, l, e, R, s⟩, ⟨m, args, below, meth, c⟩, ⟨cells, slots, Q⟩, ⟨G, A, N, nL⟩⟩ := X
  intro C hN H locs ls hP hS hL
  exact lv_bipush C.1 C.2.1 d hv (kk C hN H locs ls hP hS hL)
theorem jv_sipush {X : jv_M} {cc : ByteArray} {own : String} {K pc : Nat} {L : List (Option Value)} {S : List Value} {h : List jv_E} {n : Int} (d : decode cc pc = .ok (.sipush n, 3)) (kk : jv_J X cc own K (pc + 3) L (.int (jv_i n) :: S) h) (hv : (Int16.ofInt n).toInt32 = jv_i n := by decide) : jv_J X cc own K (pc) L (S) h := by
  obtain ⟨⟨p, l, e, R, s⟩, ⟨m, args, below, meth, c⟩, ⟨cells, slots, Q⟩, ⟨G, A, N, nL⟩⟩ := X
  intro C hN H locs ls hP hS hL
  exact lv_sipush C.1 C.2.1 d hv (kk C hN H locs ls hP hS hL)
theorem jv_lconst {X : jv_M} {cc : ByteArray} {own : String} {K pc : Nat} {L : List (Option Value)} {S : List Value} {h : List jv_E} {n : Fin 2} (z : Int) (d : decode cc pc = .ok (.lconst n, 1)) (kk : jv_J X cc own K (pc + 1) L (.long (jv_l z) :: S) h) (hv : Int64.ofNat (n : Nat) = jv_l z := by decide) : jv_J X cc own K (pc) L (S) h := by
  obtain ⟨⟨p, l, e, R, s⟩, ⟨m, args, below, meth, c⟩, ⟨cells, slots, Q⟩, ⟨G, A, N, nL⟩⟩ := X
  intro C hN H locs ls hP hS hL
  exact lv_lconst C.1 C.2.1 d hv (kk C hN H locs ls hP hS hL)
theorem jv_ldc {X : jv_M} {cc : ByteArray} {own : String} {K pc : Nat} {L : List (Option Value)} {S : List Value} {h : List jv_E} {index : Nat} {z : Int} (d : decode cc pc = .ok (.ldc index, 2)) (hw : Cond.constant own index (jv_i z) ∈ jv_T) (kk : jv_J X cc own K (pc + 2) L (.int (jv_i z) :: S) h) : jv_J X cc own K (pc) L (S) h := by
  obtain ⟨⟨p, l, e, R, s⟩, ⟨m, args, below, meth, c⟩, ⟨cells, slots, Q⟩, ⟨G, A, N, nL⟩⟩ := X
  intro C hN H locs ls hP hS hL
  exact lv_ldc C.1 C.2.1 C.2.2.2.1 (C.2.2.2.2.1 _ hw) d (kk C hN H locs ls hP hS hL)
theorem jv_ldc2 {X : jv_M} {cc : ByteArray} {own : String} {K pc : Nat} {L : List (Option Value)} {S : List Value} {h : List jv_E} {index : Nat} {z : Int} (d : decode cc pc = .ok (.ldc2_w index, 3)) (hw : Cond.constantLong own index (jv_l z) ∈ jv_T) (kk : jv_J X cc own K (pc + 3) L (.long (jv_l z) :: S) h) : jv_J X cc own K (pc) L (S) h := by
  obtain ⟨⟨p, l, e, R, s⟩, ⟨m, args, below, meth, c⟩, ⟨cells, slots, Q⟩, ⟨G, A, N, nL⟩⟩ := X
  intro C hN H locs ls hP hS hL
  exact lv_ldc2 C.1 C.2.1 C.2.2.2.1 (C.2.2.2.2.1 _ hw) d (kk C hN H locs ls hP hS hL)
theorem jv_iload_n {X : jv_M} {cc : ByteArray} {own : String} {K pc : Nat} {L : List (Option Value)} {S : List Value} {h : List jv_E} {k : Fin 4} {x : Int32} (d : decode cc pc = .ok (.iload_n k, 1)) (hl : L[(k : Nat)]? = some (some (.int x))) (kk : jv_J X cc own K (pc + 1) L (.int x :: S) h) : jv_J X cc own K (pc) L (S) h := by
  obtain ⟨⟨p, l, e, R, s⟩, ⟨m, args, below, meth, c⟩, ⟨cells, slots, Q⟩, ⟨G, A, N, nL⟩⟩ := X
  intro C hN H locs ls hP hS hL
  exact lv_iload_n C.1 C.2.1 d rfl (hL.2.2.1 _ _ hl) (kk C hN H locs ls hP hS hL)
theorem jv_iload {X : jv_M} {cc : ByteArray} {own : String} {K pc : Nat} {L : List (Option Value)} {S : List Value} {h : List jv_E} {i : Nat} {x : Int32} (d : decode cc pc = .ok (.iload i, 2)) (hl : L[i]? = some (some (.int x))) (kk : jv_J X cc own K (pc + 2) L (.int x :: S) h) : jv_J X cc own K (pc) L (S) h := by
  obtain ⟨⟨p, l, e, R, s⟩, ⟨m, args, below, meth, c⟩, ⟨cells, slots, Q⟩, ⟨G, A, N, nL⟩⟩ := X
  intro C hN H locs ls hP hS hL
  exact lv_iload C.1 C.2.1 d (hL.2.2.1 _ _ hl) (kk C hN H locs ls hP hS hL)
theorem jv_lload_n {X : jv_M} {cc : ByteArray} {own : String} {K pc : Nat} {L : List (Option Value)} {S : List Value} {h : List jv_E} {k : Fin 4} {x : Int64} (d : decode cc pc = .ok (.lload_n k, 1)) (hl : L[(k : Nat)]? = some (some (.long x))) (kk : jv_J X cc own K (pc + 1) L (.long x :: S) h) : jv_J X cc own K (pc) L (S) h := by
  obtain ⟨⟨p, l, e, R, s⟩, ⟨m, args, below, meth, c⟩, ⟨cells, slots, Q⟩, ⟨G, A, N, nL⟩⟩ := X
  intro C hN H locs ls hP hS hL
  exact lv_lload_n C.1 C.2.1 d rfl (hL.2.2.1 _ _ hl) (kk C hN H locs ls hP hS hL)
theorem jv_lload {X : jv_M} {cc : ByteArray} {own : String} {K pc : Nat} {L : List (Option Value)} {S : List Value} {h : List jv_E} {i : Nat} {x : Int64} (d : decode cc pc = .ok (.lload i, 2)) (hl : L[i]? = some (some (.long x))) (kk : jv_J X cc own K (pc + 2) L (.long x :: S) h) : jv_J X cc own K (pc) L (S) h := by
  obtain ⟨⟨p, l, e, R, s⟩, ⟨m, args, below, meth, c⟩, ⟨cells, slots, Q⟩, ⟨G, A, N, nL⟩⟩ := X
  intro C hN H locs ls hP hS hL
  exact lv_lload C.1 C.2.1 d (hL.2.2.1 _ _ hl) (kk C hN H locs ls hP hS hL)
theorem jv_aload_n {X : jv_M} {cc : ByteArray} {own : String} {K pc : Nat} {L : List (Option Value)} {S : List Value} {h : List jv_E} {k : Fin 4} {x : Nat} (d : decode cc pc = .ok (.aload_n k, 1)) (hl : L[(k : Nat)]? = some (some (.ref x))) (kk : jv_J X cc own K (pc + 1) L (.ref x :: S) h) : jv_J X cc own K (pc) L (S) h := by
  obtain ⟨⟨p, l, e, R, s⟩, ⟨m, args, below, meth, c⟩, ⟨cells, slots, Q⟩, ⟨G, A, N, nL⟩⟩ := X
  intro C hN H locs ls hP hS hL
  exact lv_aload_n C.1 C.2.1 d rfl (hL.2.2.1 _ _ hl) (kk C hN H locs ls hP hS hL)
theorem jv_aload {X : jv_M} {cc : ByteArray} {own : String} {K pc : Nat} {L : List (Option Value)} {S : List Value} {h : List jv_E} {i : Nat} {x : Nat} (d : decode cc pc = .ok (.aload i, 2)) (hl : L[i]? = some (some (.ref x))) (kk : jv_J X cc own K (pc + 2) L (.ref x :: S) h) : jv_J X cc own K (pc) L (S) h := by
  obtain ⟨⟨p, l, e, R, s⟩, ⟨m, args, below, meth, c⟩, ⟨cells, slots, Q⟩, ⟨G, A, N, nL⟩⟩ := X
  intro C hN H locs ls hP hS hL
  exact lv_aload C.1 C.2.1 d (hL.2.2.1 _ _ hl) (kk C hN H locs ls hP hS hL)
theorem jv_istore_n {X : jv_M} {cc : ByteArray} {own : String} {K pc : Nat} {L : List (Option Value)} {S : List Value} {h : List jv_E} {k : Fin 4} {x : Int32} (d : decode cc pc = .ok (.istore_n k, 1)) (ok : jv_ok L (k : Nat) = true) (hn : (k : Nat) < L.length) (kk : jv_J X cc own K (pc + 1) (L.set (k : Nat) (some (.int x))) (S) h) : jv_J X cc own K (pc) L (.int x :: S) h := by
  obtain ⟨⟨p, l, e, R, s⟩, ⟨m, args, below, meth, c⟩, ⟨cells, slots, Q⟩, ⟨G, A, N, nL⟩⟩ := X
  intro C hN H locs ls hP hS hL
  exact lv_istore_n C.1 C.2.1 d rfl (jv_L_has hL) (Nat.lt_of_lt_of_le hn hL.2.2.2) rfl (fun ls hL9 => kk C hN H locs ls hP hS (jv_L_s1 (v := .int x) hL.2.2.2 ok hL9))
theorem jv_istore {X : jv_M} {cc : ByteArray} {own : String} {K pc : Nat} {L : List (Option Value)} {S : List Value} {h : List jv_E} {i : Nat} {x : Int32} (d : decode cc pc = .ok (.istore i, 2)) (ok : jv_ok L i = true) (hn : i < L.length) (kk : jv_J X cc own K (pc + 2) (L.set i (some (.int x))) (S) h) : jv_J X cc own K (pc) L (.int x :: S) h := by
  obtain ⟨⟨p, l, e, R, s⟩, ⟨m, args, below, meth, c⟩, ⟨cells, slots, Q⟩, ⟨G, A, N, nL⟩⟩ := X
  intro C hN H locs ls hP hS hL
  exact lv_istore C.1 C.2.1 d (jv_L_has hL) (Nat.lt_of_lt_of_le hn hL.2.2.2) rfl (fun ls hL9 => kk C hN H locs ls hP hS (jv_L_s1 (v := .int x) hL.2.2.2 ok hL9))
theorem jv_lstore_n {X : jv_M} {cc : ByteArray} {own : String} {K pc : Nat} {L : List (Option Value)} {S : List Value} {h : List jv_E} {k : Fin 4} {x : Int64} (d : decode cc pc = .ok (.lstore_n k, 1)) (ok : jv_ok L (k : Nat) = true) (hn : (k : Nat) + 1 < L.length) (kk : jv_J X cc own K (pc + 1) ((L.set ((k : Nat) + 1) none).set (k : Nat) (some (.long x))) (S) h) : jv_J X cc own K (pc) L (.long x :: S) h := by
  obtain ⟨⟨p, l, e, R, s⟩, ⟨m, args, below, meth, c⟩, ⟨cells, slots, Q⟩, ⟨G, A, N, nL⟩⟩ := X
  intro C hN H locs ls hP hS hL
  exact lv_lstore_n C.1 C.2.1 d rfl (jv_L_has hL) (Nat.lt_of_lt_of_le hn hL.2.2.2) rfl (fun ls hL9 => kk C hN H locs ls hP hS (jv_L_s2 (v := .long x) hL.2.2.2 ok hL9))
theorem jv_lstore {X : jv_M} {cc : ByteArray} {own : String} {K pc : Nat} {L : List (Option Value)} {S : List Value} {h : List jv_E} {i : Nat} {x : Int64} (d : decode cc pc = .ok (.lstore i, 2)) (ok : jv_ok L i = true) (hn : i + 1 < L.length) (kk : jv_J X cc own K (pc + 2) ((L.set (i + 1) none).set i (some (.long x))) (S) h) : jv_J X cc own K (pc) L (.long x :: S) h := by
  obtain ⟨⟨p, l, e, R, s⟩, ⟨m, args, below, meth, c⟩, ⟨cells, slots, Q⟩, ⟨G, A, N, nL⟩⟩ := X
  intro C hN H locs ls hP hS hL
  exact lv_lstore C.1 C.2.1 d (jv_L_has hL) (Nat.lt_of_lt_of_le hn hL.2.2.2) rfl (fun ls hL9 => kk C hN H locs ls hP hS (jv_L_s2 (v := .long x) hL.2.2.2 ok hL9))
theorem jv_astore_n {X : jv_M} {cc : ByteArray} {own : String} {K pc : Nat} {L : List (Option Value)} {S : List Value} {h : List jv_E} {k : Fin 4} {x : Nat} (d : decode cc pc = .ok (.astore_n k, 1)) (ok : jv_ok L (k : Nat) = true) (hn : (k : Nat) < L.length) (kk : jv_J X cc own K (pc + 1) (L.set (k : Nat) (some (.ref x))) (S) h) : jv_J X cc own K (pc) L (.ref x :: S) h := by
  obtain ⟨⟨p, l, e, R, s⟩, ⟨m, args, below, meth, c⟩, ⟨cells, slots, Q⟩, ⟨G, A, N, nL⟩⟩ := X
  intro C hN H locs ls hP hS hL
  exact lv_astore_n C.1 C.2.1 d rfl (jv_L_has hL) (Nat.lt_of_lt_of_le hn hL.2.2.2) rfl (fun ls hL9 => kk C hN H locs ls hP hS (jv_L_s1 (v := .ref x) hL.2.2.2 ok hL9))
theorem jv_astore {X : jv_M} {cc : ByteArray} {own : String} {K pc : Nat} {L : List (Option Value)} {S : List Value} {h : List jv_E} {i : Nat} {x : Nat} (d : decode cc pc = .ok (.astore i, 2)) (ok : jv_ok L i = true) (hn : i < L.length) (kk : jv_J X cc own K (pc + 2) (L.set i (some (.ref x))) (S) h) : jv_J X cc own K (pc) L (.ref x :: S) h := by
  obtain ⟨⟨p, l, e, R, s⟩, ⟨m, args, below, meth, c⟩, ⟨cells, slots, Q⟩, ⟨G, A, N, nL⟩⟩ := X
  intro C hN H locs ls hP hS hL
  exact lv_astore C.1 C.2.1 d (jv_L_has hL) (Nat.lt_of_lt_of_le hn hL.2.2.2) rfl (fun ls hL9 => kk C hN H locs ls hP hS (jv_L_s1 (v := .ref x) hL.2.2.2 ok hL9))
theorem jv_iinc {X : jv_M} {cc : ByteArray} {own : String} {K pc : Nat} {L : List (Option Value)} {S : List Value} {h : List jv_E} {i : Nat} {n a : Int} (d : decode cc pc = .ok (.iinc i n, 3)) (hl : L[i]? = some (some (.int (jv_i a)))) (ok : jv_ok L i = true) (kk : jv_J X cc own K (pc + 3) (L.set i (some (.int (jv_i (a + n))))) (S) h) : jv_J X cc own K (pc) L (S) h := by
  obtain ⟨⟨p, l, e, R, s⟩, ⟨m, args, below, meth, c⟩, ⟨cells, slots, Q⟩, ⟨G, A, N, nL⟩⟩ := X
  intro C hN H locs ls hP hS hL
  have hn : i < L.length := (List.getElem?_eq_some_iff.mp hl).1
  obtain ⟨k, hk⟩ := List.getElem?_of_mem (jv_ls_mem (ad := G.2.2) hl)
  exact lv_iinc C.1 C.2.1 d (jv_L_has hL) hk (v := jv_i (a + n)) (jv_i_add a n) (Nat.lt_of_lt_of_le hn hL.2.2.2) rfl (fun ls hL9 => kk C hN H locs ls hP hS (jv_L_s1 (v := .int (jv_i (a + n))) hL.2.2.2 ok hL9))
theorem jv_iadd {X : jv_M} {cc : ByteArray} {own : String} {K pc : Nat} {L : List (Option Value)} {S : List Value} {h : List jv_E} {a b : Int} (d : decode cc pc = .ok (.iadd, 1)) (kk : jv_J X cc own K (pc + 1) L (.int (jv_i (a + b)) :: S) h) : jv_J X cc own K (pc) L (.int (jv_i b) :: .int (jv_i a) :: S) h := by
  obtain ⟨⟨p, l, e, R, s⟩, ⟨m, args, below, meth, c⟩, ⟨cells, slots, Q⟩, ⟨G, A, N, nL⟩⟩ := X
  intro C hN H locs ls hP hS hL
  exact lv_iadd C.1 C.2.1 d (by rw [jv_i_add]; exact kk C hN H locs ls hP hS hL)
theorem jv_isub {X : jv_M} {cc : ByteArray} {own : String} {K pc : Nat} {L : List (Option Value)} {S : List Value} {h : List jv_E} {a b : Int} (d : decode cc pc = .ok (.isub, 1)) (kk : jv_J X cc own K (pc + 1) L (.int (jv_i (a - b)) :: S) h) : jv_J X cc own K (pc) L (.int (jv_i b) :: .int (jv_i a) :: S) h := by
  obtain ⟨⟨p, l, e, R, s⟩, ⟨m, args, below, meth, c⟩, ⟨cells, slots, Q⟩, ⟨G, A, N, nL⟩⟩ := X
  intro C hN H locs ls hP hS hL
  exact lv_isub C.1 C.2.1 d (by rw [jv_i_sub]; exact kk C hN H locs ls hP hS hL)
theorem jv_imul {X : jv_M} {cc : ByteArray} {own : String} {K pc : Nat} {L : List (Option Value)} {S : List Value} {h : List jv_E} {a b : Int} (d : decode cc pc = .ok (.imul, 1)) (kk : jv_J X cc own K (pc + 1) L (.int (jv_i (a * b)) :: S) h) : jv_J X cc own K (pc) L (.int (jv_i b) :: .int (jv_i a) :: S) h := by
  obtain ⟨⟨p, l, e, R, s⟩, ⟨m, args, below, meth, c⟩, ⟨cells, slots, Q⟩, ⟨G, A, N, nL⟩⟩ := X
  intro C hN H locs ls hP hS hL
  exact lv_imul C.1 C.2.1 d (by rw [jv_i_mul]; exact kk C hN H locs ls hP hS hL)
theorem jv_ladd {X : jv_M} {cc : ByteArray} {own : String} {K pc : Nat} {L : List (Option Value)} {S : List Value} {h : List jv_E} {a b : Int} (d : decode cc pc = .ok (.ladd, 1)) (kk : jv_J X cc own K (pc + 1) L (.long (jv_l (a + b)) :: S) h) : jv_J X cc own K (pc) L (.long (jv_l b) :: .long (jv_l a) :: S) h := by
  obtain ⟨⟨p, l, e, R, s⟩, ⟨m, args, below, meth, c⟩, ⟨cells, slots, Q⟩, ⟨G, A, N, nL⟩⟩ := X
  intro C hN H locs ls hP hS hL
  exact lv_ladd C.1 C.2.1 d (by rw [jv_l_add]; exact kk C hN H locs ls hP hS hL)
theorem jv_lsub {X : jv_M} {cc : ByteArray} {own : String} {K pc : Nat} {L : List (Option Value)} {S : List Value} {h : List jv_E} {a b : Int} (d : decode cc pc = .ok (.lsub, 1)) (kk : jv_J X cc own K (pc + 1) L (.long (jv_l (a - b)) :: S) h) : jv_J X cc own K (pc) L (.long (jv_l b) :: .long (jv_l a) :: S) h := by
  obtain ⟨⟨p, l, e, R, s⟩, ⟨m, args, below, meth, c⟩, ⟨cells, slots, Q⟩, ⟨G, A, N, nL⟩⟩ := X
  intro C hN H locs ls hP hS hL
  exact lv_lsub C.1 C.2.1 d (by rw [jv_l_sub]; exact kk C hN H locs ls hP hS hL)
theorem jv_lmul {X : jv_M} {cc : ByteArray} {own : String} {K pc : Nat} {L : List (Option Value)} {S : List Value} {h : List jv_E} {a b : Int} (d : decode cc pc = .ok (.lmul, 1)) (kk : jv_J X cc own K (pc + 1) L (.long (jv_l (a * b)) :: S) h) : jv_J X cc own K (pc) L (.long (jv_l b) :: .long (jv_l a) :: S) h := by
  obtain ⟨⟨p, l, e, R, s⟩, ⟨m, args, below, meth, c⟩, ⟨cells, slots, Q⟩, ⟨G, A, N, nL⟩⟩ := X
  intro C hN H locs ls hP hS hL
  exact lv_lmul C.1 C.2.1 d (by rw [jv_l_mul]; exact kk C hN H locs ls hP hS hL)
theorem jv_ineg {X : jv_M} {cc : ByteArray} {own : String} {K pc : Nat} {L : List (Option Value)} {S : List Value} {h : List jv_E} {a : Int} (d : decode cc pc = .ok (.ineg, 1)) (kk : jv_J X cc own K (pc + 1) L (.int (jv_i (-a)) :: S) h) : jv_J X cc own K (pc) L (.int (jv_i a) :: S) h := by
  obtain ⟨⟨p, l, e, R, s⟩, ⟨m, args, below, meth, c⟩, ⟨cells, slots, Q⟩, ⟨G, A, N, nL⟩⟩ := X
  intro C hN H locs ls hP hS hL
  exact lv_ineg C.1 C.2.1 d (by rw [jv_i_neg]; exact kk C hN H locs ls hP hS hL)
theorem jv_lneg {X : jv_M} {cc : ByteArray} {own : String} {K pc : Nat} {L : List (Option Value)} {S : List Value} {h : List jv_E} {a : Int} (d : decode cc pc = .ok (.lneg, 1)) (kk : jv_J X cc own K (pc + 1) L (.long (jv_l (-a)) :: S) h) : jv_J X cc own K (pc) L (.long (jv_l a) :: S) h := by
  obtain ⟨⟨p, l, e, R, s⟩, ⟨m, args, below, meth, c⟩, ⟨cells, slots, Q⟩, ⟨G, A, N, nL⟩⟩ := X
  intro C hN H locs ls hP hS hL
  exact lv_lneg C.1 C.2.1 d (by rw [jv_l_neg]; exact kk C hN H locs ls hP hS hL)
theorem jv_idiv {X : jv_M} {cc : ByteArray} {own : String} {K pc : Nat} {L : List (Option Value)} {S : List Value} {h : List jv_E} {a b : Int} (d : decode cc pc = .ok (.idiv, 1)) (kk : jv_J X cc own K (pc + 1) L (.int (jv_i (a / b)) :: S) h) (ha : 0 ≤ a ∧ a ≤ 2147483647 := by omega) (hb : 0 < b ∧ b ≤ 2147483647 := by omega) : jv_J X cc own K (pc) L (.int (jv_i b) :: .int (jv_i a) :: S) h := by
  obtain ⟨⟨p, l, e, R, s⟩, ⟨m, args, below, meth, c⟩, ⟨cells, slots, Q⟩, ⟨G, A, N, nL⟩⟩ := X
  intro C hN H locs ls hP hS hL
  exact lv_idiv C.1 C.2.1 d (fun z => by have z2 := (jv_i_eq (a := b) (b := 0) (by omega) (by omega)).mp z; omega) (by rw [jv_i_div ha hb]; exact kk C hN H locs ls hP hS hL)
theorem jv_ldiv {X : jv_M} {cc : ByteArray} {own : String} {K pc : Nat} {L : List (Option Value)} {S : List Value} {h : List jv_E} {a b : Int} (d : decode cc pc = .ok (.ldiv, 1)) (kk : jv_J X cc own K (pc + 1) L (.long (jv_l (a / b)) :: S) h) (ha : 0 ≤ a ∧ a ≤ 9223372036854775807 := by omega) (hb : 0 < b ∧ b ≤ 9223372036854775807 := by omega) : jv_J X cc own K (pc) L (.long (jv_l b) :: .long (jv_l a) :: S) h := by
  obtain ⟨⟨p, l, e, R, s⟩, ⟨m, args, below, meth, c⟩, ⟨cells, slots, Q⟩, ⟨G, A, N, nL⟩⟩ := X
  intro C hN H locs ls hP hS hL
  exact lv_ldiv C.1 C.2.1 d (fun z => by have z2 := (jv_l_eq (a := b) (b := 0) (by omega) (by omega)).mp z; omega) (by rw [jv_l_div ha hb]; exact kk C hN H locs ls hP hS hL)
theorem jv_i2l {X : jv_M} {cc : ByteArray} {own : String} {K pc : Nat} {L : List (Option Value)} {S : List Value} {h : List jv_E} {a : Int} (d : decode cc pc = .ok (.i2l, 1)) (kk : jv_J X cc own K (pc + 1) L (.long (jv_l a) :: S) h) (ha : -2147483648 ≤ a ∧ a ≤ 2147483647 := by omega) : jv_J X cc own K (pc) L (.int (jv_i a) :: S) h := by
  obtain ⟨⟨p, l, e, R, s⟩, ⟨m, args, below, meth, c⟩, ⟨cells, slots, Q⟩, ⟨G, A, N, nL⟩⟩ := X
  intro C hN H locs ls hP hS hL
  exact lv_i2l C.1 C.2.1 d (jv_i_l ha) (kk C hN H locs ls hP hS hL)
theorem jv_l2i {X : jv_M} {cc : ByteArray} {own : String} {K pc : Nat} {L : List (Option Value)} {S : List Value} {h : List jv_E} {a : Int} (d : decode cc pc = .ok (.l2i, 1)) (kk : jv_J X cc own K (pc + 1) L (.int (jv_i a) :: S) h) : jv_J X cc own K (pc) L (.long (jv_l a) :: S) h := by
  obtain ⟨⟨p, l, e, R, s⟩, ⟨m, args, below, meth, c⟩, ⟨cells, slots, Q⟩, ⟨G, A, N, nL⟩⟩ := X
  intro C hN H locs ls hP hS hL
  exact lv_l2i C.1 C.2.1 d (jv_l_i a) (kk C hN H locs ls hP hS hL)
theorem jv_i2c {X : jv_M} {cc : ByteArray} {own : String} {K pc : Nat} {L : List (Option Value)} {S : List Value} {h : List jv_E} {a : Int} (d : decode cc pc = .ok (.i2c, 1)) (kk : jv_J X cc own K (pc + 1) L (.int (jv_i a) :: S) h) (ha : 0 ≤ a ∧ a < 65536 := by omega) : jv_J X cc own K (pc) L (.int (jv_i a) :: S) h := by
  obtain ⟨⟨p, l, e, R, s⟩, ⟨m, args, below, meth, c⟩, ⟨cells, slots, Q⟩, ⟨G, A, N, nL⟩⟩ := X
  intro C hN H locs ls hP hS hL
  exact lv_i2c C.1 C.2.1 d (jv_char ha) (kk C hN H locs ls hP hS hL)
theorem jv_dup {X : jv_M} {cc : ByteArray} {own : String} {K pc : Nat} {L : List (Option Value)} {S : List Value} {h : List jv_E} {v : Value} (d : decode cc pc = .ok (.dup, 1)) (hv : v.category = 1) (kk : jv_J X cc own K (pc + 1) L (v :: v :: S) h) : jv_J X cc own K (pc) L (v :: S) h := by
  obtain ⟨⟨p, l, e, R, s⟩, ⟨m, args, below, meth, c⟩, ⟨cells, slots, Q⟩, ⟨G, A, N, nL⟩⟩ := X
  intro C hN H locs ls hP hS hL
  exact lv_dup C.1 C.2.1 d (by rw [jv_V_cat]; exact hv) (kk C hN H locs ls hP hS hL)
theorem jv_pop {X : jv_M} {cc : ByteArray} {own : String} {K pc : Nat} {L : List (Option Value)} {S : List Value} {h : List jv_E} {v : Value} (d : decode cc pc = .ok (.pop, 1)) (hv : v.category = 1) (kk : jv_J X cc own K (pc + 1) L (S) h) : jv_J X cc own K (pc) L (v :: S) h := by
  obtain ⟨⟨p, l, e, R, s⟩, ⟨m, args, below, meth, c⟩, ⟨cells, slots, Q⟩, ⟨G, A, N, nL⟩⟩ := X
  intro C hN H locs ls hP hS hL
  exact lv_pop C.1 C.2.1 d (by rw [jv_V_cat]; exact hv) (kk C hN H locs ls hP hS hL)
theorem jv_dup2 {X : jv_M} {cc : ByteArray} {own : String} {K pc : Nat} {L : List (Option Value)} {S : List Value} {h : List jv_E} {v w : Value} (d : decode cc pc = .ok (.dup2, 1)) (hv : v.category = 1) (hw : w.category = 1) (kk : jv_J X cc own K (pc + 1) L (v :: w :: v :: w :: S) h) : jv_J X cc own K (pc) L (v :: w :: S) h := by
  obtain ⟨⟨p, l, e, R, s⟩, ⟨m, args, below, meth, c⟩, ⟨cells, slots, Q⟩, ⟨G, A, N, nL⟩⟩ := X
  intro C hN H locs ls hP hS hL
  exact lv_dup2_11 C.1 C.2.1 d (by rw [jv_V_cat]; exact hv) (by rw [jv_V_cat]; exact hw) (kk C hN H locs ls hP hS hL)
theorem jv_icmp_eq {X : jv_M} {cc : ByteArray} {own : String} {K pc : Nat} {L : List (Option Value)} {S : List Value} {h : List jv_E} {a b : Int} {off : Int} (tgt : Nat) (d : decode cc pc = .ok (.if_icmp .eq off, 3)) (kt : a = b → jv_J X cc own K (tgt) L (S) h) (kf : a ≠ b → jv_J X cc own K (pc + 3) L (S) h) (ha : -2147483648 ≤ a ∧ a ≤ 2147483647 := by omega) (hb : -2147483648 ≤ b ∧ b ≤ 2147483647 := by omega) (ht : (pc : Int) + off = (tgt : Int) := by decide) : jv_J X cc own K (pc) L (.int (jv_i b) :: .int (jv_i a) :: S) h := by
  obtain ⟨⟨p, l, e, R, s⟩, ⟨m, args, below, meth, c⟩, ⟨cells, slots, Q⟩, ⟨G, A, N, nL⟩⟩ := X
  intro C hN H locs ls hP hS hL
  exact lv_icmp_eq C.1 C.2.1 d ht (fun z => kt ((jv_i_eq ha hb).mp z) C hN H locs ls hP hS hL) (fun z => kf (fun q => z ((jv_i_eq ha hb).mpr q)) C hN H locs ls hP hS hL)
theorem jv_if_eq {X : jv_M} {cc : ByteArray} {own : String} {K pc : Nat} {L : List (Option Value)} {S : List Value} {h : List jv_E} {a : Int} {off : Int} (tgt : Nat) (d : decode cc pc = .ok (.ifCond .eq off, 3)) (kt : a = 0 → jv_J X cc own K (tgt) L (S) h) (kf : a ≠ 0 → jv_J X cc own K (pc + 3) L (S) h) (ha : -2147483648 ≤ a ∧ a ≤ 2147483647 := by omega) (ht : (pc : Int) + off = (tgt : Int) := by decide) : jv_J X cc own K (pc) L (.int (jv_i a) :: S) h := by
  obtain ⟨⟨p, l, e, R, s⟩, ⟨m, args, below, meth, c⟩, ⟨cells, slots, Q⟩, ⟨G, A, N, nL⟩⟩ := X
  intro C hN H locs ls hP hS hL
  exact lv_if_eq C.1 C.2.1 d ht (fun z => kt ((jv_i_eq (a := a) (b := 0) ha (by decide)).mp z) C hN H locs ls hP hS hL) (fun z => kf (fun q => z ((jv_i_eq (a := a) (b := 0) ha (by decide)).mpr q)) C hN H locs ls hP hS hL)
theorem jv_lcmp_eq {X : jv_M} {cc : ByteArray} {own : String} {K pc : Nat} {L : List (Option Value)} {S : List Value} {h : List jv_E} {a b : Int} {off : Int} (tgt : Nat) (d : decode cc pc = .ok (.lcmp, 1)) (d2 : decode cc (pc + 1) = .ok (.ifCond .eq off, 3)) (kt : a = b → jv_J X cc own K (tgt) L (S) h) (kf : a ≠ b → jv_J X cc own K (pc + 4) L (S) h) (ha : -9223372036854775808 ≤ a ∧ a ≤ 9223372036854775807 := by omega) (hb : -9223372036854775808 ≤ b ∧ b ≤ 9223372036854775807 := by omega) (ht : ((pc + 1 : Nat) : Int) + off = (tgt : Int) := by decide) : jv_J X cc own K (pc) L (.long (jv_l b) :: .long (jv_l a) :: S) h := by
  obtain ⟨⟨p, l, e, R, s⟩, ⟨m, args, below, meth, c⟩, ⟨cells, slots, Q⟩, ⟨G, A, N, nL⟩⟩ := X
  intro C hN H locs ls hP hS hL
  exact W.lcmp C.1 C.2.1 d (lv_if_eq C.1 C.2.1 d2 ht (fun z => kt ((jv_l_eq ha hb).mp ((lg_cmp_eq _ _).mp z)) C hN H locs ls hP hS hL) (fun z => kf (fun q => z ((lg_cmp_eq _ _).mpr ((jv_l_eq ha hb).mpr q))) C hN H locs ls hP hS hL))
theorem jv_icmp_ne {X : jv_M} {cc : ByteArray} {own : String} {K pc : Nat} {L : List (Option Value)} {S : List Value} {h : List jv_E} {a b : Int} {off : Int} (tgt : Nat) (d : decode cc pc = .ok (.if_icmp .ne off, 3)) (kt : a ≠ b → jv_J X cc own K (tgt) L (S) h) (kf : a = b → jv_J X cc own K (pc + 3) L (S) h) (ha : -2147483648 ≤ a ∧ a ≤ 2147483647 := by omega) (hb : -2147483648 ≤ b ∧ b ≤ 2147483647 := by omega) (ht : (pc : Int) + off = (tgt : Int) := by decide) : jv_J X cc own K (pc) L (.int (jv_i b) :: .int (jv_i a) :: S) h := by
  obtain ⟨⟨p, l, e, R, s⟩, ⟨m, args, below, meth, c⟩, ⟨cells, slots, Q⟩, ⟨G, A, N, nL⟩⟩ := X
  intro C hN H locs ls hP hS hL
  exact lv_icmp_ne C.1 C.2.1 d ht (fun z => kt (fun q => z ((jv_i_eq ha hb).mpr q)) C hN H locs ls hP hS hL) (fun z => kf ((jv_i_eq ha hb).mp z) C hN H locs ls hP hS hL)
theorem jv_if_ne {X : jv_M} {cc : ByteArray} {own : String} {K pc : Nat} {L : List (Option Value)} {S : List Value} {h : List jv_E} {a : Int} {off : Int} (tgt : Nat) (d : decode cc pc = .ok (.ifCond .ne off, 3)) (kt : a ≠ 0 → jv_J X cc own K (tgt) L (S) h) (kf : a = 0 → jv_J X cc own K (pc + 3) L (S) h) (ha : -2147483648 ≤ a ∧ a ≤ 2147483647 := by omega) (ht : (pc : Int) + off = (tgt : Int) := by decide) : jv_J X cc own K (pc) L (.int (jv_i a) :: S) h := by
  obtain ⟨⟨p, l, e, R, s⟩, ⟨m, args, below, meth, c⟩, ⟨cells, slots, Q⟩, ⟨G, A, N, nL⟩⟩ := X
  intro C hN H locs ls hP hS hL
  exact lv_if_ne C.1 C.2.1 d ht (fun z => kt (fun q => z ((jv_i_eq (a := a) (b := 0) ha (by decide)).mpr q)) C hN H locs ls hP hS hL) (fun z => kf ((jv_i_eq (a := a) (b := 0) ha (by decide)).mp z) C hN H locs ls hP hS hL)
theorem jv_lcmp_ne {X : jv_M} {cc : ByteArray} {own : String} {K pc : Nat} {L : List (Option Value)} {S : List Value} {h : List jv_E} {a b : Int} {off : Int} (tgt : Nat) (d : decode cc pc = .ok (.lcmp, 1)) (d2 : decode cc (pc + 1) = .ok (.ifCond .ne off, 3)) (kt : a ≠ b → jv_J X cc own K (tgt) L (S) h) (kf : a = b → jv_J X cc own K (pc + 4) L (S) h) (ha : -9223372036854775808 ≤ a ∧ a ≤ 9223372036854775807 := by omega) (hb : -9223372036854775808 ≤ b ∧ b ≤ 9223372036854775807 := by omega) (ht : ((pc + 1 : Nat) : Int) + off = (tgt : Int) := by decide) : jv_J X cc own K (pc) L (.long (jv_l b) :: .long (jv_l a) :: S) h := by
  obtain ⟨⟨p, l, e, R, s⟩, ⟨m, args, below, meth, c⟩, ⟨cells, slots, Q⟩, ⟨G, A, N, nL⟩⟩ := X
  intro C hN H locs ls hP hS hL
  exact W.lcmp C.1 C.2.1 d (lv_if_ne C.1 C.2.1 d2 ht (fun z => kt (fun q => z ((lg_cmp_eq _ _).mpr ((jv_l_eq ha hb).mpr q))) C hN H locs ls hP hS hL) (fun z => kf ((jv_l_eq ha hb).mp ((lg_cmp_eq _ _).mp z)) C hN H locs ls hP hS hL))
theorem jv_icmp_lt {X : jv_M} {cc : ByteArray} {own : String} {K pc : Nat} {L : List (Option Value)} {S : List Value} {h : List jv_E} {a b : Int} {off : Int} (tgt : Nat) (d : decode cc pc = .ok (.if_icmp .lt off, 3)) (kt : a < b → jv_J X cc own K (tgt) L (S) h) (kf : b ≤ a → jv_J X cc own K (pc + 3) L (S) h) (ha : -2147483648 ≤ a ∧ a ≤ 2147483647 := by omega) (hb : -2147483648 ≤ b ∧ b ≤ 2147483647 := by omega) (ht : (pc : Int) + off = (tgt : Int) := by decide) : jv_J X cc own K (pc) L (.int (jv_i b) :: .int (jv_i a) :: S) h := by
  obtain ⟨⟨p, l, e, R, s⟩, ⟨m, args, below, meth, c⟩, ⟨cells, slots, Q⟩, ⟨G, A, N, nL⟩⟩ := X
  intro C hN H locs ls hP hS hL
  exact lv_icmp_lt C.1 C.2.1 d ht (fun z => kt ((jv_i_lt ha hb).mp z) C hN H locs ls hP hS hL) (fun z => kf (by have q := (not_congr (jv_i_lt ha hb)).mp z; omega) C hN H locs ls hP hS hL)
theorem jv_if_lt {X : jv_M} {cc : ByteArray} {own : String} {K pc : Nat} {L : List (Option Value)} {S : List Value} {h : List jv_E} {a : Int} {off : Int} (tgt : Nat) (d : decode cc pc = .ok (.ifCond .lt off, 3)) (kt : a < 0 → jv_J X cc own K (tgt) L (S) h) (kf : 0 ≤ a → jv_J X cc own K (pc + 3) L (S) h) (ha : -2147483648 ≤ a ∧ a ≤ 2147483647 := by omega) (ht : (pc : Int) + off = (tgt : Int) := by decide) : jv_J X cc own K (pc) L (.int (jv_i a) :: S) h := by
  obtain ⟨⟨p, l, e, R, s⟩, ⟨m, args, below, meth, c⟩, ⟨cells, slots, Q⟩, ⟨G, A, N, nL⟩⟩ := X
  intro C hN H locs ls hP hS hL
  exact lv_if_lt C.1 C.2.1 d ht (fun z => kt ((jv_i_lt (a := a) (b := 0) ha (by decide)).mp z) C hN H locs ls hP hS hL) (fun z => kf (by have q := (not_congr (jv_i_lt (a := a) (b := 0) ha (by decide))).mp z; omega) C hN H locs ls hP hS hL)
theorem jv_lcmp_lt {X : jv_M} {cc : ByteArray} {own : String} {K pc : Nat} {L : List (Option Value)} {S : List Value} {h : List jv_E} {a b : Int} {off : Int} (tgt : Nat) (d : decode cc pc = .ok (.lcmp, 1)) (d2 : decode cc (pc + 1) = .ok (.ifCond .lt off, 3)) (kt : a < b → jv_J X cc own K (tgt) L (S) h) (kf : b ≤ a → jv_J X cc own K (pc + 4) L (S) h) (ha : -9223372036854775808 ≤ a ∧ a ≤ 9223372036854775807 := by omega) (hb : -9223372036854775808 ≤ b ∧ b ≤ 9223372036854775807 := by omega) (ht : ((pc + 1 : Nat) : Int) + off = (tgt : Int) := by decide) : jv_J X cc own K (pc) L (.long (jv_l b) :: .long (jv_l a) :: S) h := by
  obtain ⟨⟨p, l, e, R, s⟩, ⟨m, args, below, meth, c⟩, ⟨cells, slots, Q⟩, ⟨G, A, N, nL⟩⟩ := X
  intro C hN H locs ls hP hS hL
  exact W.lcmp C.1 C.2.1 d (lv_if_lt C.1 C.2.1 d2 ht (fun z => kt ((jv_l_lt ha hb).mp ((lg_cmp_lt _ _).mp z)) C hN H locs ls hP hS hL) (fun z => kf (by have q := (not_congr ((lg_cmp_lt _ _).trans (jv_l_lt ha hb))).mp z; omega) C hN H locs ls hP hS hL))
theorem jv_icmp_ge {X : jv_M} {cc : ByteArray} {own : String} {K pc : Nat} {L : List (Option Value)} {S : List Value} {h : List jv_E} {a b : Int} {off : Int} (tgt : Nat) (d : decode cc pc = .ok (.if_icmp .ge off, 3)) (kt : b ≤ a → jv_J X cc own K (tgt) L (S) h) (kf : a < b → jv_J X cc own K (pc + 3) L (S) h) (ha : -2147483648 ≤ a ∧ a ≤ 2147483647 := by omega) (hb : -2147483648 ≤ b ∧ b ≤ 2147483647 := by omega) (ht : (pc : Int) + off = (tgt : Int) := by decide) : jv_J X cc own K (pc) L (.int (jv_i b) :: .int (jv_i a) :: S) h := by
  obtain ⟨⟨p, l, e, R, s⟩, ⟨m, args, below, meth, c⟩, ⟨cells, slots, Q⟩, ⟨G, A, N, nL⟩⟩ := X
  intro C hN H locs ls hP hS hL
  exact lv_icmp_ge C.1 C.2.1 d ht (fun z => kt ((jv_i_le hb ha).mp z) C hN H locs ls hP hS hL) (fun z => kf (by have q := (not_congr (jv_i_le hb ha)).mp z; omega) C hN H locs ls hP hS hL)
theorem jv_if_ge {X : jv_M} {cc : ByteArray} {own : String} {K pc : Nat} {L : List (Option Value)} {S : List Value} {h : List jv_E} {a : Int} {off : Int} (tgt : Nat) (d : decode cc pc = .ok (.ifCond .ge off, 3)) (kt : 0 ≤ a → jv_J X cc own K (tgt) L (S) h) (kf : a < 0 → jv_J X cc own K (pc + 3) L (S) h) (ha : -2147483648 ≤ a ∧ a ≤ 2147483647 := by omega) (ht : (pc : Int) + off = (tgt : Int) := by decide) : jv_J X cc own K (pc) L (.int (jv_i a) :: S) h := by
  obtain ⟨⟨p, l, e, R, s⟩, ⟨m, args, below, meth, c⟩, ⟨cells, slots, Q⟩, ⟨G, A, N, nL⟩⟩ := X
  intro C hN H locs ls hP hS hL
  exact lv_if_ge C.1 C.2.1 d ht (fun z => kt ((jv_i_le (a := 0) (b := a) (by decide) ha).mp z) C hN H locs ls hP hS hL) (fun z => kf (by have q := (not_congr (jv_i_le (a := 0) (b := a) (by decide) ha)).mp z; omega) C hN H locs ls hP hS hL)
theorem jv_lcmp_ge {X : jv_M} {cc : ByteArray} {own : String} {K pc : Nat} {L : List (Option Value)} {S : List Value} {h : List jv_E} {a b : Int} {off : Int} (tgt : Nat) (d : decode cc pc = .ok (.lcmp, 1)) (d2 : decode cc (pc + 1) = .ok (.ifCond .ge off, 3)) (kt : b ≤ a → jv_J X cc own K (tgt) L (S) h) (kf : a < b → jv_J X cc own K (pc + 4) L (S) h) (ha : -9223372036854775808 ≤ a ∧ a ≤ 9223372036854775807 := by omega) (hb : -9223372036854775808 ≤ b ∧ b ≤ 9223372036854775807 := by omega) (ht : ((pc + 1 : Nat) : Int) + off = (tgt : Int) := by decide) : jv_J X cc own K (pc) L (.long (jv_l b) :: .long (jv_l a) :: S) h := by
  obtain ⟨⟨p, l, e, R, s⟩, ⟨m, args, below, meth, c⟩, ⟨cells, slots, Q⟩, ⟨G, A, N, nL⟩⟩ := X
  intro C hN H locs ls hP hS hL
  exact W.lcmp C.1 C.2.1 d (lv_if_ge C.1 C.2.1 d2 ht (fun z => kt ((jv_l_le hb ha).mp ((lg_cmp_ge _ _).mp z)) C hN H locs ls hP hS hL) (fun z => kf (by have q := (not_congr ((lg_cmp_ge _ _).trans (jv_l_le hb ha))).mp z; omega) C hN H locs ls hP hS hL))
theorem jv_icmp_gt {X : jv_M} {cc : ByteArray} {own : String} {K pc : Nat} {L : List (Option Value)} {S : List Value} {h : List jv_E} {a b : Int} {off : Int} (tgt : Nat) (d : decode cc pc = .ok (.if_icmp .gt off, 3)) (kt : b < a → jv_J X cc own K (tgt) L (S) h) (kf : a ≤ b → jv_J X cc own K (pc + 3) L (S) h) (ha : -2147483648 ≤ a ∧ a ≤ 2147483647 := by omega) (hb : -2147483648 ≤ b ∧ b ≤ 2147483647 := by omega) (ht : (pc : Int) + off = (tgt : Int) := by decide) : jv_J X cc own K (pc) L (.int (jv_i b) :: .int (jv_i a) :: S) h := by
  obtain ⟨⟨p, l, e, R, s⟩, ⟨m, args, below, meth, c⟩, ⟨cells, slots, Q⟩, ⟨G, A, N, nL⟩⟩ := X
  intro C hN H locs ls hP hS hL
  exact lv_icmp_gt C.1 C.2.1 d ht (fun z => kt ((jv_i_lt hb ha).mp z) C hN H locs ls hP hS hL) (fun z => kf (by have q := (not_congr (jv_i_lt hb ha)).mp z; omega) C hN H locs ls hP hS hL)
theorem jv_if_gt {X : jv_M} {cc : ByteArray} {own : String} {K pc : Nat} {L : List (Option Value)} {S : List Value} {h : List jv_E} {a : Int} {off : Int} (tgt : Nat) (d : decode cc pc = .ok (.ifCond .gt off, 3)) (kt : 0 < a → jv_J X cc own K (tgt) L (S) h) (kf : a ≤ 0 → jv_J X cc own K (pc + 3) L (S) h) (ha : -2147483648 ≤ a ∧ a ≤ 2147483647 := by omega) (ht : (pc : Int) + off = (tgt : Int) := by decide) : jv_J X cc own K (pc) L (.int (jv_i a) :: S) h := by
  obtain ⟨⟨p, l, e, R, s⟩, ⟨m, args, below, meth, c⟩, ⟨cells, slots, Q⟩, ⟨G, A, N, nL⟩⟩ := X
  intro C hN H locs ls hP hS hL
  exact lv_if_gt C.1 C.2.1 d ht (fun z => kt ((jv_i_lt (a := 0) (b := a) (by decide) ha).mp z) C hN H locs ls hP hS hL) (fun z => kf (by have q := (not_congr (jv_i_lt (a := 0) (b := a) (by decide) ha)).mp z; omega) C hN H locs ls hP hS hL)
theorem jv_lcmp_gt {X : jv_M} {cc : ByteArray} {own : String} {K pc : Nat} {L : List (Option Value)} {S : List Value} {h : List jv_E} {a b : Int} {off : Int} (tgt : Nat) (d : decode cc pc = .ok (.lcmp, 1)) (d2 : decode cc (pc + 1) = .ok (.ifCond .gt off, 3)) (kt : b < a → jv_J X cc own K (tgt) L (S) h) (kf : a ≤ b → jv_J X cc own K (pc + 4) L (S) h) (ha : -9223372036854775808 ≤ a ∧ a ≤ 9223372036854775807 := by omega) (hb : -9223372036854775808 ≤ b ∧ b ≤ 9223372036854775807 := by omega) (ht : ((pc + 1 : Nat) : Int) + off = (tgt : Int) := by decide) : jv_J X cc own K (pc) L (.long (jv_l b) :: .long (jv_l a) :: S) h := by
  obtain ⟨⟨p, l, e, R, s⟩, ⟨m, args, below, meth, c⟩, ⟨cells, slots, Q⟩, ⟨G, A, N, nL⟩⟩ := X
  intro C hN H locs ls hP hS hL
  exact W.lcmp C.1 C.2.1 d (lv_if_gt C.1 C.2.1 d2 ht (fun z => kt ((jv_l_lt hb ha).mp ((lg_cmp_gt _ _).mp z)) C hN H locs ls hP hS hL) (fun z => kf (by have q := (not_congr ((lg_cmp_gt _ _).trans (jv_l_lt hb ha))).mp z; omega) C hN H locs ls hP hS hL))
theorem jv_icmp_le {X : jv_M} {cc : ByteArray} {own : String} {K pc : Nat} {L : List (Option Value)} {S : List Value} {h : List jv_E} {a b : Int} {off : Int} (tgt : Nat) (d : decode cc pc = .ok (.if_icmp .le off, 3)) (kt : a ≤ b → jv_J X cc own K (tgt) L (S) h) (kf : b < a → jv_J X cc own K (pc + 3) L (S) h) (ha : -2147483648 ≤ a ∧ a ≤ 2147483647 := by omega) (hb : -2147483648 ≤ b ∧ b ≤ 2147483647 := by omega) (ht : (pc : Int) + off = (tgt : Int) := by decide) : jv_J X cc own K (pc) L (.int (jv_i b) :: .int (jv_i a) :: S) h := by
  obtain ⟨⟨p, l, e, R, s⟩, ⟨m, args, below, meth, c⟩, ⟨cells, slots, Q⟩, ⟨G, A, N, nL⟩⟩ := X
  intro C hN H locs ls hP hS hL
  exact lv_icmp_le C.1 C.2.1 d ht (fun z => kt ((jv_i_le ha hb).mp z) C hN H locs ls hP hS hL) (fun z => kf (by have q := (not_congr (jv_i_le ha hb)).mp z; omega) C hN H locs ls hP hS hL)
theorem jv_if_le {X : jv_M} {cc : ByteArray} {own : String} {K pc : Nat} {L : List (Option Value)} {S : List Value} {h : List jv_E} {a : Int} {off : Int} (tgt : Nat) (d : decode cc pc = .ok (.ifCond .le off, 3)) (kt : a ≤ 0 → jv_J X cc own K (tgt) L (S) h) (kf : 0 < a → jv_J X cc own K (pc + 3) L (S) h) (ha : -2147483648 ≤ a ∧ a ≤ 2147483647 := by omega) (ht : (pc : Int) + off = (tgt : Int) := by decide) : jv_J X cc own K (pc) L (.int (jv_i a) :: S) h := by
  obtain ⟨⟨p, l, e, R, s⟩, ⟨m, args, below, meth, c⟩, ⟨cells, slots, Q⟩, ⟨G, A, N, nL⟩⟩ := X
  intro C hN H locs ls hP hS hL
  exact lv_if_le C.1 C.2.1 d ht (fun z => kt ((jv_i_le (a := a) (b := 0) ha (by decide)).mp z) C hN H locs ls hP hS hL) (fun z => kf (by have q := (not_congr (jv_i_le (a := a) (b := 0) ha (by decide))).mp z; omega) C hN H locs ls hP hS hL)
theorem jv_lcmp_le {X : jv_M} {cc : ByteArray} {own : String} {K pc : Nat} {L : List (Option Value)} {S : List Value} {h : List jv_E} {a b : Int} {off : Int} (tgt : Nat) (d : decode cc pc = .ok (.lcmp, 1)) (d2 : decode cc (pc + 1) = .ok (.ifCond .le off, 3)) (kt : a ≤ b → jv_J X cc own K (tgt) L (S) h) (kf : b < a → jv_J X cc own K (pc + 4) L (S) h) (ha : -9223372036854775808 ≤ a ∧ a ≤ 9223372036854775807 := by omega) (hb : -9223372036854775808 ≤ b ∧ b ≤ 9223372036854775807 := by omega) (ht : ((pc + 1 : Nat) : Int) + off = (tgt : Int) := by decide) : jv_J X cc own K (pc) L (.long (jv_l b) :: .long (jv_l a) :: S) h := by
  obtain ⟨⟨p, l, e, R, s⟩, ⟨m, args, below, meth, c⟩, ⟨cells, slots, Q⟩, ⟨G, A, N, nL⟩⟩ := X
  intro C hN H locs ls hP hS hL
  exact W.lcmp C.1 C.2.1 d (lv_if_le C.1 C.2.1 d2 ht (fun z => kt ((jv_l_le ha hb).mp ((lg_cmp_le _ _).mp z)) C hN H locs ls hP hS hL) (fun z => kf (by have q := (not_congr ((lg_cmp_le _ _).trans (jv_l_le ha hb))).mp z; omega) C hN H locs ls hP hS hL))
theorem jv_goto {X : jv_M} {cc : ByteArray} {own : String} {K pc : Nat} {L : List (Option Value)} {S : List Value} {h : List jv_E} {off : Int} (tgt : Nat) (d : decode cc pc = .ok (.goto off, 3)) (kk : jv_J X cc own K (tgt) L (S) h) (ht : (pc : Int) + off = (tgt : Int) := by decide) : jv_J X cc own K (pc) L (S) h := by
  obtain ⟨⟨p, l, e, R, s⟩, ⟨m, args, below, meth, c⟩, ⟨cells, slots, Q⟩, ⟨G, A, N, nL⟩⟩ := X
  intro C hN H locs ls hP hS hL
  exact lv_goto C.1 C.2.1 d ht (kk C hN H locs ls hP hS hL)
theorem jv_tabIn {X : jv_M} {cc : ByteArray} {own : String} {K pc : Nat} {L : List (Option Value)} {S : List Value} {h : List jv_E} {dflt lo hi off a : Int} {offs : Array Int} {len : Nat} (tgt : Nat) (d : decode cc pc = .ok (.tableswitch dflt lo hi offs, len)) (h1 : lo ≤ a) (h2 : a ≤ hi) (ho : offs[(a - lo).toNat]? = some off) (kk : jv_J X cc own K (tgt) L (S) h) (ht : (pc : Int) + off = (tgt : Int) := by decide) (ha : -2147483648 ≤ a ∧ a ≤ 2147483647 := by omega) : jv_J X cc own K (pc) L (.int (jv_i a) :: S) h := by
  obtain ⟨⟨p, l, e, R, s⟩, ⟨m, args, below, meth, c⟩, ⟨cells, slots, Q⟩, ⟨G, A, N, nL⟩⟩ := X
  intro C hN H locs ls hP hS hL
  exact lv_tableIn C.1 C.2.1 d (by rw [jv_i_T ha]; omega) (by rw [jv_i_T ha]; omega) (by rw [jv_i_T ha]; exact ho) ht (kk C hN H locs ls hP hS hL)
theorem jv_tabOut {X : jv_M} {cc : ByteArray} {own : String} {K pc : Nat} {L : List (Option Value)} {S : List Value} {h : List jv_E} {dflt lo hi a : Int} {offs : Array Int} {len : Nat} (tgt : Nat) (d : decode cc pc = .ok (.tableswitch dflt lo hi offs, len)) (h1 : a < lo ∨ hi < a) (kk : jv_J X cc own K (tgt) L (S) h) (ht : (pc : Int) + dflt = (tgt : Int) := by decide) (ha : -2147483648 ≤ a ∧ a ≤ 2147483647 := by omega) : jv_J X cc own K (pc) L (.int (jv_i a) :: S) h := by
  obtain ⟨⟨p, l, e, R, s⟩, ⟨m, args, below, meth, c⟩, ⟨cells, slots, Q⟩, ⟨G, A, N, nL⟩⟩ := X
  intro C hN H locs ls hP hS hL
  exact lv_tableOut C.1 C.2.1 d (by rw [jv_i_T ha]; exact h1) ht (kk C hN H locs ls hP hS hL)
