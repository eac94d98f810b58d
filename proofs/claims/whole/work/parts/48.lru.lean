/-! THE LAW: its own rules -/
theorem jq_MS_Lo {R : List (List (Int × List (Int × Int) × List (Int × Int)))} {ta re te of le ta' re' te' of' le' : Int → Int} (m : jq_MS 0 R ta re te of le) (g : jq_gR R) (l : jq_Lo ta re te of le ta' re' te' of' le') : jq_MS 0 R ta' re' te' of' le' := by
  obtain ⟨l1, l2, l3, l4⟩ := l
  intro s x hs
  have hs6 : s < R.length := (List.getElem?_eq_some_iff.mp hs).1
  have hR := g.1
  have gx := g.2 x (List.mem_of_getElem? hs)
  obtain ⟨m1, m2⟩ := m s x hs
  refine ⟨by rw [l1 _ (by omega)]; exact m1, fun j T hj => ?_⟩
  have hj5 : j < x.length := (List.getElem?_eq_some_iff.mp hj).1
  have gT := gx.2 T (List.mem_of_getElem? hj)
  have h5 := gx.1
  obtain ⟨a1, ⟨a2, a3⟩, a4, a5⟩ := m2 j T hj
  refine ⟨by rw [l2 _ (by omega)]; exact a1, ⟨by rw [l3 _ (by omega)]; exact a2, fun k q hk => ?_⟩, by rw [l3 _ (by omega)]; exact a4, fun k q hk => ?_⟩
  · have hk4 : k < T.2.1.length := (List.getElem?_eq_some_iff.mp hk).1
    have h4 := gT.2.1.1
    obtain ⟨b1, b2⟩ := a3 k q hk
    obtain ⟨c1, c2⟩ := l4 (4 * (2 * (5 * (0 + (s : Int)) + j)) + k) (by omega)
    exact ⟨c2.trans b1, c1.trans b2⟩
  · have hk4 : k < T.2.2.length := (List.getElem?_eq_some_iff.mp hk).1
    have h4 := gT.2.1.2
    obtain ⟨b1, b2⟩ := a5 k q hk
    obtain ⟨c1, c2⟩ := l4 (4 * (2 * (5 * (0 + (s : Int)) + j) + 1) + k) (by omega)
    exact ⟨c2.trans b1, c1.trans b2⟩
theorem jq_pos_up {n : Nat} {ms : Int → Int} {mi : Int} (hp : ∀ i : Int, 0 ≤ i → i < n → 1 ≤ ms i) (hm : 1 ≤ mi) : ∀ i : Int, 0 ≤ i → i < (n + 1 : Nat) → 1 ≤ jv_up ms n mi i := by
  intro i h0 h1
  by_cases e : i = n
  · subst e; rw [jv_up_s]; exact hm
  · rw [jv_up_n ms e]; exact hp i h0 (by omega)
def jl_X (X : jv_M) (n : Nat) (sc : Int → Int) : Prop := match X with
  | ((_, _, _, _, s), _, _, (G, A, _, _)) => va_X (G.2.2 2000) n (fun k : Nat => jv_i (sc k)) s s.heap ∧ G.2.2 2000 < s.heap.size ∧ ¬ A (G.2.2 2000)
def jl_lg (a b : Int) : Int := (((jv_l a) <<< ((jv_i 32).toInt64 &&& 63)) ||| ((jv_l b) &&& (jv_l 4294967295))).toInt
theorem jl_lg_in (a b : Int) : jq_lg (jl_lg a b) := by
  refine ⟨?_, ?_⟩
  · exact Int64.le_toInt _
  · have := Int64.toInt_lt (((jv_l a) <<< ((jv_i 32).toInt64 &&& 63)) ||| ((jv_l b) &&& (jv_l 4294967295)))
    unfold jl_lg
    omega
section JLR
variable {X : jv_M} {cc : ByteArray} {own : String} {K pc : Nat} {L : List (Option Value)} {S : List Value} {h : List jv_E}
theorem jl_sld {n : Nat} {sc : Int → Int} {k : Int} (d : decode cc pc = .ok (.iaload, 1)) (hX : jl_X X n sc) (hk : 0 ≤ k ∧ k < n) (hn : n ≤ 2560) (kk : jv_J X cc own K (pc + 1) L (.int (jv_i (sc k)) :: S) h) : jv_J X cc own K pc L (.int (jv_i k) :: .ref 2000 :: S) h := by
  obtain ⟨⟨p, l, e, R, s⟩, ⟨m, args, below, meth, c⟩, ⟨cells, slots, Q⟩, ⟨G, A, N, nL⟩⟩ := X
  intro C hN H locs ls hP hS hL
  obtain ⟨h1, h2⟩ := jv_i_ix hk (by omega)
  obtain ⟨hv, hb, hA⟩ := hX
  have k9 := kk C hN H locs ls hP hS hL
  refine va_sld C.1 C.2.1 hv hb hA hS h1 d ?_
  rw [h2]
  exact k9
theorem jl_slen {n : Nat} {sc : Int → Int} (d : decode cc pc = .ok (.arraylength, 1)) (hX : jl_X X n sc) (kk : jv_J X cc own K (pc + 1) L (.int (jv_i n) :: S) h) : jv_J X cc own K pc L (.ref 2000 :: S) h := by
  obtain ⟨⟨p, l, e, R, s⟩, ⟨m, args, below, meth, c⟩, ⟨cells, slots, Q⟩, ⟨G, A, N, nL⟩⟩ := X
  intro C hN H locs ls hP hS hL
  obtain ⟨hv, hb, hA⟩ := hX
  exact va_slen C.1 C.2.1 hv hb hA hS d (kk C hN H locs ls hP hS hL)
theorem jl_iand {a b : Int} (d : decode cc pc = .ok (.iand, 1)) (kk : jv_J X cc own K (pc + 1) L (.int (jv_i (jv_i a &&& jv_i b).toInt) :: S) h) : jv_J X cc own K pc L (.int (jv_i b) :: .int (jv_i a) :: S) h := by
  obtain ⟨⟨p, l, e, R, s⟩, ⟨m, args, below, meth, c⟩, ⟨cells, slots, Q⟩, ⟨G, A, N, nL⟩⟩ := X
  intro C hN H locs ls hP hS hL
  have e9 : jv_i (jv_i a &&& jv_i b).toInt = jv_i a &&& jv_i b := Int32.ofInt_toInt _
  have k9 := kk C hN H locs ls hP hS hL
  rw [e9] at k9
  exact lv_iand C.1 C.2.1 d k9
theorem jl_lshl {x : Int64} {y : Int32} (d : decode cc pc = .ok (.lshl, 1)) (kk : jv_J X cc own K (pc + 1) L (.long (x <<< (y.toInt64 &&& 63)) :: S) h) : jv_J X cc own K pc L (.int y :: .long x :: S) h := by
  obtain ⟨⟨p, l, e, R, s⟩, ⟨m, args, below, meth, c⟩, ⟨cells, slots, Q⟩, ⟨G, A, N, nL⟩⟩ := X
  intro C hN H locs ls hP hS hL
  exact lv_lshl C.1 C.2.1 d rfl (kk C hN H locs ls hP hS hL)
theorem jl_land {x y : Int64} (d : decode cc pc = .ok (.land, 1)) (kk : jv_J X cc own K (pc + 1) L (.long (x &&& y) :: S) h) : jv_J X cc own K pc L (.long y :: .long x :: S) h := by
  obtain ⟨⟨p, l, e, R, s⟩, ⟨m, args, below, meth, c⟩, ⟨cells, slots, Q⟩, ⟨G, A, N, nL⟩⟩ := X
  intro C hN H locs ls hP hS hL
  exact lv_land C.1 C.2.1 d (kk C hN H locs ls hP hS hL)
theorem jl_lor {a b : Int} (d : decode cc pc = .ok (.lor, 1)) (kk : jv_J X cc own K (pc + 1) L (.long (jv_l (jl_lg a b)) :: S) h) : jv_J X cc own K pc L (.long ((jv_l b) &&& (jv_l 4294967295)) :: .long ((jv_l a) <<< ((jv_i 32).toInt64 &&& 63)) :: S) h := by
  obtain ⟨⟨p, l, e, R, s⟩, ⟨m, args, below, meth, c⟩, ⟨cells, slots, Q⟩, ⟨G, A, N, nL⟩⟩ := X
  intro C hN H locs ls hP hS hL
  have e9 : jv_l (jl_lg a b) = ((jv_l a) <<< ((jv_i 32).toInt64 &&& 63)) ||| ((jv_l b) &&& (jv_l 4294967295)) := Int64.ofInt_toInt _
  have k9 := kk C hN H locs ls hP hS hL
  rw [e9] at k9
  exact lv_lor C.1 C.2.1 d k9
theorem jl_icmp {a b : Int} {off : Int} (tgt : Nat) (d : decode cc pc = .ok (.if_icmp .eq off, 3)) (e : a = b) (kk : jv_J X cc own K tgt L S h) (ht : (pc : Int) + off = (tgt : Int) := by decide) : jv_J X cc own K pc L (.int (jv_i b) :: .int (jv_i a) :: S) h := by
  obtain ⟨⟨p, l, e9, R, s⟩, ⟨m, args, below, meth, c⟩, ⟨cells, slots, Q⟩, ⟨G, A, N, nL⟩⟩ := X
  intro C hN H locs ls hP hS hL
  exact lv_icmp_eq C.1 C.2.1 d ht (fun _ => kk C hN H locs ls hP hS hL) (fun z => absurd (by rw [e]) z)
theorem jl_lcmp {a b : Int} {off : Int} (tgt : Nat) (d : decode cc pc = .ok (.lcmp, 1)) (d2 : decode cc (pc + 1) = .ok (.ifCond .eq off, 3)) (e : a = b) (kk : jv_J X cc own K tgt L S h) (ht : ((pc + 1 : Nat) : Int) + off = (tgt : Int) := by decide) : jv_J X cc own K pc L (.long (jv_l b) :: .long (jv_l a) :: S) h := by
  obtain ⟨⟨p, l, e9, R, s⟩, ⟨m, args, below, meth, c⟩, ⟨cells, slots, Q⟩, ⟨G, A, N, nL⟩⟩ := X
  intro C hN H locs ls hP hS hL
  exact W.lcmp C.1 C.2.1 d (lv_if_eq C.1 C.2.1 d2 ht (fun _ => kk C hN H locs ls hP hS hL) (fun z => absurd ((lg_cmp_eq _ _).mpr (by rw [e])) z))
end JLR
