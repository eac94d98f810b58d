/-! THE LAW'S START -/
def jl_ad (base k v b : Nat) : Nat → Nat := fun i => if i < 1000 then base + i else if i = 1000 then k else if i = 1001 then v else b
theorem jl_ad_lt {base k v b i : Nat} (h : i < 1000) : jl_ad base k v b i = base + i := if_pos h
theorem jl_ad_k (base k v b : Nat) : jl_ad base k v b 1000 = k := rfl
theorem jl_ad_v (base k v b : Nat) : jl_ad base k v b 1001 = v := rfl
theorem jl_ad_b (base k v b : Nat) : jl_ad base k v b 2000 = b := rfl
theorem jl_ar {s : State} {args : Array Value} {t : FieldType} (h : (Cond.arrayClass t).before args s = true) (ho : ∀ C, t ≠ .object C) : ∃ c : ClassId, ArrOfT s c t ∧ va_RA s c t := by
  obtain ⟨c, k, comp, h1, h2, h3⟩ := Cond.arrayClass_spec h
  refine ⟨c, fun N z => ⟨(fun q hq => by cases hq), k, h2, comp, h3⟩, ?_⟩
  cases t <;> first | exact h1 | exact absurd rfl (ho _)
theorem jl_aa {s : State} {args : Array Value} {t : FieldType} (h : (Cond.arrayOver (.array t)).before args s = true) : ∃ c : ClassId, ArrOfT s c (.array t) ∧ va_RA s c (.array t) := by
  obtain ⟨comp, c, k, h1, h2, h3, h4, h5⟩ := arrayOverA_spec h
  exact ⟨c, fun N z => ⟨(fun q hq => by cases hq), k, h3, comp, h4⟩, h5⟩
theorem jl_K {s : State} {args : Array Value} (ad : Nat → Nat) (hts : ∀ w ∈ lw_tbl, w.before args s = true) : ∃ G : jv_G, G.2.2 = ad ∧ va_K G.1 jv_cl (jv_ty G) s := by
  obtain ⟨c0, i0, k0⟩ := u_known (n := 6) hts inX0 (hts (.instantiable RX0 6) (by decide +kernel))
  obtain ⟨c1, i1, k1⟩ := u_known (n := 8) hts inX1 (hts (.instantiable RX1 8) (by decide +kernel))
  obtain ⟨c2, i2, k2⟩ := u_known (n := 4) hts inX2 (hts (.instantiable RX2 4) (by decide +kernel))
  obtain ⟨c3, i3, k3⟩ := u_known (n := 4) hts inX3 (hts (.instantiable RX3 4) (by decide +kernel))
  obtain ⟨c4, i4, k4⟩ := u_known (n := 2) hts inX4 (hts (.instantiable RX4 2) (by decide +kernel))
  obtain ⟨c5, i5, k5⟩ := u_known (n := 3) hts inX5 (hts (.instantiable RX5 3) (by decide +kernel))
  obtain ⟨c6, i6, k6⟩ := u_known (n := 7) hts inX6 (hts (.instantiable RX6 7) (by decide +kernel))
  obtain ⟨c7, i7, k7⟩ := u_known (n := 8) hts inX7 (hts (.instantiable RX7 8) (by decide +kernel))
  obtain ⟨c8, i8, k8⟩ := u_known (n := 27) hts inX8 (hts (.instantiable RX8 27) (by decide +kernel))
  obtain ⟨aI, pI⟩ := jl_ar (hts (.arrayClass .int) (by decide +kernel)) (fun C q => by cases q)
  obtain ⟨aL, pL⟩ := jl_ar (hts (.arrayClass .long) (by decide +kernel)) (fun C q => by cases q)
  obtain ⟨aC, pC⟩ := jl_ar (hts (.arrayClass .char) (by decide +kernel)) (fun C q => by cases q)
  obtain ⟨aQ, pQ⟩ := jl_aa (hts (.arrayOver (.array .int)) (by decide +kernel))
  refine ⟨((fun k => [c0, c1, c2, c3, c4, c5, c6, c7, c8].getD k 0, fun k => [i0, i1, i2, i3, i4, i5, i6, i7, i8].getD k (fun _ => 0)), (aI, aL, aC, aQ), ad), rfl, fun c q hq => ?_, fun k q hq => ?_⟩
  · have hc : c < 9 := (List.getElem?_eq_some_iff.mp hq).1
    have cs : c = 0 ∨ c = 1 ∨ c = 2 ∨ c = 3 ∨ c = 4 ∨ c = 5 ∨ c = 6 ∨ c = 7 ∨ c = 8 := by omega
    rcases cs with rfl | rfl | rfl | rfl | rfl | rfl | rfl | rfl | rfl <;> cases hq
    · exact k0
    · exact k1
    · exact k2
    · exact k3
    · exact k4
    · exact k5
    · exact k6
    · exact k7
    · exact k8
  · have hc : k < 4 := (List.getElem?_eq_some_iff.mp hq).1
    have cs : k = 0 ∨ k = 1 ∨ k = 2 ∨ k = 3 := by omega
    rcases cs with rfl | rfl | rfl | rfl <;> cases hq
    · exact pI
    · exact pL
    · exact pC
    · exact pQ
theorem jl_txt {s : State} {args : Array Value} {A : Nat → Prop} (hts : ∀ w ∈ lw_tbl, w.before args s = true) (hgv : (Jvm.Cond.and given_1 narrow_1).before args s = true) (hA : ∀ a : Nat, a < s.heap.size → ¬ A a) : ∃ k v : Nat, vk_R RX5 63 "htwdlfq" k s ∧ vk_S 1 [7] [[104, 116, 119, 100, 108, 102, 113]] (fun _ => k) (fun _ => v) A s s.heap ∧ va_Z "java/lang/String" "COMPACT_STRINGS" "Z" (.int 1) A s s.heap := by
  have hs := flat_of_before _ hgv
  have one : ∀ i : Nat, i < 1 → i = 0 := fun i hi => by omega
  obtain ⟨adK, adV, h1, h2⟩ := vk_Sof (args := args) (s := s) (N := 1) (tm := fun _ => .string RX5 63) (len := [7]) (byt := [[104, 116, 119, 100, 108, 102, 113]]) (A := A) (fun i hi => by rw [one i hi]; decide)
    (fun i hi => hs _ (by decide +kernel)) (fun i hi => hs _ (by decide +kernel)) (fun i hi => hs _ (by decide +kernel)) (fun i hi => by rw [one i hi]; exact hs _ (by decide +kernel))
    (fun i hi j hj => by
      rw [one i hi] at hj ⊢
      have hj7 : j < 7 := hj
      have cs : j = 0 ∨ j = 1 ∨ j = 2 ∨ j = 3 ∨ j = 4 ∨ j = 5 ∨ j = 6 := by omega
      rcases cs with rfl | rfl | rfl | rfl | rfl | rfl | rfl <;> exact hs _ (by decide +kernel))
    (fun i j hi hj hne => absurd ((one i hi).trans (one j hj).symm) hne) hA
  refine ⟨adK 0, adV 0, vk_R.of (A := args) (hts _ (by decide +kernel)) (h2 0 (by omega)), ⟨fun i hi => ?_, fun i j hi hj _ => (one i hi).trans (one j hj).symm⟩, va_Zof (args := args) (hts _ (by decide +kernel)) (hts _ (by decide +kernel)) (va_eqt (hs _ (by decide +kernel))) hA⟩
  rw [one i hi]
  exact h1.1 0 (by omega)
theorem jl_AO {s : State} {args : Array Value} (hts : ∀ w ∈ lw_tbl, w.before args s = true) : jn_AO s :=
  ⟨over_moved (Vm.Alike.refl _) (hts (.arrayOver (.array .int)) (by decide +kernel)), fun w hw => va_Nw.of (jn_ns_on w hw) (hts w (jn_ns_in w hw))⟩
theorem jl_end {p : Program} {l : Launch} {e : Env} {s : State} {m : MethodId} {below : List Frame} {meth : Method} {c : Code} {b : Nat} {G : jv_G} (hx : p.tables.exec = Jvm.exec) (hb : c.code = code) (hr : meth.sig.returnType = ret) (hlocks : meth.locks = false) (L : List (Option Value)) (h : List jv_E) : jv_J ((p, l, e, room_1, s), (m, #[Value.ref b], below, meth, c), (115, 6576, lw_Z below #[Value.ref b] s), (G, (fun q => s.heap.size ≤ q), 115, 4)) cL_law RL 15 968 L [] h := by
  refine jv_iconst dL_law_968 ?_
  intro C hN H locs ls hP hS hL
  refine va_forget (fun q hq => hS.2.2 q hq) ?_
  refine W.widen (k := 600000) (n := 7302250) (by decide) (by decide) ?_
  exact lw_ret hx hb hr hlocks dL_law_969
theorem whole_startM (hMA : jn_MA) {p : Program} {e : Env} {s : State} {m : MethodId} {below : List Frame} {meth : Method} {c : Code} (l : Launch) {b L : Nat} {xs : Nat → Int32} (hL : L ≤ 2560) (C0 : lw_At p s m meth c b L xs) : W p l e room_1 s m #[Value.ref b] below meth c s.heap [] 0 0 (lw_Z below #[Value.ref b] s) (entryFrame m ([Value.ref b] : List Value).toArray 4) := by
  obtain ⟨hx, hb, hr, hml, hown, hts, hX, hbl, hlocks, hgv⟩ := C0
  obtain ⟨kT, vT, hR, hSt, hZ⟩ := jl_txt (A := fun q => s.heap.size ≤ q) hts hgv (fun a ha => by omega)
  obtain ⟨G, eG, hK⟩ := jl_K (jl_ad s.heap.size kT vT b) hts
  have had : ∀ i, i < 1000 → G.2.2 i = s.heap.size + i := fun i hi => by rw [eG]; exact jl_ad_lt hi
  have h1000 : G.2.2 1000 = kT := by rw [eG]; rfl
  have h1001 : G.2.2 1001 = vT := by rw [eG]; rfl
  have h2000 : G.2.2 2000 = b := by rw [eG]; rfl
  have htsT : ∀ w ∈ jv_T, w.before #[Value.ref b] s = true := fun w hw => hts w (List.mem_filter.mp hw).1
  have hJX : jv_X G.2.2 (fun q => s.heap.size ≤ q) s s.heap := ⟨fun w hw => va_Nw.of (jv_ns_on w hw) (hts w (jv_ns_in w hw)), by rw [h1000]; exact hR, by rw [h1000, h1001]; exact hSt, hZ⟩
  let X : jn_M := ((p, l, e, room_1, s), (m, #[Value.ref b], below, meth, c), lw_Z below #[Value.ref b] s, (G, s.heap.size, 4))
  have C : jn_C p room_1 s m #[Value.ref b] c G s.heap.size 4 cL_law RL 15 (115, 6576) := ⟨hx, hb, hml, hown, htsT, hK, Nat.le_refl _, had, ⟨by decide, by decide⟩, by decide, by decide, jl_AO hts⟩
  have J : jn_J X cL_law RL 15 (115, 6576) 0 [some (.ref 2000), none, none, none] [] [] 0 0 := by
    refine jn_new dL_law_0 jnw_L_7 ?_ (by decide)
    refine jn_dup dL_law_3 ?_
    refine jn_call dL_law_4 jcw_L_9 (ct_X7_init (K := 0) hMA [] 0 rfl (by omega)) ?_ (by decide)
    refine jn_astore_n dL_law_7 rfl (by decide) ?_
    refine jn_new dL_law_8 jnw_L_10 ?_ (by decide)
    refine jn_dup dL_law_11 ?_
    refine jn_call dL_law_12 jcw_L_12 (ct_X8_init (K := 0) (rX7 0) 97 rfl (by omega)) ?_ (by decide)
    refine jn_astore_n dL_law_15 rfl (by decide) ?_
    refine jn_iconst dL_law_16 ?_
    refine jn_istore_n dL_law_17 rfl (by decide) ?_
    intro C1 hN H locs ls hz hP hS hL1
    have sc0 : (fun k : Nat => jv_i ((fun j : Int => (xs j.toNat).toInt) k)) = xs := by
      funext k
      show jv_i (xs ((k : Int).toNat)).toInt = xs k
      rw [Int.toNat_natCast]
      exact Int32.ofInt_toInt _
    have hsX : jl_X ((p, l, e, room_1, s), (m, #[Value.ref b], below, meth, c), (115, 6576, lw_Z below #[Value.ref b] s), (G, (fun q => s.heap.size ≤ q), 115, 4)) L (fun j : Int => (xs j.toNat).toInt) := by
      refine ⟨?_, by rw [h2000]; exact hbl, by rw [h2000]; show ¬ s.heap.size ≤ b; omega⟩
      rw [sc0, h2000]
      exact hX
    have hsc : ∀ k : Int, jq_rg ((fun j : Int => (xs j.toNat).toInt) k) := fun k => ⟨Int32.le_toInt _, by have := Int32.toInt_lt (xs k.toNat); show (xs k.toNat).toInt ≤ 2147483647; omega⟩
    have LP := jl_loop hsX hL hsc (fun i h => jl_end hx hb hr hlocks _ h) L 0 (rX7 0 ++ rX8 97) jI_start (by omega) (by omega)
    exact LP ⟨hx, hb, hml, hown, htsT, hK, fun q hq => hq, ⟨fun i j hi hj q => by rw [had i (by omega), had j (by omega)] at q; omega, fun i hi => by show s.heap.size ≤ G.2.2 i; rw [had i (by omega)]; omega⟩, hJX, ⟨by decide, by decide⟩, by decide, by decide⟩ rfl H locs ls hP hS hL1
  have hl' := lv_entry ([Value.ref b]) (n := 4) (Nat.le_of_ble_eq_true rfl)
  rw [lg_entry_eq]
  have eV : [Value.ref 2000].map (jv_V G.2.2) = [Value.ref b] := by show [Value.ref (G.2.2 2000)] = _; rw [h2000]
  exact J C (Nat.zero_le _) s.heap [] _ rfl (fun k q hq => by cases hq) va_S.rf (jv_L0_has (vs := [.ref 2000]) (nL := 4) (Nat.le_of_ble_eq_true rfl) (by rw [eV]; exact hl'))
