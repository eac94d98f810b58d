/-! THE TEXT CONSTANT "htwdlfq" (1000, its bytes 1001), and String.indexOf on it -/
theorem jk_J0_v : Cond.fieldLink RJ0 9 "java/lang/String" "value" "[B" ∈ jv_T := by decide +kernel
theorem jk_J0_c : Cond.fieldLink RJ0 15 "java/lang/String" "coder" "B" ∈ jv_T := by decide +kernel
theorem jk_J0_s : Cond.fieldLink RJ0 38 "java/lang/String" "COMPACT_STRINGS" "Z" ∈ jv_T := by decide +kernel
def jq_kb (k : Int) : Int := if k = 0 then 104 else if k = 1 then 116 else if k = 2 then 119 else if k = 3 then 100 else if k = 4 then 108 else if k = 5 then 102 else 113
theorem jv_byte {a : Int} (h : 0 ≤ a ∧ a ≤ 127) : (jv_i a).toInt8.toInt32 = jv_i a := by
  apply Int32.toInt_inj.mp
  rw [Int8.toInt_toInt32, Int32.toInt_toInt8, jv_i_T (by omega)]
  apply Int.bmod_eq_of_le <;> omega
theorem jv_ldcS {X : jv_M} {cc : ByteArray} {own : String} {K pc : Nat} {L : List (Option Value)} {S : List Value} {h : List jv_E} (d : decode cc pc = .ok (.ldc 63, 2)) (ho : own = RX5) (kk : jv_J X cc own K (pc + 2) L (.ref 1000 :: S) h) : jv_J X cc own K pc L S h := by
  obtain ⟨⟨p, l, e, R, s⟩, ⟨m, args, below, meth, c⟩, ⟨cells, slots, Q⟩, ⟨G, A, N, nL⟩⟩ := X
  intro C hN H locs ls hP hS hL
  subst ho
  exact va_ldcS C.1 C.2.1 C.2.2.2.1 C.2.2.2.2.2.2.2.2.1.2.1 d (kk C hN H locs ls hP hS hL)
theorem jv_kval {X : jv_M} {cc : ByteArray} {own : String} {K pc : Nat} {L : List (Option Value)} {S : List Value} {h : List jv_E} (d : decode cc pc = .ok (.getfield 9, 3)) (ho : own = RJ0) (kk : jv_J X cc own K (pc + 3) L (.ref 1001 :: S) h) : jv_J X cc own K pc L (.ref 1000 :: S) h := by
  obtain ⟨⟨p, l, e, R, s⟩, ⟨m, args, below, meth, c⟩, ⟨cells, slots, Q⟩, ⟨G, A, N, nL⟩⟩ := X
  intro C hN H locs ls hP hS hL
  subst ho
  exact vk_getf C.1 C.2.1 (C.2.2.2.2.2.2.2.2.1.2.2.1.1 0 (by decide)).2.2.1 hS C.2.2.2.1 (C.2.2.2.2.1 _ jk_J0_v) (fun _ q => q) d (kk C hN H locs ls hP hS hL)
theorem jv_kcod {X : jv_M} {cc : ByteArray} {own : String} {K pc : Nat} {L : List (Option Value)} {S : List Value} {h : List jv_E} (d : decode cc pc = .ok (.getfield 15, 3)) (ho : own = RJ0) (kk : jv_J X cc own K (pc + 3) L (.int (jv_i 0) :: S) h) : jv_J X cc own K pc L (.ref 1000 :: S) h := by
  obtain ⟨⟨p, l, e, R, s⟩, ⟨m, args, below, meth, c⟩, ⟨cells, slots, Q⟩, ⟨G, A, N, nL⟩⟩ := X
  intro C hN H locs ls hP hS hL
  subst ho
  exact vk_getf C.1 C.2.1 (C.2.2.2.2.2.2.2.2.1.2.2.1.1 0 (by decide)).2.1 hS C.2.2.2.1 (C.2.2.2.2.1 _ jk_J0_c) (fun _ q => q) d (kk C hN H locs ls hP hS hL)
theorem jv_kst {X : jv_M} {cc : ByteArray} {own : String} {K pc : Nat} {L : List (Option Value)} {S : List Value} {h : List jv_E} (d : decode cc pc = .ok (.getstatic 38, 3)) (ho : own = RJ0) (kk : jv_J X cc own K (pc + 3) L (.int (jv_i 1) :: S) h) : jv_J X cc own K pc L S h := by
  obtain ⟨⟨p, l, e, R, s⟩, ⟨m, args, below, meth, c⟩, ⟨cells, slots, Q⟩, ⟨G, A, N, nL⟩⟩ := X
  intro C hN H locs ls hP hS hL
  subst ho
  exact va_gets C.1 C.2.1 C.2.2.2.2.2.2.2.2.1.2.2.2 hS C.2.2.2.1 (C.2.2.2.2.1 _ jk_J0_s) (fun _ q => q) d (kk C hN H locs ls hP hS hL)
theorem jv_klen {X : jv_M} {cc : ByteArray} {own : String} {K pc : Nat} {L : List (Option Value)} {S : List Value} {h : List jv_E} (d : decode cc pc = .ok (.arraylength, 1)) (kk : jv_J X cc own K (pc + 1) L (.int (jv_i 7) :: S) h) : jv_J X cc own K pc L (.ref 1001 :: S) h := by
  obtain ⟨⟨p, l, e, R, s⟩, ⟨m, args, below, meth, c⟩, ⟨cells, slots, Q⟩, ⟨G, A, N, nL⟩⟩ := X
  intro C hN H locs ls hP hS hL
  exact va_tlen C.1 C.2.1 (C.2.2.2.2.2.2.2.2.1.2.2.1.1 0 (by decide)).2.2.2 hS (v := jv_i 7) rfl d (kk C hN H locs ls hP hS hL)
theorem jv_kbald {X : jv_M} {cc : ByteArray} {own : String} {K pc : Nat} {L : List (Option Value)} {S : List Value} {h : List jv_E} {k : Int} (d : decode cc pc = .ok (.baload, 1)) (kk : jv_J X cc own K (pc + 1) L (.int (jv_i (jq_kb k)) :: S) h) (hk : 0 ≤ k ∧ k < 7 := by omega) : jv_J X cc own K pc L (.int (jv_i k) :: .ref 1001 :: S) h := by
  obtain ⟨⟨p, l, e, R, s⟩, ⟨m, args, below, meth, c⟩, ⟨cells, slots, Q⟩, ⟨G, A, N, nL⟩⟩ := X
  intro C hN H locs ls hP hS hL
  obtain ⟨h1, h2⟩ := jv_i_ix (n := 7) hk (by decide)
  refine va_tb (v := .int (jv_i (jq_kb k))) C.1 C.2.1 (C.2.2.2.2.2.2.2.2.1.2.2.1.1 0 (by decide)).2.2.2 hS h1 ?_ d (kk C hN H locs ls hP hS hL)
  generalize (jv_i k).toNatClampNeg = j at h2
  subst h2
  match j, hk with
  | 0, _ => rfl
  | 1, _ => rfl
  | 2, _ => rfl
  | 3, _ => rfl
  | 4, _ => rfl
  | 5, _ => rfl
  | 6, _ => rfl
  | j + 7, hk => exact absurd hk.2 (by omega)
theorem jv_ishr0 {X : jv_M} {cc : ByteArray} {own : String} {K pc : Nat} {L : List (Option Value)} {S : List Value} {h : List jv_E} {x : Int} (d : decode cc pc = .ok (.ishr, 1)) (kk : jv_J X cc own K (pc + 1) L (.int (jv_i x) :: S) h) : jv_J X cc own K pc L (.int (jv_i 0) :: .int (jv_i x) :: S) h := by
  obtain ⟨⟨p, l, e, R, s⟩, ⟨m, args, below, meth, c⟩, ⟨cells, slots, Q⟩, ⟨G, A, N, nL⟩⟩ := X
  intro C hN H locs ls hP hS hL
  refine lv_ishr C.1 C.2.1 d ?_
  rw [show jv_i x >>> (jv_i 0 &&& 31) = jv_i x from sb_shr0 _]
  exact kk C hN H locs ls hP hS hL
theorem jv_i2b {X : jv_M} {cc : ByteArray} {own : String} {K pc : Nat} {L : List (Option Value)} {S : List Value} {h : List jv_E} {a : Int} (d : decode cc pc = .ok (.i2b, 1)) (kk : jv_J X cc own K (pc + 1) L (.int (jv_i a) :: S) h) (ha : 0 ≤ a ∧ a ≤ 127 := by omega) : jv_J X cc own K pc L (.int (jv_i a) :: S) h := by
  obtain ⟨⟨p, l, e, R, s⟩, ⟨m, args, below, meth, c⟩, ⟨cells, slots, Q⟩, ⟨G, A, N, nL⟩⟩ := X
  intro C hN H locs ls hP hS hL
  exact lv_i2b C.1 C.2.1 d (jv_byte ha) (kk C hN H locs ls hP hS hL)
theorem jv_cK {X : jv_M} {cc : ByteArray} {own : String} {K pc : Nat} {L : List (Option Value)} {h : List jv_E} {idx n k maxL : Nat} {y : MethodName} {bytes : ByteArray} {ret : Option FieldType} {st : List Value} (d : decode cc pc = .ok (.invokevirtual idx, 3)) (hw : jv_mv own idx RJ0 y bytes maxL ret n) (hs : st[n]? = some (.ref 1000)) (hc : jv_Ct y bytes maxL ret k (.ref 1000 :: (st.take n).reverse) h (fun v h' => jv_J X cc own K (pc + 3) L (v.toList ++ st.drop (n + 1)) h')) (hk : k + 1 ≤ K := by omega) (hS8 : ((st.drop (n + 1)).map fun v => v.category).sum ≤ 8 := by exact Nat.le_of_ble_eq_true rfl) : jv_J X cc own K pc L st h := by
  have hl9 : n < st.length := (List.getElem?_eq_some_iff.mp hs).1
  have e9 : st.take n ++ .ref 1000 :: st.drop (n + 1) = st := by
    have e : st.drop n = .ref 1000 :: st.drop (n + 1) := by
      rw [List.drop_eq_getElem_cons hl9]
      congr 1
      exact (List.getElem?_eq_some_iff.mp hs).2
    rw [← e, List.take_append_drop]
  have hn : ((st.take n).reverse).length = n := by rw [List.length_reverse, List.length_take]; omega
  generalize hAs : (st.take n).reverse = As at hc hn
  generalize hSS : st.drop (n + 1) = S at *
  have est : As.reverse ++ .ref 1000 :: S = st := by rw [← hAs, List.reverse_reverse]; exact e9
  rw [← est]
  obtain ⟨⟨p, l, e, R, s⟩, ⟨m, args, below, meth, c⟩, ⟨cells, slots, Q⟩, ⟨G, A, N, nL⟩⟩ := X
  intro C hN H locs ls hP hS hL
  obtain ⟨⟨w1, w2, w3, w4, w5⟩, w6, w7, w8, w9⟩ := hw
  obtain ⟨hF, hU⟩ := jv_pre (av := .ref 1000 :: As) C hN hP hS
  have C9 := C
  obtain ⟨hx, hb, hml, hown, hts, hK, hA, hD, hX, hR, hR2⟩ := C9
  have hrec : ∃ cell : Cell, H[G.2.2 1000]? = some cell ∧ cell.vm.isStatics = false ∧ s.vm.findClass RJ0 = some cell.cls := vk_recv (i := 0) hX.2.2.1 (by decide) hS
  have cw : CallW R s args own RJ0 idx y bytes maxL ret (.code y bytes maxL ret :: jv_T) (jv_rm k) 0 0 n := ⟨callB_of n hts (jv_good w5) rfl rfl rfl (by rw [w6]; exact hts _ w4) (hts _ w1) (by rw [w6]; exact ⟨w7.1, w7.2, w8⟩) ⟨Nat.le_trans hk hR.1, by show 8 + (maxL + 11) + 40 * k ≤ R.locals; have := hR.2; omega⟩, hts _ w2, hts _ w3⟩
  have hr := va_runV (cells := cells) (slots := slots) (locs := locs) (e := e) (below := below) (meth := meth) (g := F0 m pc ls ((As.reverse ++ .ref 1000 :: S).map (jv_V G.2.2))) (As := As.map (jv_V G.2.2)) (rest := S.map (jv_V G.2.2)) (b := G.2.2 1000) ⟨hx, hb, hml, hown, hts⟩ (hc l G H.size) cw ⟨jv_blind, hrec, hU⟩ rfl (by rw [List.length_map]; exact hn) hL.1 (by show List.map _ _ = _; rw [List.map_append, List.map_reverse]; rfl) (lv_room (by rw [jv_cat]; exact hS8)) d ⟨hR2.1, hR2.2⟩
  refine jv_goon hr hS hF (fun v h' H1 locs1 hp hl hP1 hS1 => ?_)
  rw [jv_st]
  exact hp C (hl.trans hN) H1 locs1 ls hP1 hS1 hL
section JD
variable {h : List jv_E} {post : Option Value → List jv_E → Prop}
theorem ct_J9_maxI {a b : Int} (K : Nat) (ha : jq_rg a) (hb : jq_rg b) (hp : ∀ r : Int, a ≤ r ∧ b ≤ r ∧ (r = a ∨ r = b) → post (some (.int (jv_i r))) h) : jv_Ct yJ9_max_7cf53 cJ9_max_7cf53 2 (some .int) K [.int (jv_i a), .int (jv_i b)] h post := by
  unfold jq_rg at ha hb
  refine jv_entryF (own := RJ9) (by decide +kernel) rfl (Nat.le_of_ble_eq_true rfl) (fun X hq => ?_)
  refine jv_iload_n dJ9_max_7cf53_0 rfl ?_
  refine jv_iload_n dJ9_max_7cf53_1 rfl ?_
  refine jv_icmp_lt 9 dJ9_max_7cf53_2 (fun c2 => ?_) (fun c2 => ?_)
  · refine jv_iload_n dJ9_max_7cf53_9 rfl ?_
    exact jv_iret dJ9_max_7cf53_10 hq (hp _ (by omega)) (by first | rfl | decide)
  · refine jv_iload_n dJ9_max_7cf53_5 rfl ?_
    refine jv_goto 10 dJ9_max_7cf53_6 ?_
    exact jv_iret dJ9_max_7cf53_10 hq (hp _ (by omega)) (by first | rfl | decide)
theorem ct_J9_minI {a b : Int} (K : Nat) (ha : jq_rg a) (hb : jq_rg b) (hp : ∀ r : Int, r ≤ a ∧ r ≤ b ∧ (r = a ∨ r = b) → post (some (.int (jv_i r))) h) : jv_Ct yJ9_min_7cf53 cJ9_min_7cf53 2 (some .int) K [.int (jv_i a), .int (jv_i b)] h post := by
  unfold jq_rg at ha hb
  refine jv_entryF (own := RJ9) (by decide +kernel) rfl (Nat.le_of_ble_eq_true rfl) (fun X hq => ?_)
  refine jv_iload_n dJ9_min_7cf53_0 rfl ?_
  refine jv_iload_n dJ9_min_7cf53_1 rfl ?_
  refine jv_icmp_gt 9 dJ9_min_7cf53_2 (fun c2 => ?_) (fun c2 => ?_)
  · refine jv_iload_n dJ9_min_7cf53_9 rfl ?_
    exact jv_iret dJ9_min_7cf53_10 hq (hp _ (by omega)) (by first | rfl | decide)
  · refine jv_iload_n dJ9_min_7cf53_5 rfl ?_
    refine jv_goto 10 dJ9_min_7cf53_6 ?_
    exact jv_iret dJ9_min_7cf53_10 hq (hp _ (by omega)) (by first | rfl | decide)
theorem ct_J0_isLatin1 (K : Nat) (hp : post (some (.int (jv_i 1))) h) : jv_Ct yJ0_isLatin1_aae02 cJ0_isLatin1_aae02 1 (some .boolean) K [.ref 1000] h post := by
  refine jv_entryF (own := RJ0) (by decide +kernel) rfl (Nat.le_of_ble_eq_true rfl) (fun X hq => ?_)
  refine jv_kst dJ0_isLatin1_aae02_0 rfl ?_
  refine jv_if_eq 17 dJ0_isLatin1_aae02_3 (fun c3 => ?_) (fun c3 => ?_)
  · exact absurd c3 (by omega)
  · refine jv_aload_n dJ0_isLatin1_aae02_6 rfl ?_
    refine jv_kcod dJ0_isLatin1_aae02_7 rfl ?_
    refine jv_if_ne 17 dJ0_isLatin1_aae02_10 (fun c10 => ?_) (fun c10 => ?_)
    · exact absurd rfl c10
    · refine jv_iconst dJ0_isLatin1_aae02_13 ?_
      refine jv_goto 18 dJ0_isLatin1_aae02_14 ?_
      exact jv_iret dJ0_isLatin1_aae02_18 hq (hp) (by first | rfl | decide)
theorem ct_J0_coder (K : Nat) (hp : post (some (.int (jv_i 0))) h) : jv_Ct yJ0_coder_7d493 cJ0_coder_7d493 1 (some .byte) K [.ref 1000] h post := by
  refine jv_entryF (own := RJ0) (by decide +kernel) rfl (Nat.le_of_ble_eq_true rfl) (fun X hq => ?_)
  refine jv_kst dJ0_coder_7d493_0 rfl ?_
  refine jv_if_eq 13 dJ0_coder_7d493_3 (fun c3 => ?_) (fun c3 => ?_)
  · exact absurd c3 (by omega)
  · refine jv_aload_n dJ0_coder_7d493_6 rfl ?_
    refine jv_kcod dJ0_coder_7d493_7 rfl ?_
    refine jv_goto 14 dJ0_coder_7d493_10 ?_
    exact jv_iret dJ0_coder_7d493_14 hq (hp) (by first | rfl | decide)
theorem ct_J0_length (K : Nat) (hp : post (some (.int (jv_i 7))) h) : jv_Ct yJ0_length_8abf5 cJ0_length_8abf5 1 (some .int) (K + 1) [.ref 1000] h post := by
  refine jv_entryF (own := RJ0) (by decide +kernel) rfl (Nat.le_of_ble_eq_true rfl) (fun X hq => ?_)
  refine jv_aload_n dJ0_length_8abf5_0 rfl ?_
  refine jv_kval dJ0_length_8abf5_1 rfl ?_
  refine jv_klen dJ0_length_8abf5_4 ?_
  refine jv_aload_n dJ0_length_8abf5_5 rfl ?_
  refine jv_cK dJ0_length_8abf5_6 jm_J0_335 rfl (ct_J0_coder K ?_)
  refine jv_ishr0 dJ0_length_8abf5_9 ?_
  exact jv_iret dJ0_length_8abf5_10 hq (hp) (by first | rfl | decide)
theorem ct_J1_canEncode {c : Int} (K : Nat) (hc : 0 ≤ c ∧ c ≤ 126) (hp : post (some (.int (jv_i 1))) h) : jv_Ct yJ1_canEncode_9a6ad cJ1_canEncode_9a6ad 1 (some .boolean) K [.int (jv_i c)] h post := by
  refine jv_entryF (own := RJ1) (by decide +kernel) rfl (Nat.le_of_ble_eq_true rfl) (fun X hq => ?_)
  refine jv_iload_n dJ1_canEncode_9a6ad_0 rfl ?_
  refine jv_if_lt 15 dJ1_canEncode_9a6ad_1 (fun c1 => ?_) (fun c1 => ?_)
  · exact absurd c1 (by omega)
  · refine jv_iload_n dJ1_canEncode_9a6ad_4 rfl ?_
    refine jv_sipush dJ1_canEncode_9a6ad_5 ?_
    refine jv_icmp_gt 15 dJ1_canEncode_9a6ad_8 (fun c8 => ?_) (fun c8 => ?_)
    · exact absurd c8 (by omega)
    · refine jv_iconst dJ1_canEncode_9a6ad_11 ?_
      refine jv_goto 16 dJ1_canEncode_9a6ad_12 ?_
      exact jv_iret dJ1_canEncode_9a6ad_16 hq (hp) (by first | rfl | decide)
theorem jq_kb_lc {c k : Int} (hk : 0 ≤ k ∧ k < 7) (e : jq_kb k = c) : jq_lc c = k := by
  rcases (show k = 0 ∨ k = 1 ∨ k = 2 ∨ k = 3 ∨ k = 4 ∨ k = 5 ∨ k = 6 by omega) with rfl | rfl | rfl | rfl | rfl | rfl | rfl <;> simp [jq_kb] at e <;> subst e <;> rfl
theorem jq_kb_no {c : Int} (h : ∀ k : Int, 0 ≤ k → k < 7 → jq_kb k ≠ c) : jq_lc c = -1 := by
  have h0 := h 0 (by omega) (by omega)
  have h1 := h 1 (by omega) (by omega)
  have h2 := h 2 (by omega) (by omega)
  have h3 := h 3 (by omega) (by omega)
  have h4 := h 4 (by omega) (by omega)
  have h5 := h 5 (by omega) (by omega)
  have h6 := h 6 (by omega) (by omega)
  simp [jq_kb] at h0 h1 h2 h3 h4 h5 h6
  unfold jq_lc
  repeat' split
  all_goals omega
theorem ct_J1_indexOfChar {c : Int} (K : Nat) (hc : 0 ≤ c ∧ c ≤ 126) (hp : post (some (.int (jv_i (jq_lc c)))) h) : jv_Ct yJ1_indexOfChar_4cfef cJ1_indexOfChar_4cfef 6 (some .int) K [.ref 1001, .int (jv_i c), .int (jv_i 0), .int (jv_i 7)] h post := by
  refine jv_entryF (own := RJ1) (by decide +kernel) rfl (Nat.le_of_ble_eq_true rfl) (fun X hq => ?_)
  have loop : ∀ (f : Nat) (i : Int), 0 ≤ i → i + f = 7 → (∀ k : Int, 0 ≤ k → k < i → jq_kb k ≠ c) → jv_J X cJ1_indexOfChar_4cfef RJ1 K 7 [some (.ref 1001), some (.int (jv_i c)), some (.int (jv_i 0)), some (.int (jv_i 7)), some (.int (jv_i c)), some (.int (jv_i i))] [] h := by
    intro f
    induction f with
    | zero =>
      intro i h0 h1 h2
      rw [jq_kb_no (fun k z1 z2 => h2 k z1 (by omega))] at hp
      refine jv_iload dJ1_indexOfChar_4cfef_7 rfl ?_
      refine jv_iload_n dJ1_indexOfChar_4cfef_9 rfl ?_
      refine jv_icmp_ge 31 dJ1_indexOfChar_4cfef_10 (fun c10 => ?_) (fun c10 => ?_)
      · refine jv_iconst dJ1_indexOfChar_4cfef_31 ?_
        exact jv_iret dJ1_indexOfChar_4cfef_32 hq (hp) (by first | rfl | decide)
      · exact absurd c10 (by omega)
    | succ f ih =>
      intro i h0 h1 h2
      have kr : 0 ≤ jq_kb i ∧ jq_kb i ≤ 126 := by unfold jq_kb; repeat' split; all_goals omega
      refine jv_iload dJ1_indexOfChar_4cfef_7 rfl ?_
      refine jv_iload_n dJ1_indexOfChar_4cfef_9 rfl ?_
      refine jv_icmp_ge 31 dJ1_indexOfChar_4cfef_10 (fun c10 => ?_) (fun c10 => ?_)
      · exact absurd c10 (by omega)
      · refine jv_aload_n dJ1_indexOfChar_4cfef_13 rfl ?_
        refine jv_iload dJ1_indexOfChar_4cfef_14 rfl ?_
        refine jv_kbald dJ1_indexOfChar_4cfef_16 ?_
        refine jv_iload dJ1_indexOfChar_4cfef_17 rfl ?_
        refine jv_icmp_ne 25 dJ1_indexOfChar_4cfef_19 (fun c19 => ?_) (fun c19 => ?_)
        · refine jv_iinc dJ1_indexOfChar_4cfef_25 rfl rfl ?_
          refine jv_goto 7 dJ1_indexOfChar_4cfef_28 ?_
          exact ih (i + 1) (by omega) (by omega) (fun k z1 z2 => by by_cases e : k = i; rw [e]; exact c19; exact h2 k z1 (by omega))
        · refine jv_iload dJ1_indexOfChar_4cfef_22 rfl ?_
          exact jv_iret dJ1_indexOfChar_4cfef_24 hq (by rw [jq_kb_lc (by omega) c19] at hp; exact hp)
  refine jv_iload_n dJ1_indexOfChar_4cfef_0 rfl ?_
  refine jv_i2b dJ1_indexOfChar_4cfef_1 ?_
  refine jv_istore dJ1_indexOfChar_4cfef_2 rfl (Nat.le_of_ble_eq_true rfl) ?_
  refine jv_iload_n dJ1_indexOfChar_4cfef_4 rfl ?_
  refine jv_istore dJ1_indexOfChar_4cfef_5 rfl (Nat.le_of_ble_eq_true rfl) ?_
  exact loop 7 0 (by omega) (by omega) (fun k z1 z2 => by omega)
theorem ct_J1_indexOf {c : Int} (K : Nat) (hc : 0 ≤ c ∧ c ≤ 126) (hp : post (some (.int (jv_i (jq_lc c)))) h) : jv_Ct yJ1_indexOf_4cfef cJ1_indexOf_4cfef 4 (some .int) (K + 1) [.ref 1001, .int (jv_i c), .int (jv_i 0), .int (jv_i 7)] h post := by
  refine jv_entryF (own := RJ1) (by decide +kernel) rfl (Nat.le_of_ble_eq_true rfl) (fun X hq => ?_)
  refine jv_iload_n dJ1_indexOf_4cfef_0 rfl ?_
  refine jv_cS dJ1_indexOf_4cfef_1 jm_J1_88 (ct_J1_canEncode K hc ?_)
  refine jv_if_ne 9 dJ1_indexOf_4cfef_4 (fun c4 => ?_) (fun c4 => ?_)
  · refine jv_iload_n dJ1_indexOf_4cfef_9 rfl ?_
    refine jv_iconst dJ1_indexOf_4cfef_10 ?_
    refine jv_cS dJ1_indexOf_4cfef_11 jm_J1_92 (ct_J9_maxI (a := 0) (b := 0) K (by unfold jq_rg; omega) (by unfold jq_rg; omega) (fun r q => ?_))
    obtain rfl : r = 0 := by omega
    refine jv_istore_n dJ1_indexOf_4cfef_14 rfl (Nat.le_of_ble_eq_true rfl) ?_
    refine jv_iload_n dJ1_indexOf_4cfef_15 rfl ?_
    refine jv_aload_n dJ1_indexOf_4cfef_16 rfl ?_
    refine jv_klen dJ1_indexOf_4cfef_17 ?_
    refine jv_cS dJ1_indexOf_4cfef_18 jm_J1_38 (ct_J9_minI (a := 7) (b := 7) K (by unfold jq_rg; omega) (by unfold jq_rg; omega) (fun r q => ?_))
    obtain rfl : r = 7 := by omega
    refine jv_istore_n dJ1_indexOf_4cfef_21 rfl (Nat.le_of_ble_eq_true rfl) ?_
    refine jv_iload_n dJ1_indexOf_4cfef_22 rfl ?_
    refine jv_iload_n dJ1_indexOf_4cfef_23 rfl ?_
    refine jv_icmp_lt 29 dJ1_indexOf_4cfef_24 (fun c24 => ?_) (fun c24 => ?_)
    · refine jv_aload_n dJ1_indexOf_4cfef_29 rfl ?_
      refine jv_iload_n dJ1_indexOf_4cfef_30 rfl ?_
      refine jv_iload_n dJ1_indexOf_4cfef_31 rfl ?_
      refine jv_iload_n dJ1_indexOf_4cfef_32 rfl ?_
      refine jv_cS dJ1_indexOf_4cfef_33 jm_J1_95 (ct_J1_indexOfChar K hc ?_)
      exact jv_iret dJ1_indexOf_4cfef_36 hq (hp) (by first | rfl | decide)
    · exact absurd c24 (by omega)
  · exact absurd c4 (by omega)
theorem ct_J0_indexOf2 {c : Int} (K : Nat) (hc : 0 ≤ c ∧ c ≤ 126) (hp : post (some (.int (jv_i (jq_lc c)))) h) : jv_Ct yJ0_indexOf_7cf53 cJ0_indexOf_7cf53 3 (some .int) (K + 2) [.ref 1000, .int (jv_i c), .int (jv_i 0)] h post := by
  refine jv_entryF (own := RJ0) (by decide +kernel) rfl (Nat.le_of_ble_eq_true rfl) (fun X hq => ?_)
  refine jv_aload_n dJ0_indexOf_7cf53_0 rfl ?_
  refine jv_cK dJ0_indexOf_7cf53_1 jm_J0_492 rfl (ct_J0_isLatin1 K ?_)
  refine jv_if_eq 23 dJ0_indexOf_7cf53_4 (fun c4 => ?_) (fun c4 => ?_)
  · exact absurd c4 (by omega)
  · refine jv_aload_n dJ0_indexOf_7cf53_7 rfl ?_
    refine jv_kval dJ0_indexOf_7cf53_8 rfl ?_
    refine jv_iload_n dJ0_indexOf_7cf53_11 rfl ?_
    refine jv_iload_n dJ0_indexOf_7cf53_12 rfl ?_
    refine jv_aload_n dJ0_indexOf_7cf53_13 rfl ?_
    refine jv_cK dJ0_indexOf_7cf53_14 jm_J0_505 rfl (ct_J0_length K ?_)
    refine jv_cS dJ0_indexOf_7cf53_17 jm_J0_637 (ct_J1_indexOf K hc ?_)
    refine jv_goto 36 dJ0_indexOf_7cf53_20 ?_
    exact jv_iret dJ0_indexOf_7cf53_36 hq (hp) (by first | rfl | decide)
theorem ct_J0_indexOf {c : Int} (K : Nat) (hc : 0 ≤ c ∧ c ≤ 126) (hp : post (some (.int (jv_i (jq_lc c)))) h) : jv_Ct yJ0_indexOf_0f7a4 cJ0_indexOf_0f7a4 2 (some .int) (K + 3) [.ref 1000, .int (jv_i c)] h post := by
  refine jv_entryF (own := RJ0) (by decide +kernel) rfl (Nat.le_of_ble_eq_true rfl) (fun X hq => ?_)
  refine jv_aload_n dJ0_indexOf_0f7a4_0 rfl ?_
  refine jv_iload_n dJ0_indexOf_0f7a4_1 rfl ?_
  refine jv_iconst dJ0_indexOf_0f7a4_2 ?_
  refine jv_cK dJ0_indexOf_0f7a4_3 jm_J0_633 rfl (ct_J0_indexOf2 K hc ?_)
  exact jv_iret dJ0_indexOf_0f7a4_6 hq (hp) (by first | rfl | decide)
end JD
