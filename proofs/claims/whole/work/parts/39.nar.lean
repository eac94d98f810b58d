/-! Math.floorDiv; StateRows.narrow, narrowByTest -/
theorem jv_l_tdiv {a b : Int} (ha : -1000000000000000000 ≤ a ∧ a ≤ 1000000000000000000) (hb : 0 < b ∧ b ≤ 1000000000000000000) : jv_l a / jv_l b = jv_l (a.tdiv b) ∧ (0 ≤ a → a.tdiv b = a / b) ∧ (a < 0 → a.tdiv b * b = a → a.tdiv b = a / b) ∧ (a < 0 → a.tdiv b * b ≠ a → a.tdiv b - 1 = a / b) ∧ (-1000000000000000000 ≤ a.tdiv b * b ∧ a.tdiv b * b ≤ 1000000000000000000) := by
  have key : (0 ≤ a → a.tdiv b = a / b) ∧ (a < 0 → a.tdiv b * b = a → a.tdiv b = a / b) ∧ (a < 0 → a.tdiv b * b ≠ a → a.tdiv b - 1 = a / b) ∧ (-1000000000000000000 ≤ a.tdiv b * b ∧ a.tdiv b * b ≤ 1000000000000000000) ∧ (-1000000000000000000 ≤ a.tdiv b ∧ a.tdiv b ≤ 1000000000000000000) := by
    by_cases h : 0 ≤ a
    · have e : a.tdiv b = a / b := Int.tdiv_eq_ediv_of_nonneg h
      have h0 : 0 ≤ a / b := Int.ediv_nonneg h (by omega)
      have h1 : a / b ≤ a := Int.ediv_le_self _ h
      have h2 := Int.mul_ediv_add_emod a b
      have h3 := Int.emod_nonneg a (show b ≠ 0 by omega)
      have h4 : 0 ≤ a / b * b := Int.mul_nonneg h0 (by omega)
      rw [e]
      rw [Int.mul_comm] at h2
      refine ⟨fun _ => rfl, fun q => by omega, fun q => by omega, by omega, by omega⟩
    · have e : a.tdiv b = -((-a) / b) := by
        rw [show a = -(-a) by omega, Int.neg_tdiv, Int.tdiv_eq_ediv_of_nonneg (show 0 ≤ -a by omega), Int.neg_neg]
      have h0 : 0 ≤ (-a) / b := Int.ediv_nonneg (by omega) (by omega)
      have h1 : (-a) / b ≤ -a := Int.ediv_le_self _ (by omega)
      have h2 := Int.mul_ediv_add_emod (-a) b
      have h3 := Int.emod_nonneg (-a) (show b ≠ 0 by omega)
      have h5 := Int.emod_lt_of_pos (-a) hb.1
      have h4 : 0 ≤ b * ((-a) / b) := Int.mul_nonneg (by omega) h0
      have h6 : -((-a) / b) * b = -(b * ((-a) / b)) := by rw [Int.neg_mul, Int.mul_comm]
      rw [e, h6]
      refine ⟨fun q => by omega, fun _ q => ?_, fun _ q => ?_, by omega, by omega⟩
      · refine (((Int.ediv_emod_unique (a := a) (q := -((-a) / b)) (r := 0) hb.1).mpr ⟨?_, by omega, by omega⟩).1).symm
        rw [Int.mul_neg]
        omega
      · refine (((Int.ediv_emod_unique (a := a) (q := -((-a) / b) - 1) (r := b - (-a) % b) hb.1).mpr ⟨?_, by omega, by omega⟩).1).symm
        rw [Int.mul_sub, Int.mul_neg]
        omega
  obtain ⟨k1, k2, k3, k4, k5⟩ := key
  refine ⟨?_, k1, k2, k3, k4⟩
  apply Int64.toInt_inj.mp
  rw [Int64.toInt_div, jv_l_T (by omega), jv_l_T (by omega), jv_l_T (by omega)]
  apply Int.bmod_eq_of_le <;> omega
theorem jv_ldivT {X : jv_M} {cc : ByteArray} {own : String} {K pc : Nat} {L : List (Option Value)} {S : List Value} {h : List jv_E} {a b : Int} (d : decode cc pc = .ok (.ldiv, 1)) (kk : jv_J X cc own K (pc + 1) L (.long (jv_l (a.tdiv b)) :: S) h) (ha : -1000000000000000000 ≤ a ∧ a ≤ 1000000000000000000 := by omega) (hb : 0 < b ∧ b ≤ 1000000000000000000 := by omega) : jv_J X cc own K (pc) L (.long (jv_l b) :: .long (jv_l a) :: S) h := by
  obtain ⟨⟨p, l, e, R, s⟩, ⟨m, args, below, meth, c⟩, ⟨cells, slots, Q⟩, ⟨G, A, N, nL⟩⟩ := X
  intro C hN H locs ls hP hS hL
  exact lv_ldiv C.1 C.2.1 d (fun z => by have z2 := (jv_l_eq (a := b) (b := 0) (by omega) (by omega)).mp z; omega) (by rw [(jv_l_tdiv ha hb).1]; exact kk C hN H locs ls hP hS hL)
theorem jv_l_xor {a b : Int} (ha : -9223372036854775808 ≤ a ∧ a ≤ 9223372036854775807) (hb : 0 < b ∧ b ≤ 9223372036854775807) : ∃ z : Int, jv_l a ^^^ jv_l b = jv_l z ∧ (-9223372036854775808 ≤ z ∧ z ≤ 9223372036854775807) ∧ (z < 0 ↔ a < 0) := by
  obtain ⟨z, e, h1, h2⟩ := jv_l_of (jv_l a ^^^ jv_l b)
  refine ⟨z, e, ⟨h1, h2⟩, ?_⟩
  have m1 : ∀ x : Int, -9223372036854775808 ≤ x ∧ x ≤ 9223372036854775807 → (jv_l x).toBitVec.msb = decide (x < 0) := fun x hx => by
    rw [BitVec.msb_eq_toInt]
    have : (jv_l x).toBitVec.toInt = x := jv_l_T hx
    rw [this]
  have m2 := congrArg (fun w : Int64 => w.toBitVec.msb) e
  simp only [Int64.toBitVec_xor, BitVec.msb_xor, m1 a ha, m1 z ⟨h1, h2⟩, m1 b (by omega)] at m2
  rw [decide_eq_false (show ¬ b < 0 by omega), Bool.xor_false] at m2
  exact (decide_eq_decide.mp m2).symm
theorem jv_lxor {X : jv_M} {cc : ByteArray} {own : String} {K pc : Nat} {L : List (Option Value)} {S : List Value} {h : List jv_E} {a b : Int} (d : decode cc pc = .ok (.lxor, 1)) (kk : ∀ z : Int, -9223372036854775808 ≤ z ∧ z ≤ 9223372036854775807 → (z < 0 ↔ a < 0) → jv_J X cc own K (pc + 1) L (.long (jv_l z) :: S) h) (ha : -9223372036854775808 ≤ a ∧ a ≤ 9223372036854775807 := by omega) (hb : 0 < b ∧ b ≤ 9223372036854775807 := by omega) : jv_J X cc own K (pc) L (.long (jv_l b) :: .long (jv_l a) :: S) h := by
  obtain ⟨⟨p, l, e, R, s⟩, ⟨m, args, below, meth, c⟩, ⟨cells, slots, Q⟩, ⟨G, A, N, nL⟩⟩ := X
  intro C hN H locs ls hP hS hL
  obtain ⟨z, ez, hz, hi⟩ := jv_l_xor ha hb
  exact lv_lxor C.1 C.2.1 d (by rw [ez]; exact kk z hz hi C hN H locs ls hP hS hL)
section NA
variable {h : List jv_E} {p u t : Nat} {en rl lo hi va : Int → Int} {F : Int → Int → Int} {post : Option Value → List jv_E → Prop}
theorem ct_J9_floorDiv {a b : Int} (K : Nat) (hp : post (some (.long (jv_l (a / b)))) h) (ha : -1000000000000000000 ≤ a ∧ a ≤ 1000000000000000000 := by omega) (hb : 0 < b ∧ b ≤ 1000000000000000000 := by omega) : jv_Ct yJ9_floorDiv_f86c9 cJ9_floorDiv_f86c9 6 (some .long) K [.long (jv_l a), .long (jv_l b)] h post := by
  obtain ⟨k0, k1, k2, k3, k4⟩ := jv_l_tdiv ha hb
  refine jv_entryF (own := RJ9) (by decide +kernel) rfl (Nat.le_of_ble_eq_true rfl) (fun X hq => ?_)
  refine jv_lload_n dJ9_floorDiv_f86c9_0 rfl ?_
  refine jv_lload_n dJ9_floorDiv_f86c9_1 rfl ?_
  refine jv_ldivT dJ9_floorDiv_f86c9_2 ?_
  refine jv_lstore dJ9_floorDiv_f86c9_3 rfl (Nat.le_of_ble_eq_true rfl) ?_
  refine jv_lload_n dJ9_floorDiv_f86c9_5 rfl ?_
  refine jv_lload_n dJ9_floorDiv_f86c9_6 rfl ?_
  refine jv_lxor dJ9_floorDiv_f86c9_7 (fun z hz hi => ?_)
  refine jv_lconst 0 dJ9_floorDiv_f86c9_8 ?_
  refine jv_lcmp_ge 27 dJ9_floorDiv_f86c9_9 dJ9_floorDiv_f86c9_10 (fun c9 => ?_) (fun c9 => ?_)
  · refine jv_lload dJ9_floorDiv_f86c9_27 rfl ?_
    rw [← k1 (by omega)] at hp
    exact jv_lret dJ9_floorDiv_f86c9_29 hq hp
  · refine jv_lload dJ9_floorDiv_f86c9_13 rfl ?_
    refine jv_lload_n dJ9_floorDiv_f86c9_15 rfl ?_
    refine jv_lmul dJ9_floorDiv_f86c9_16 ?_
    refine jv_lload_n dJ9_floorDiv_f86c9_17 rfl ?_
    refine jv_lcmp_eq 27 dJ9_floorDiv_f86c9_18 dJ9_floorDiv_f86c9_19 (fun c18 => ?_) (fun c18 => ?_)
    · refine jv_lload dJ9_floorDiv_f86c9_27 rfl ?_
      rw [← k2 (by omega) c18] at hp
      exact jv_lret dJ9_floorDiv_f86c9_29 hq hp
    · refine jv_lload dJ9_floorDiv_f86c9_22 rfl ?_
      refine jv_lconst 1 dJ9_floorDiv_f86c9_24 ?_
      refine jv_lsub dJ9_floorDiv_f86c9_25 ?_
      rw [← k3 (by omega) c18] at hp
      exact jv_lret dJ9_floorDiv_f86c9_26 hq hp
theorem jq_dv {m c : Int} (hm : -10000000000000 ≤ m ∧ m ≤ 10000000000000) (hc : 0 < c) : (-10000000000000 ≤ m / c ∧ m / c ≤ 10000000000000) ∧ ∀ x : Int, x ≤ m / c ↔ c * x ≤ m := by
  refine ⟨⟨(Int.le_ediv_iff_mul_le hc).mpr (by omega), ?_⟩, fun x => by rw [Int.le_ediv_iff_mul_le hc, Int.mul_comm]⟩
  have := (Int.ediv_lt_iff_lt_mul (a := m) (b := 10000000000001) hc).mpr (by omega)
  omega
theorem ct_X6_narrow {s sl m : Int} (K : Nat) (w : jw_T h p u t en rl lo hi F) (hs : 0 ≤ s ∧ s < 6) (hb : (0 ≤ lo s ∧ lo s ≤ 10000000000000) ∧ (-10000000000000 ≤ hi s ∧ hi s ≤ 10000000000000)) (hsl : -10000000 ≤ sl ∧ sl ≤ 10000000) (hm : -10000000000000 ≤ m ∧ m ≤ 10000000000000) (hp : ∀ h' lo' hi', jw_T h' p u t en rl lo' hi' F → (∀ j, j ≠ s → lo' j = lo j ∧ hi' j = hi j) → (0 ≤ lo' s ∧ lo' s ≤ 10000000000000) ∧ (-10000000000000 ≤ hi' s ∧ hi' s ≤ 10000000000000) → (∀ x, (lo' s ≤ x ∧ x ≤ hi' s) ↔ ((lo s ≤ x ∧ x ≤ hi s) ∧ sl * x ≤ m)) → jv_fr p (p + 35) h h' → post none h') : jv_Ct yX6_narrow cX6_narrow 6 none (K + 1) [.ref p, .int (jv_i s), .long (jv_l sl), .long (jv_l m)] h post := by
  obtain ⟨w1, w2, w3, w4, w5, w6, w7⟩ := w
  refine jv_entry (own := RX6) (by decide) rfl (Nat.le_of_ble_eq_true rfl) (fun X hq => ?_)
  refine jv_lload_n dX6_narrow_0 rfl ?_
  refine jv_lconst 0 dX6_narrow_1 ?_
  refine jv_lcmp_le 30 dX6_narrow_2 dX6_narrow_3 (fun c2 => ?_) (fun c2 => ?_)
  · refine jv_lload_n dX6_narrow_30 rfl ?_
    refine jv_lconst 0 dX6_narrow_31 ?_
    refine jv_lcmp_ge 62 dX6_narrow_32 dX6_narrow_33 (fun c32 => ?_) (fun c32 => ?_)
    · refine jv_lload dX6_narrow_62 rfl ?_
      refine jv_lconst 0 dX6_narrow_64 ?_
      refine jv_lcmp_ge 78 dX6_narrow_65 dX6_narrow_66 (fun c65 => ?_) (fun c65 => ?_)
      · refine jv_vret dX6_narrow_78 hq (hp h lo hi ⟨w1, w2, w3, w4, w5, w6, w7⟩ (fun j e => ⟨rfl, rfl⟩) hb (fun x => ?_) jv_fr_rf)
        rw [show sl = 0 by omega, Int.zero_mul]
        omega
      · refine jv_aload_n dX6_narrow_69 rfl ?_
        refine jv_getf dX6_narrow_70 jf_X6_28 (by repeat' (first | assumption | exact ⟨_, by assumption⟩ | refine jv_h1 (by decide) ?_ | refine jv_h0 ?_ | refine jv_h1 (by omega) ?_ | refine jv_hs ?_)) (by exact rfl) ?_
        refine jv_iload_n dX6_narrow_73 rfl ?_
        refine jv_ldc2 dX6_narrow_74 jk_X6_44 ?_
        refine jv_last dX6_narrow_77 (by repeat' (first | assumption | exact ⟨_, by assumption⟩ | refine jv_h1 (by decide) ?_ | refine jv_h0 ?_ | refine jv_h1 (by omega) ?_ | refine jv_hs ?_)) ?_
        refine jv_vret dX6_narrow_78 hq (hp _ lo (jv_up hi s (-1)) ⟨(by repeat' (first | assumption | exact ⟨_, by assumption⟩ | refine jv_h1 (by decide) ?_ | refine jv_h0 ?_ | refine jv_h1 (by omega) ?_ | refine jv_hs ?_)), (by repeat' (first | assumption | exact ⟨_, by assumption⟩ | refine jv_h1 (by decide) ?_ | refine jv_h0 ?_ | refine jv_h1 (by omega) ?_ | refine jv_hs ?_)), (by repeat' (first | assumption | exact ⟨_, by assumption⟩ | refine jv_h1 (by decide) ?_ | refine jv_h0 ?_ | refine jv_h1 (by omega) ?_ | refine jv_hs ?_)), (by repeat' (first | assumption | exact ⟨_, by assumption⟩ | refine jv_h1 (by decide) ?_ | refine jv_h0 ?_ | refine jv_h1 (by omega) ?_ | refine jv_hs ?_)), (by repeat' (first | assumption | exact ⟨_, by assumption⟩ | refine jv_h1 (by decide) ?_ | refine jv_h0 ?_ | refine jv_h1 (by omega) ?_ | refine jv_hs ?_)), (by repeat' (first | assumption | exact ⟨_, by assumption⟩ | refine jv_h1 (by decide) ?_ | refine jv_h0 ?_ | refine jv_h1 (by omega) ?_ | refine jv_hs ?_)), fun i hi => jv_h1 (by omega) (w7 i hi)⟩ (fun j e => ⟨rfl, jv_up_n _ e⟩) (by rw [jv_up_s]; omega) (fun x => ?_) (jv_fr_set (by omega) jv_fr_rf))
        rw [jv_up_s, show sl = 0 by omega, Int.zero_mul]
        omega
    · refine jv_aload_n dX6_narrow_36 rfl ?_
      refine jv_getf dX6_narrow_37 jf_X6_24 (by repeat' (first | assumption | exact ⟨_, by assumption⟩ | refine jv_h1 (by decide) ?_ | refine jv_h0 ?_ | refine jv_h1 (by omega) ?_ | refine jv_hs ?_)) (by exact rfl) ?_
      refine jv_iload_n dX6_narrow_40 rfl ?_
      refine jv_aload_n dX6_narrow_41 rfl ?_
      refine jv_getf dX6_narrow_42 jf_X6_24 (by repeat' (first | assumption | exact ⟨_, by assumption⟩ | refine jv_h1 (by decide) ?_ | refine jv_h0 ?_ | refine jv_h1 (by omega) ?_ | refine jv_hs ?_)) (by exact rfl) ?_
      refine jv_iload_n dX6_narrow_45 rfl ?_
      refine jv_lald dX6_narrow_46 (by repeat' (first | assumption | exact ⟨_, by assumption⟩ | refine jv_h1 (by decide) ?_ | refine jv_h0 ?_ | refine jv_h1 (by omega) ?_ | refine jv_hs ?_)) ?_
      refine jv_lload dX6_narrow_47 rfl ?_
      refine jv_lload_n dX6_narrow_49 rfl ?_
      refine jv_lneg dX6_narrow_50 ?_
      refine jv_cS dX6_narrow_51 jm_X6_50 (ct_J9_floorDiv K ?_)
      obtain ⟨d1, d2⟩ := jq_dv hm (c := -sl) (by omega)
      refine jv_lneg dX6_narrow_54 ?_
      refine jv_cS dX6_narrow_55 jm_X6_59 (ct_J9_max K (fun r q => ?_))
      refine jv_last dX6_narrow_58 (by repeat' (first | assumption | exact ⟨_, by assumption⟩ | refine jv_h1 (by decide) ?_ | refine jv_h0 ?_ | refine jv_h1 (by omega) ?_ | refine jv_hs ?_)) ?_
      refine jv_goto 78 dX6_narrow_59 ?_
      refine jv_vret dX6_narrow_78 hq (hp _ (jv_up lo s r) hi ⟨(by repeat' (first | assumption | exact ⟨_, by assumption⟩ | refine jv_h1 (by decide) ?_ | refine jv_h0 ?_ | refine jv_h1 (by omega) ?_ | refine jv_hs ?_)), (by repeat' (first | assumption | exact ⟨_, by assumption⟩ | refine jv_h1 (by decide) ?_ | refine jv_h0 ?_ | refine jv_h1 (by omega) ?_ | refine jv_hs ?_)), (by repeat' (first | assumption | exact ⟨_, by assumption⟩ | refine jv_h1 (by decide) ?_ | refine jv_h0 ?_ | refine jv_h1 (by omega) ?_ | refine jv_hs ?_)), (by repeat' (first | assumption | exact ⟨_, by assumption⟩ | refine jv_h1 (by decide) ?_ | refine jv_h0 ?_ | refine jv_h1 (by omega) ?_ | refine jv_hs ?_)), (by repeat' (first | assumption | exact ⟨_, by assumption⟩ | refine jv_h1 (by decide) ?_ | refine jv_h0 ?_ | refine jv_h1 (by omega) ?_ | refine jv_hs ?_)), (by repeat' (first | assumption | exact ⟨_, by assumption⟩ | refine jv_h1 (by decide) ?_ | refine jv_h0 ?_ | refine jv_h1 (by omega) ?_ | refine jv_hs ?_)), fun i hi => jv_h1 (by omega) (w7 i hi)⟩ (fun j e => ⟨jv_up_n _ e, rfl⟩) (by rw [jv_up_s]; omega) (fun x => ?_) (jv_fr_set (by omega) jv_fr_rf))
      have := d2 (-x)
      rw [show -sl * -x = sl * x by rw [Int.neg_mul, Int.mul_neg, Int.neg_neg]] at this
      rw [jv_up_s, ← this]
      omega
  · refine jv_aload_n dX6_narrow_6 rfl ?_
    refine jv_getf dX6_narrow_7 jf_X6_28 (by repeat' (first | assumption | exact ⟨_, by assumption⟩ | refine jv_h1 (by decide) ?_ | refine jv_h0 ?_ | refine jv_h1 (by omega) ?_ | refine jv_hs ?_)) (by exact rfl) ?_
    refine jv_iload_n dX6_narrow_10 rfl ?_
    refine jv_aload_n dX6_narrow_11 rfl ?_
    refine jv_getf dX6_narrow_12 jf_X6_28 (by repeat' (first | assumption | exact ⟨_, by assumption⟩ | refine jv_h1 (by decide) ?_ | refine jv_h0 ?_ | refine jv_h1 (by omega) ?_ | refine jv_hs ?_)) (by exact rfl) ?_
    refine jv_iload_n dX6_narrow_15 rfl ?_
    refine jv_lald dX6_narrow_16 (by repeat' (first | assumption | exact ⟨_, by assumption⟩ | refine jv_h1 (by decide) ?_ | refine jv_h0 ?_ | refine jv_h1 (by omega) ?_ | refine jv_hs ?_)) ?_
    refine jv_lload dX6_narrow_17 rfl ?_
    refine jv_lload_n dX6_narrow_19 rfl ?_
    refine jv_cS dX6_narrow_20 jm_X6_50 (ct_J9_floorDiv K ?_)
    obtain ⟨d1, d2⟩ := jq_dv hm (c := sl) (by omega)
    refine jv_cS dX6_narrow_23 jm_X6_56 (ct_J9_min K (fun r q => ?_))
    refine jv_last dX6_narrow_26 (by repeat' (first | assumption | exact ⟨_, by assumption⟩ | refine jv_h1 (by decide) ?_ | refine jv_h0 ?_ | refine jv_h1 (by omega) ?_ | refine jv_hs ?_)) ?_
    refine jv_goto 78 dX6_narrow_27 ?_
    refine jv_vret dX6_narrow_78 hq (hp _ lo (jv_up hi s r) ⟨(by repeat' (first | assumption | exact ⟨_, by assumption⟩ | refine jv_h1 (by decide) ?_ | refine jv_h0 ?_ | refine jv_h1 (by omega) ?_ | refine jv_hs ?_)), (by repeat' (first | assumption | exact ⟨_, by assumption⟩ | refine jv_h1 (by decide) ?_ | refine jv_h0 ?_ | refine jv_h1 (by omega) ?_ | refine jv_hs ?_)), (by repeat' (first | assumption | exact ⟨_, by assumption⟩ | refine jv_h1 (by decide) ?_ | refine jv_h0 ?_ | refine jv_h1 (by omega) ?_ | refine jv_hs ?_)), (by repeat' (first | assumption | exact ⟨_, by assumption⟩ | refine jv_h1 (by decide) ?_ | refine jv_h0 ?_ | refine jv_h1 (by omega) ?_ | refine jv_hs ?_)), (by repeat' (first | assumption | exact ⟨_, by assumption⟩ | refine jv_h1 (by decide) ?_ | refine jv_h0 ?_ | refine jv_h1 (by omega) ?_ | refine jv_hs ?_)), (by repeat' (first | assumption | exact ⟨_, by assumption⟩ | refine jv_h1 (by decide) ?_ | refine jv_h0 ?_ | refine jv_h1 (by omega) ?_ | refine jv_hs ?_)), fun i hi => jv_h1 (by omega) (w7 i hi)⟩ (fun j e => ⟨rfl, jv_up_n _ e⟩) (by rw [jv_up_s]; omega) (fun x => ?_) (jv_fr_set (by omega) jv_fr_rf))
    have := d2 x
    rw [jv_up_s, ← this]
    omega
end NA
