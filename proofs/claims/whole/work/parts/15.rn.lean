/-! RAINS (RainRows): n rains, years ys, minutes ms, depths ds -/
def jw_R (h : List jv_E) (n : Nat) (ys ms ds : Int → Int) : Prop := h[1]? = some (jv_ob 3 [.ref 2, .ref 3, .ref 4, .int (jv_i n)]) ∧ h[2]? = some (jv_ai 40 ys) ∧ h[3]? = some (jv_ai 40 ms) ∧ h[4]? = some (jv_ai 40 ds)
def jq_R (n : Nat) (ys ms ds : Int → Int) : Prop := n ≤ 40 ∧ ∀ i, (0 ≤ ys i ∧ ys i ≤ 1000) ∧ (0 ≤ ms i ∧ ms i ≤ 10000) ∧ (0 ≤ ds i ∧ ds i ≤ 100000)
theorem jq_mul {a b A B : Int} (ha : 0 ≤ a ∧ a ≤ A) (hb : 0 ≤ b ∧ b ≤ B) : 0 ≤ a * b ∧ a * b ≤ A * B := ⟨Int.mul_nonneg ha.1 hb.1, Int.mul_le_mul ha.2 hb.2 hb.1 (Int.le_trans ha.1 ha.2)⟩
/-- what a basin needs -/
def jq_cm (ds : Int → Int) (ar i : Int) : Int := ds i * ar / 10
def jq_nd (ms ds : Int → Int) (ar ou i : Int) : Int := jq_cm ds ar i - ou * (60 * ms i)
def jq_cnt (ys : Int → Int) (y : Int) : Nat → Int
  | 0 => 0
  | k + 1 => if ys k = y then jq_cnt ys y k + 1 else jq_cnt ys y k
def jq_lst (ys : Int → Int) (y : Int) : Nat → Int
  | 0 => -1
  | k + 1 => if ys k = y then k else jq_lst ys y k
def jq_bst (ys : Int → Int) (g : Int → Int) (y : Int) : Nat → Int
  | 0 => -1
  | k + 1 => if ys k = y ∧ (jq_bst ys g y k = -1 ∨ g (jq_bst ys g y k) < g k) then k else jq_bst ys g y k
theorem jq_cnt_in (ys : Int → Int) (y : Int) : ∀ k : Nat, 0 ≤ jq_cnt ys y k ∧ jq_cnt ys y k ≤ k
  | 0 => by simp [jq_cnt]
  | k + 1 => by
    have := jq_cnt_in ys y k
    rw [jq_cnt]
    split <;> omega
theorem jq_lst_in (ys : Int → Int) (y : Int) : ∀ k : Nat, -1 ≤ jq_lst ys y k ∧ jq_lst ys y k < k
  | 0 => by simp [jq_lst]
  | k + 1 => by
    have := jq_lst_in ys y k
    rw [jq_lst]
    split <;> omega
theorem jq_bst_in (ys g : Int → Int) (y : Int) : ∀ k : Nat, -1 ≤ jq_bst ys g y k ∧ jq_bst ys g y k < k
  | 0 => by simp [jq_bst]
  | k + 1 => by
    have := jq_bst_in ys g y k
    rw [jq_bst]
    split <;> omega
section RN
variable {h : List jv_E} {n : Nat} {ys ms ds : Int → Int} {post : Option Value → List jv_E → Prop}
theorem ct_X3_size (K : Nat) (w : jw_R h n ys ms ds) (hp : post (some (.int (jv_i n))) h) : jv_Ct yX3_size cX3_size 1 (some .int) K [.ref 1] h post := by
  obtain ⟨w1, w2, w3, w4⟩ := w
  refine jv_entry (own := RX3) (by decide) rfl (Nat.le_of_ble_eq_true rfl) (fun X hq => ?_)
  refine jv_aload_n dX3_size_0 rfl ?_
  refine jv_getf dX3_size_1 jf_X3_21 (by repeat' (first | assumption | exact ⟨_, by assumption⟩ | refine jv_h1 (by omega) ?_ | refine jv_h0 ?_ | refine jv_hs ?_)) (by exact rfl) ?_
  exact jv_iret dX3_size_4 hq (hp) (by first | rfl | decide)
theorem ct_X3_minutesOf {i : Int} (K : Nat) (w : jw_R h n ys ms ds) (hn : n ≤ 40) (hi : 0 ≤ i ∧ i < n) (hp : post (some (.int (jv_i (ms i)))) h) : jv_Ct yX3_minutesOf cX3_minutesOf 2 (some .int) (K + 1) [.ref 1, .int (jv_i i)] h post := by
  obtain ⟨w1, w2, w3, w4⟩ := w
  refine jv_entry (own := RX3) (by decide) rfl (Nat.le_of_ble_eq_true rfl) (fun X hq => ?_)
  refine jv_iload_n dX3_minutesOf_0 rfl ?_
  refine jv_i2l dX3_minutesOf_1 ?_
  refine jv_lconst 0 dX3_minutesOf_2 ?_
  refine jv_aload_n dX3_minutesOf_3 rfl ?_
  refine jv_getf dX3_minutesOf_4 jf_X3_21 (by repeat' (first | assumption | exact ⟨_, by assumption⟩ | refine jv_h1 (by omega) ?_ | refine jv_h0 ?_ | refine jv_hs ?_)) (by exact rfl) ?_
  refine jv_iconst dX3_minutesOf_7 ?_
  refine jv_isub dX3_minutesOf_8 ?_
  refine jv_i2l dX3_minutesOf_9 ?_
  refine jv_cN dX3_minutesOf_10 jm_X3_25 (ct_X7_within K (fun r q1 q2 q3 => ?_))
  refine jv_if_eq 25 dX3_minutesOf_13 (fun c13 => ?_) (fun c13 => ?_)
  · omega
  · refine jv_aload_n dX3_minutesOf_16 rfl ?_
    refine jv_getf dX3_minutesOf_17 jf_X3_15 (by repeat' (first | assumption | exact ⟨_, by assumption⟩ | refine jv_h1 (by omega) ?_ | refine jv_h0 ?_ | refine jv_hs ?_)) (by exact rfl) ?_
    refine jv_iload_n dX3_minutesOf_20 rfl ?_
    refine jv_iald dX3_minutesOf_21 (by repeat' (first | assumption | exact ⟨_, by assumption⟩ | refine jv_h1 (by omega) ?_ | refine jv_h0 ?_ | refine jv_hs ?_)) ?_
    refine jv_goto 26 dX3_minutesOf_22 ?_
    exact jv_iret dX3_minutesOf_26 hq (hp) (by first | rfl | decide)
theorem ct_X3_comes {i ar : Int} (K : Nat) (w : jw_R h n ys ms ds) (hR : jq_R n ys ms ds) (hi : 0 ≤ i ∧ i < n) (ha : 0 ≤ ar ∧ ar ≤ 1000000) (hp : post (some (.long (jv_l (jq_cm ds ar i)))) h) : jv_Ct yX3_comes cX3_comes 3 (some .long) K [.ref 1, .int (jv_i i), .int (jv_i ar)] h post := by
  obtain ⟨w1, w2, w3, w4⟩ := w
  have hn := hR.1
  have hd := (hR.2 i).2.2
  have hm := jq_mul hd ha
  refine jv_entry (own := RX3) (by decide) rfl (Nat.le_of_ble_eq_true rfl) (fun X hq => ?_)
  refine jv_aload_n dX3_comes_0 rfl ?_
  refine jv_getf dX3_comes_1 jf_X3_18 (by repeat' (first | assumption | exact ⟨_, by assumption⟩ | refine jv_h1 (by omega) ?_ | refine jv_h0 ?_ | refine jv_hs ?_)) (by exact rfl) ?_
  refine jv_iload_n dX3_comes_4 rfl ?_
  refine jv_iald dX3_comes_5 (by repeat' (first | assumption | exact ⟨_, by assumption⟩ | refine jv_h1 (by omega) ?_ | refine jv_h0 ?_ | refine jv_hs ?_)) ?_
  refine jv_i2l dX3_comes_6 ?_
  refine jv_iload_n dX3_comes_7 rfl ?_
  refine jv_i2l dX3_comes_8 ?_
  refine jv_lmul dX3_comes_9 ?_
  refine jv_ldc2 dX3_comes_10 jk_X3_41 ?_
  refine jv_ldiv dX3_comes_13 ?_
  exact jv_lret dX3_comes_14 hq (hp)
theorem ct_X3_secondsOf {i : Int} (K : Nat) (w : jw_R h n ys ms ds) (hR : jq_R n ys ms ds) (hi : 0 ≤ i ∧ i < n) (hp : post (some (.long (jv_l (60 * ms i)))) h) : jv_Ct yX3_secondsOf cX3_secondsOf 2 (some .long) K [.ref 1, .int (jv_i i)] h post := by
  obtain ⟨w1, w2, w3, w4⟩ := w
  have hn := hR.1
  have hd := (hR.2 i).2.1
  refine jv_entry (own := RX3) (by decide) rfl (Nat.le_of_ble_eq_true rfl) (fun X hq => ?_)
  refine jv_ldc2 dX3_secondsOf_0 jk_X3_43 ?_
  refine jv_aload_n dX3_secondsOf_3 rfl ?_
  refine jv_getf dX3_secondsOf_4 jf_X3_15 (by repeat' (first | assumption | exact ⟨_, by assumption⟩ | refine jv_h1 (by omega) ?_ | refine jv_h0 ?_ | refine jv_hs ?_)) (by exact rfl) ?_
  refine jv_iload_n dX3_secondsOf_7 rfl ?_
  refine jv_iald dX3_secondsOf_8 (by repeat' (first | assumption | exact ⟨_, by assumption⟩ | refine jv_h1 (by omega) ?_ | refine jv_h0 ?_ | refine jv_hs ?_)) ?_
  refine jv_i2l dX3_secondsOf_9 ?_
  refine jv_lmul dX3_secondsOf_10 ?_
  exact jv_lret dX3_secondsOf_11 hq (hp)
theorem ct_X3_need {i ar ou : Int} (K : Nat) (w : jw_R h n ys ms ds) (hR : jq_R n ys ms ds) (hi : 0 ≤ i ∧ i < n) (ha : 0 ≤ ar ∧ ar ≤ 1000000) (ho : 0 ≤ ou ∧ ou ≤ 100000) (hp : post (some (.long (jv_l (jq_nd ms ds ar ou i)))) h) : jv_Ct yX3_need cX3_need 4 (some .long) (K + 1) [.ref 1, .int (jv_i i), .int (jv_i ar), .int (jv_i ou)] h post := by
  have w9 := w
  obtain ⟨w1, w2, w3, w4⟩ := w
  refine jv_entry (own := RX3) (by decide) rfl (Nat.le_of_ble_eq_true rfl) (fun X hq => ?_)
  refine jv_aload_n dX3_need_0 rfl ?_
  refine jv_iload_n dX3_need_1 rfl ?_
  refine jv_iload_n dX3_need_2 rfl ?_
  refine jv_cV dX3_need_3 jm_X3_33 rfl (by repeat' (first | assumption | exact ⟨_, by assumption⟩ | refine jv_h1 (by omega) ?_ | refine jv_h0 ?_ | refine jv_hs ?_)) rfl (ct_X3_comes K w9 hR hi ha ?_)
  refine jv_iload_n dX3_need_6 rfl ?_
  refine jv_i2l dX3_need_7 ?_
  refine jv_aload_n dX3_need_8 rfl ?_
  refine jv_iload_n dX3_need_9 rfl ?_
  refine jv_cV dX3_need_10 jm_X3_37 rfl (by repeat' (first | assumption | exact ⟨_, by assumption⟩ | refine jv_h1 (by omega) ?_ | refine jv_h0 ?_ | refine jv_hs ?_)) rfl (ct_X3_secondsOf K w9 hR hi ?_)
  refine jv_lmul dX3_need_13 ?_
  refine jv_lsub dX3_need_14 ?_
  exact jv_lret dX3_need_15 hq (hp)
theorem ct_X3_mayFollow {i mi de : Int} (K : Nat) (w : jw_R h n ys ms ds) (hR : jq_R n ys ms ds) (hi : 0 ≤ i ∧ i < n) (hm : 1 ≤ mi ∧ mi ≤ 10000) (hd : 1 ≤ de ∧ de ≤ 100000) (hp : ∀ r : Int, (ms i < mi ∧ ds i < de ∧ de * ms i ≤ ds i * mi → r = 1) → (¬ (ms i < mi ∧ ds i < de ∧ de * ms i ≤ ds i * mi) → r = 0) → 0 ≤ r ∧ r ≤ 1 → post (some (.int (jv_i r))) h) : jv_Ct yX3_mayFollow cX3_mayFollow 6 (some .boolean) K [.ref 1, .int (jv_i i), .int (jv_i mi), .int (jv_i de)] h post := by
  obtain ⟨w1, w2, w3, w4⟩ := w
  have hn := hR.1
  obtain ⟨-, b1, b2⟩ := hR.2 i
  have m1 := jq_mul (a := de) (b := ms i) (A := 100000) (B := 10000) (by omega) b1
  have m2 := jq_mul (a := ds i) (b := mi) (A := 100000) (B := 10000) b2 (by omega)
  generalize e1 : de * ms i = u1 at *
  generalize e2 : ds i * mi = u2 at *
  refine jv_entry (own := RX3) (by decide) rfl (Nat.le_of_ble_eq_true rfl) (fun X hq => ?_)
  refine jv_iload_n dX3_mayFollow_0 rfl ?_
  refine jv_aload_n dX3_mayFollow_1 rfl ?_
  refine jv_getf dX3_mayFollow_2 jf_X3_15 (by repeat' (first | assumption | exact ⟨_, by assumption⟩ | refine jv_h1 (by omega) ?_ | refine jv_h0 ?_ | refine jv_hs ?_)) (by exact rfl) ?_
  refine jv_iload_n dX3_mayFollow_5 rfl ?_
  refine jv_iald dX3_mayFollow_6 (by repeat' (first | assumption | exact ⟨_, by assumption⟩ | refine jv_h1 (by omega) ?_ | refine jv_h0 ?_ | refine jv_hs ?_)) ?_
  refine jv_icmp_le 24 dX3_mayFollow_7 (fun c7 => ?_) (fun c7 => ?_)
  · refine jv_iconst dX3_mayFollow_24 ?_
    refine jv_istore dX3_mayFollow_25 rfl (Nat.le_of_ble_eq_true rfl) ?_
    refine jv_iload_n dX3_mayFollow_27 rfl ?_
    refine jv_i2l dX3_mayFollow_28 ?_
    refine jv_aload_n dX3_mayFollow_29 rfl ?_
    refine jv_getf dX3_mayFollow_30 jf_X3_15 (by repeat' (first | assumption | exact ⟨_, by assumption⟩ | refine jv_h1 (by omega) ?_ | refine jv_h0 ?_ | refine jv_hs ?_)) (by exact rfl) ?_
    refine jv_iload_n dX3_mayFollow_33 rfl ?_
    refine jv_iald dX3_mayFollow_34 (by repeat' (first | assumption | exact ⟨_, by assumption⟩ | refine jv_h1 (by omega) ?_ | refine jv_h0 ?_ | refine jv_hs ?_)) ?_
    refine jv_i2l dX3_mayFollow_35 ?_
    refine jv_lmul dX3_mayFollow_36 ?_
    refine jv_aload_n dX3_mayFollow_37 rfl ?_
    refine jv_getf dX3_mayFollow_38 jf_X3_18 (by repeat' (first | assumption | exact ⟨_, by assumption⟩ | refine jv_h1 (by omega) ?_ | refine jv_h0 ?_ | refine jv_hs ?_)) (by exact rfl) ?_
    refine jv_iload_n dX3_mayFollow_41 rfl ?_
    refine jv_iald dX3_mayFollow_42 (by repeat' (first | assumption | exact ⟨_, by assumption⟩ | refine jv_h1 (by omega) ?_ | refine jv_h0 ?_ | refine jv_hs ?_)) ?_
    refine jv_i2l dX3_mayFollow_43 ?_
    refine jv_iload_n dX3_mayFollow_44 rfl ?_
    refine jv_i2l dX3_mayFollow_45 ?_
    refine jv_lmul dX3_mayFollow_46 ?_
    rw [e1, e2]
    refine jv_lcmp_le 55 dX3_mayFollow_47 dX3_mayFollow_48 (fun c47 => ?_) (fun c47 => ?_)
    · refine jv_iconst dX3_mayFollow_55 ?_
      refine jv_istore dX3_mayFollow_56 rfl (Nat.le_of_ble_eq_true rfl) ?_
      refine jv_iload dX3_mayFollow_58 rfl ?_
      refine jv_if_eq 72 dX3_mayFollow_60 (fun c60 => ?_) (fun c60 => ?_)
      · refine jv_iconst dX3_mayFollow_72 ?_
        exact jv_iret dX3_mayFollow_73 hq (hp _ (by omega) (by omega) (by omega)) (by first | rfl | decide)
      · refine jv_iload dX3_mayFollow_63 rfl ?_
        refine jv_if_ne 72 dX3_mayFollow_65 (fun c65 => ?_) (fun c65 => ?_)
        · refine jv_iconst dX3_mayFollow_72 ?_
          exact jv_iret dX3_mayFollow_73 hq (hp _ (by omega) (by omega) (by omega)) (by first | rfl | decide)
        · refine jv_iconst dX3_mayFollow_68 ?_
          refine jv_goto 73 dX3_mayFollow_69 ?_
          exact jv_iret dX3_mayFollow_73 hq (hp _ (by omega) (by omega) (by omega)) (by first | rfl | decide)
    · refine jv_iconst dX3_mayFollow_51 ?_
      refine jv_goto 56 dX3_mayFollow_52 ?_
      refine jv_istore dX3_mayFollow_56 rfl (Nat.le_of_ble_eq_true rfl) ?_
      refine jv_iload dX3_mayFollow_58 rfl ?_
      refine jv_if_eq 72 dX3_mayFollow_60 (fun c60 => ?_) (fun c60 => ?_)
      · refine jv_iconst dX3_mayFollow_72 ?_
        exact jv_iret dX3_mayFollow_73 hq (hp _ (by omega) (by omega) (by omega)) (by first | rfl | decide)
      · refine jv_iload dX3_mayFollow_63 rfl ?_
        refine jv_if_ne 72 dX3_mayFollow_65 (fun c65 => ?_) (fun c65 => ?_)
        · refine jv_iconst dX3_mayFollow_72 ?_
          exact jv_iret dX3_mayFollow_73 hq (hp _ (by omega) (by omega) (by omega)) (by first | rfl | decide)
        · refine jv_iconst dX3_mayFollow_68 ?_
          refine jv_goto 73 dX3_mayFollow_69 ?_
          exact jv_iret dX3_mayFollow_73 hq (hp _ (by omega) (by omega) (by omega)) (by first | rfl | decide)
  · refine jv_iload_n dX3_mayFollow_10 rfl ?_
    refine jv_aload_n dX3_mayFollow_11 rfl ?_
    refine jv_getf dX3_mayFollow_12 jf_X3_18 (by repeat' (first | assumption | exact ⟨_, by assumption⟩ | refine jv_h1 (by omega) ?_ | refine jv_h0 ?_ | refine jv_hs ?_)) (by exact rfl) ?_
    refine jv_iload_n dX3_mayFollow_15 rfl ?_
    refine jv_iald dX3_mayFollow_16 (by repeat' (first | assumption | exact ⟨_, by assumption⟩ | refine jv_h1 (by omega) ?_ | refine jv_h0 ?_ | refine jv_hs ?_)) ?_
    refine jv_icmp_le 24 dX3_mayFollow_17 (fun c17 => ?_) (fun c17 => ?_)
    · refine jv_iconst dX3_mayFollow_24 ?_
      refine jv_istore dX3_mayFollow_25 rfl (Nat.le_of_ble_eq_true rfl) ?_
      refine jv_iload_n dX3_mayFollow_27 rfl ?_
      refine jv_i2l dX3_mayFollow_28 ?_
      refine jv_aload_n dX3_mayFollow_29 rfl ?_
      refine jv_getf dX3_mayFollow_30 jf_X3_15 (by repeat' (first | assumption | exact ⟨_, by assumption⟩ | refine jv_h1 (by omega) ?_ | refine jv_h0 ?_ | refine jv_hs ?_)) (by exact rfl) ?_
      refine jv_iload_n dX3_mayFollow_33 rfl ?_
      refine jv_iald dX3_mayFollow_34 (by repeat' (first | assumption | exact ⟨_, by assumption⟩ | refine jv_h1 (by omega) ?_ | refine jv_h0 ?_ | refine jv_hs ?_)) ?_
      refine jv_i2l dX3_mayFollow_35 ?_
      refine jv_lmul dX3_mayFollow_36 ?_
      refine jv_aload_n dX3_mayFollow_37 rfl ?_
      refine jv_getf dX3_mayFollow_38 jf_X3_18 (by repeat' (first | assumption | exact ⟨_, by assumption⟩ | refine jv_h1 (by omega) ?_ | refine jv_h0 ?_ | refine jv_hs ?_)) (by exact rfl) ?_
      refine jv_iload_n dX3_mayFollow_41 rfl ?_
      refine jv_iald dX3_mayFollow_42 (by repeat' (first | assumption | exact ⟨_, by assumption⟩ | refine jv_h1 (by omega) ?_ | refine jv_h0 ?_ | refine jv_hs ?_)) ?_
      refine jv_i2l dX3_mayFollow_43 ?_
      refine jv_iload_n dX3_mayFollow_44 rfl ?_
      refine jv_i2l dX3_mayFollow_45 ?_
      refine jv_lmul dX3_mayFollow_46 ?_
      rw [e1, e2]
      refine jv_lcmp_le 55 dX3_mayFollow_47 dX3_mayFollow_48 (fun c47 => ?_) (fun c47 => ?_)
      · refine jv_iconst dX3_mayFollow_55 ?_
        refine jv_istore dX3_mayFollow_56 rfl (Nat.le_of_ble_eq_true rfl) ?_
        refine jv_iload dX3_mayFollow_58 rfl ?_
        refine jv_if_eq 72 dX3_mayFollow_60 (fun c60 => ?_) (fun c60 => ?_)
        · refine jv_iconst dX3_mayFollow_72 ?_
          exact jv_iret dX3_mayFollow_73 hq (hp _ (by omega) (by omega) (by omega)) (by first | rfl | decide)
        · refine jv_iload dX3_mayFollow_63 rfl ?_
          refine jv_if_ne 72 dX3_mayFollow_65 (fun c65 => ?_) (fun c65 => ?_)
          · refine jv_iconst dX3_mayFollow_72 ?_
            exact jv_iret dX3_mayFollow_73 hq (hp _ (by omega) (by omega) (by omega)) (by first | rfl | decide)
          · refine jv_iconst dX3_mayFollow_68 ?_
            refine jv_goto 73 dX3_mayFollow_69 ?_
            exact jv_iret dX3_mayFollow_73 hq (hp _ (by omega) (by omega) (by omega)) (by first | rfl | decide)
      · refine jv_iconst dX3_mayFollow_51 ?_
        refine jv_goto 56 dX3_mayFollow_52 ?_
        refine jv_istore dX3_mayFollow_56 rfl (Nat.le_of_ble_eq_true rfl) ?_
        refine jv_iload dX3_mayFollow_58 rfl ?_
        refine jv_if_eq 72 dX3_mayFollow_60 (fun c60 => ?_) (fun c60 => ?_)
        · refine jv_iconst dX3_mayFollow_72 ?_
          exact jv_iret dX3_mayFollow_73 hq (hp _ (by omega) (by omega) (by omega)) (by first | rfl | decide)
        · refine jv_iload dX3_mayFollow_63 rfl ?_
          refine jv_if_ne 72 dX3_mayFollow_65 (fun c65 => ?_) (fun c65 => ?_)
          · refine jv_iconst dX3_mayFollow_72 ?_
            exact jv_iret dX3_mayFollow_73 hq (hp _ (by omega) (by omega) (by omega)) (by first | rfl | decide)
          · refine jv_iconst dX3_mayFollow_68 ?_
            refine jv_goto 73 dX3_mayFollow_69 ?_
            exact jv_iret dX3_mayFollow_73 hq (hp _ (by omega) (by omega) (by omega)) (by first | rfl | decide)
    · refine jv_iconst dX3_mayFollow_20 ?_
      refine jv_goto 25 dX3_mayFollow_21 ?_
      refine jv_istore dX3_mayFollow_25 rfl (Nat.le_of_ble_eq_true rfl) ?_
      refine jv_iload_n dX3_mayFollow_27 rfl ?_
      refine jv_i2l dX3_mayFollow_28 ?_
      refine jv_aload_n dX3_mayFollow_29 rfl ?_
      refine jv_getf dX3_mayFollow_30 jf_X3_15 (by repeat' (first | assumption | exact ⟨_, by assumption⟩ | refine jv_h1 (by omega) ?_ | refine jv_h0 ?_ | refine jv_hs ?_)) (by exact rfl) ?_
      refine jv_iload_n dX3_mayFollow_33 rfl ?_
      refine jv_iald dX3_mayFollow_34 (by repeat' (first | assumption | exact ⟨_, by assumption⟩ | refine jv_h1 (by omega) ?_ | refine jv_h0 ?_ | refine jv_hs ?_)) ?_
      refine jv_i2l dX3_mayFollow_35 ?_
      refine jv_lmul dX3_mayFollow_36 ?_
      refine jv_aload_n dX3_mayFollow_37 rfl ?_
      refine jv_getf dX3_mayFollow_38 jf_X3_18 (by repeat' (first | assumption | exact ⟨_, by assumption⟩ | refine jv_h1 (by omega) ?_ | refine jv_h0 ?_ | refine jv_hs ?_)) (by exact rfl) ?_
      refine jv_iload_n dX3_mayFollow_41 rfl ?_
      refine jv_iald dX3_mayFollow_42 (by repeat' (first | assumption | exact ⟨_, by assumption⟩ | refine jv_h1 (by omega) ?_ | refine jv_h0 ?_ | refine jv_hs ?_)) ?_
      refine jv_i2l dX3_mayFollow_43 ?_
      refine jv_iload_n dX3_mayFollow_44 rfl ?_
      refine jv_i2l dX3_mayFollow_45 ?_
      refine jv_lmul dX3_mayFollow_46 ?_
      rw [e1, e2]
      refine jv_lcmp_le 55 dX3_mayFollow_47 dX3_mayFollow_48 (fun c47 => ?_) (fun c47 => ?_)
      · refine jv_iconst dX3_mayFollow_55 ?_
        refine jv_istore dX3_mayFollow_56 rfl (Nat.le_of_ble_eq_true rfl) ?_
        refine jv_iload dX3_mayFollow_58 rfl ?_
        refine jv_if_eq 72 dX3_mayFollow_60 (fun c60 => ?_) (fun c60 => ?_)
        · refine jv_iconst dX3_mayFollow_72 ?_
          exact jv_iret dX3_mayFollow_73 hq (hp _ (by omega) (by omega) (by omega)) (by first | rfl | decide)
        · refine jv_iload dX3_mayFollow_63 rfl ?_
          refine jv_if_ne 72 dX3_mayFollow_65 (fun c65 => ?_) (fun c65 => ?_)
          · refine jv_iconst dX3_mayFollow_72 ?_
            exact jv_iret dX3_mayFollow_73 hq (hp _ (by omega) (by omega) (by omega)) (by first | rfl | decide)
          · refine jv_iconst dX3_mayFollow_68 ?_
            refine jv_goto 73 dX3_mayFollow_69 ?_
            exact jv_iret dX3_mayFollow_73 hq (hp _ (by omega) (by omega) (by omega)) (by first | rfl | decide)
      · refine jv_iconst dX3_mayFollow_51 ?_
        refine jv_goto 56 dX3_mayFollow_52 ?_
        refine jv_istore dX3_mayFollow_56 rfl (Nat.le_of_ble_eq_true rfl) ?_
        refine jv_iload dX3_mayFollow_58 rfl ?_
        refine jv_if_eq 72 dX3_mayFollow_60 (fun c60 => ?_) (fun c60 => ?_)
        · refine jv_iconst dX3_mayFollow_72 ?_
          exact jv_iret dX3_mayFollow_73 hq (hp _ (by omega) (by omega) (by omega)) (by first | rfl | decide)
        · refine jv_iload dX3_mayFollow_63 rfl ?_
          refine jv_if_ne 72 dX3_mayFollow_65 (fun c65 => ?_) (fun c65 => ?_)
          · refine jv_iconst dX3_mayFollow_72 ?_
            exact jv_iret dX3_mayFollow_73 hq (hp _ (by omega) (by omega) (by omega)) (by first | rfl | decide)
          · refine jv_iconst dX3_mayFollow_68 ?_
            refine jv_goto 73 dX3_mayFollow_69 ?_
            exact jv_iret dX3_mayFollow_73 hq (hp _ (by omega) (by omega) (by omega)) (by first | rfl | decide)
end RN
