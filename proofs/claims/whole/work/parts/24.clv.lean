/-! CULVERTS -/
def jw_C (h : List jv_E) (n : Nat) (wi he le fa va : Int → Int) : Prop := h[9]? = some (jv_ob 0 [.ref 10, .ref 11, .ref 12, .ref 13, .ref 14, .int (jv_i n)]) ∧ h[10]? = some (jv_ai 8 wi) ∧ h[11]? = some (jv_ai 8 he) ∧ h[12]? = some (jv_ai 8 le) ∧ h[13]? = some (jv_ai 8 fa) ∧ h[14]? = some (jv_ai 8 va)
def jq_C (n : Nat) (wi he le fa : Int → Int) : Prop := n ≤ 8 ∧ ∀ i, (0 ≤ wi i ∧ wi i ≤ 10000) ∧ (0 ≤ he i ∧ he i ≤ 10000) ∧ (0 ≤ le i ∧ le i ≤ 100000) ∧ (0 ≤ fa i ∧ fa i ≤ 10000)
def jq_okC (n : Nat) (a b c d : Int) : Prop := (1 ≤ a ∧ a ≤ 10000) ∧ (1 ≤ b ∧ b ≤ 10000) ∧ (1 ≤ c ∧ c ≤ 100000) ∧ (0 ≤ d ∧ d ≤ 10000) ∧ n < 8
section CL
variable {h : List jv_E} {n t0 d0 : Nat} {wi he le fa va : Int → Int} {post : Option Value → List jv_E → Prop}
theorem ct_X0_size (K : Nat) (w : jw_C h n wi he le fa va) (hp : post (some (.int (jv_i n))) h) : jv_Ct yX0_size cX0_size 1 (some .int) K [.ref 9] h post := by
  obtain ⟨w1, w2, w3, w4, w5, w6⟩ := w
  refine jv_entry (own := RX0) (by decide) rfl (Nat.le_of_ble_eq_true rfl) (fun X hq => ?_)
  refine jv_aload_n dX0_size_0 rfl ?_
  refine jv_getf dX0_size_1 jf_X0_27 (by repeat' (first | assumption | exact ⟨_, by assumption⟩ | refine jv_h1 (by decide) ?_ | refine jv_h0 ?_ | refine jv_h1 (by omega) ?_ | refine jv_hs ?_)) (by exact rfl) ?_
  exact jv_iret dX0_size_4 hq (hp) (by first | rfl | decide)
theorem ct_X0_has {c : Int} (K : Nat) (w : jw_C h n wi he le fa va) (hn : n ≤ 8) (hc : jq_rg c) (hp : ∀ r : Int, (0 ≤ c ∧ c < n → r = 1) → (¬ (0 ≤ c ∧ c < n) → r = 0) → 0 ≤ r ∧ r ≤ 1 → post (some (.int (jv_i r))) h) : jv_Ct yX0_has cX0_has 2 (some .boolean) (K + 1) [.ref 9, .int (jv_i c)] h post := by
  obtain ⟨w1, w2, w3, w4, w5, w6⟩ := w
  unfold jq_rg at hc
  refine jv_entry (own := RX0) (by decide) rfl (Nat.le_of_ble_eq_true rfl) (fun X hq => ?_)
  refine jv_iload_n dX0_has_0 rfl ?_
  refine jv_i2l dX0_has_1 ?_
  refine jv_lconst 0 dX0_has_2 ?_
  refine jv_aload_n dX0_has_3 rfl ?_
  refine jv_getf dX0_has_4 jf_X0_27 (by repeat' (first | assumption | exact ⟨_, by assumption⟩ | refine jv_h1 (by decide) ?_ | refine jv_h0 ?_ | refine jv_h1 (by omega) ?_ | refine jv_hs ?_)) (by exact rfl) ?_
  refine jv_iconst dX0_has_7 ?_
  refine jv_isub dX0_has_8 ?_
  refine jv_i2l dX0_has_9 ?_
  refine jv_cN dX0_has_10 jm_X0_31 (ct_X7_within K (fun r q1 q2 q3 => ?_))
  rcases (show r = 0 ∨ r = 1 by omega) with rfl | rfl
  · exact jv_iret dX0_has_13 hq (hp _ (by omega) (by omega) (by omega)) (by decide)
  · exact jv_iret dX0_has_13 hq (hp _ (by omega) (by omega) (by omega)) (by decide)
theorem ct_X0_add {a b c d : Int} (K : Nat) (w : jw_C h n wi he le fa va) (hn : n ≤ 8) (hp1 : n < 8 → ∀ h', jw_C h' (n + 1) (jv_up wi n a) (jv_up he n b) (jv_up le n c) (jv_up fa n d) va → jv_fr 9 14 h h' → post (some (.int (jv_i n))) h') (hp2 : ¬ n < 8 → post (some (.int (jv_i (-1)))) h) : jv_Ct yX0_add cX0_add 5 (some .int) K [.ref 9, .int (jv_i a), .int (jv_i b), .int (jv_i c), .int (jv_i d)] h post := by
  obtain ⟨w1, w2, w3, w4, w5, w6⟩ := w
  refine jv_entry (own := RX0) (by decide) rfl (Nat.le_of_ble_eq_true rfl) (fun X hq => ?_)
  refine jv_aload_n dX0_add_0 rfl ?_
  refine jv_getf dX0_add_1 jf_X0_27 (by repeat' (first | assumption | exact ⟨_, by assumption⟩ | refine jv_h1 (by decide) ?_ | refine jv_h0 ?_ | refine jv_h1 (by omega) ?_ | refine jv_hs ?_)) (by exact rfl) ?_
  refine jv_bipush dX0_add_4 ?_
  refine jv_icmp_lt 11 dX0_add_6 (fun c6 => ?_) (fun c6 => ?_)
  · refine jv_aload_n dX0_add_11 rfl ?_
    refine jv_getf dX0_add_12 jf_X0_9 (by repeat' (first | assumption | exact ⟨_, by assumption⟩ | refine jv_h1 (by decide) ?_ | refine jv_h0 ?_ | refine jv_h1 (by omega) ?_ | refine jv_hs ?_)) (by exact rfl) ?_
    refine jv_aload_n dX0_add_15 rfl ?_
    refine jv_getf dX0_add_16 jf_X0_27 (by repeat' (first | assumption | exact ⟨_, by assumption⟩ | refine jv_h1 (by decide) ?_ | refine jv_h0 ?_ | refine jv_h1 (by omega) ?_ | refine jv_hs ?_)) (by exact rfl) ?_
    refine jv_iload_n dX0_add_19 rfl ?_
    refine jv_iast dX0_add_20 (by repeat' (first | assumption | exact ⟨_, by assumption⟩ | refine jv_h1 (by decide) ?_ | refine jv_h0 ?_ | refine jv_h1 (by omega) ?_ | refine jv_hs ?_)) ?_
    refine jv_aload_n dX0_add_21 rfl ?_
    refine jv_getf dX0_add_22 jf_X0_15 (by repeat' (first | assumption | exact ⟨_, by assumption⟩ | refine jv_h1 (by decide) ?_ | refine jv_h0 ?_ | refine jv_h1 (by omega) ?_ | refine jv_hs ?_)) (by exact rfl) ?_
    refine jv_aload_n dX0_add_25 rfl ?_
    refine jv_getf dX0_add_26 jf_X0_27 (by repeat' (first | assumption | exact ⟨_, by assumption⟩ | refine jv_h1 (by decide) ?_ | refine jv_h0 ?_ | refine jv_h1 (by omega) ?_ | refine jv_hs ?_)) (by exact rfl) ?_
    refine jv_iload_n dX0_add_29 rfl ?_
    refine jv_iast dX0_add_30 (by repeat' (first | assumption | exact ⟨_, by assumption⟩ | refine jv_h1 (by decide) ?_ | refine jv_h0 ?_ | refine jv_h1 (by omega) ?_ | refine jv_hs ?_)) ?_
    refine jv_aload_n dX0_add_31 rfl ?_
    refine jv_getf dX0_add_32 jf_X0_18 (by repeat' (first | assumption | exact ⟨_, by assumption⟩ | refine jv_h1 (by decide) ?_ | refine jv_h0 ?_ | refine jv_h1 (by omega) ?_ | refine jv_hs ?_)) (by exact rfl) ?_
    refine jv_aload_n dX0_add_35 rfl ?_
    refine jv_getf dX0_add_36 jf_X0_27 (by repeat' (first | assumption | exact ⟨_, by assumption⟩ | refine jv_h1 (by decide) ?_ | refine jv_h0 ?_ | refine jv_h1 (by omega) ?_ | refine jv_hs ?_)) (by exact rfl) ?_
    refine jv_iload_n dX0_add_39 rfl ?_
    refine jv_iast dX0_add_40 (by repeat' (first | assumption | exact ⟨_, by assumption⟩ | refine jv_h1 (by decide) ?_ | refine jv_h0 ?_ | refine jv_h1 (by omega) ?_ | refine jv_hs ?_)) ?_
    refine jv_aload_n dX0_add_41 rfl ?_
    refine jv_getf dX0_add_42 jf_X0_21 (by repeat' (first | assumption | exact ⟨_, by assumption⟩ | refine jv_h1 (by decide) ?_ | refine jv_h0 ?_ | refine jv_h1 (by omega) ?_ | refine jv_hs ?_)) (by exact rfl) ?_
    refine jv_aload_n dX0_add_45 rfl ?_
    refine jv_getf dX0_add_46 jf_X0_27 (by repeat' (first | assumption | exact ⟨_, by assumption⟩ | refine jv_h1 (by decide) ?_ | refine jv_h0 ?_ | refine jv_h1 (by omega) ?_ | refine jv_hs ?_)) (by exact rfl) ?_
    refine jv_iload dX0_add_49 rfl ?_
    refine jv_iast dX0_add_51 (by repeat' (first | assumption | exact ⟨_, by assumption⟩ | refine jv_h1 (by decide) ?_ | refine jv_h0 ?_ | refine jv_h1 (by omega) ?_ | refine jv_hs ?_)) ?_
    refine jv_aload_n dX0_add_52 rfl ?_
    refine jv_dup dX0_add_53 rfl ?_
    refine jv_getf dX0_add_54 jf_X0_27 (by repeat' (first | assumption | exact ⟨_, by assumption⟩ | refine jv_h1 (by decide) ?_ | refine jv_h0 ?_ | refine jv_h1 (by omega) ?_ | refine jv_hs ?_)) (by exact rfl) ?_
    refine jv_iconst dX0_add_57 ?_
    refine jv_iadd dX0_add_58 ?_
    refine jv_putf dX0_add_59 jp_X0_27 (by repeat' (first | assumption | exact ⟨_, by assumption⟩ | refine jv_h1 (by decide) ?_ | refine jv_h0 ?_ | refine jv_h1 (by omega) ?_ | refine jv_hs ?_)) (by exact Nat.le_of_ble_eq_true rfl) ?_
    refine jv_aload_n dX0_add_62 rfl ?_
    refine jv_getf dX0_add_63 jf_X0_27 (by repeat' (first | assumption | exact ⟨_, by assumption⟩ | refine jv_h1 (by decide) ?_ | refine jv_h0 ?_ | refine jv_h1 (by omega) ?_ | refine jv_hs ?_)) (by exact rfl) ?_
    refine jv_iconst dX0_add_66 ?_
    refine jv_isub dX0_add_67 ?_
    rw [show (n : Int) + 1 - 1 = n by omega]
    exact jv_iret dX0_add_68 hq (hp1 (by omega) _ ⟨(by repeat' (first | assumption | exact ⟨_, by assumption⟩ | refine jv_h1 (by decide) ?_ | refine jv_h0 ?_ | refine jv_h1 (by omega) ?_ | refine jv_hs ?_)), (by repeat' (first | assumption | exact ⟨_, by assumption⟩ | refine jv_h1 (by decide) ?_ | refine jv_h0 ?_ | refine jv_h1 (by omega) ?_ | refine jv_hs ?_)), (by repeat' (first | assumption | exact ⟨_, by assumption⟩ | refine jv_h1 (by decide) ?_ | refine jv_h0 ?_ | refine jv_h1 (by omega) ?_ | refine jv_hs ?_)), (by repeat' (first | assumption | exact ⟨_, by assumption⟩ | refine jv_h1 (by decide) ?_ | refine jv_h0 ?_ | refine jv_h1 (by omega) ?_ | refine jv_hs ?_)), (by repeat' (first | assumption | exact ⟨_, by assumption⟩ | refine jv_h1 (by decide) ?_ | refine jv_h0 ?_ | refine jv_h1 (by omega) ?_ | refine jv_hs ?_)), (by repeat' (first | assumption | exact ⟨_, by assumption⟩ | refine jv_h1 (by decide) ?_ | refine jv_h0 ?_ | refine jv_h1 (by omega) ?_ | refine jv_hs ?_))⟩ (jv_fr_set (by omega) (jv_fr_set (by omega) (jv_fr_set (by omega) (jv_fr_set (by omega) (jv_fr_set (by omega) jv_fr_rf)))))) (by first | rfl | decide)
  · refine jv_iconst dX0_add_9 ?_
    exact jv_iret dX0_add_10 hq (hp2 (by omega))
/-- what the columns but that of h hold -/
def jq_va (va wi he le fa : Int → Int) (c t q : Int) : Prop := va 1 = t ∧ va 2 = wi c ∧ va 3 = he c ∧ va 4 = le c ∧ va 5 = fa c ∧ va 6 = q ∧ va 7 = 1
theorem ct_X0_valuesFor {c t q : Int} (K : Nat) (w : jw_C h n wi he le fa va) (hn : n ≤ 8) (hc : 0 ≤ c ∧ c < n) (hp : ∀ h' va', jq_va va' wi he le fa c t q → jw_C h' n wi he le fa va' → jv_fr 9 14 h h' → post (some (.ref 14)) h') : jv_Ct yX0_valuesFor cX0_valuesFor 4 (some (.array .int)) (K + 2) [.ref 9, .int (jv_i c), .int (jv_i t), .int (jv_i q)] h post := by
  obtain ⟨w1, w2, w3, w4, w5, w6⟩ := w
  refine jv_entry (own := RX0) (by decide) rfl (Nat.le_of_ble_eq_true rfl) (fun X hq => ?_)
  refine jv_aload_n dX0_valuesFor_0 rfl ?_
  refine jv_getf dX0_valuesFor_1 jf_X0_24 (by repeat' (first | assumption | exact ⟨_, by assumption⟩ | refine jv_h1 (by decide) ?_ | refine jv_h0 ?_ | refine jv_h1 (by omega) ?_ | refine jv_hs ?_)) (by exact rfl) ?_
  refine jv_iconst dX0_valuesFor_4 ?_
  refine jv_iload_n dX0_valuesFor_5 rfl ?_
  refine jv_iast dX0_valuesFor_6 (by repeat' (first | assumption | exact ⟨_, by assumption⟩ | refine jv_h1 (by decide) ?_ | refine jv_h0 ?_ | refine jv_h1 (by omega) ?_ | refine jv_hs ?_)) ?_
  refine jv_aload_n dX0_valuesFor_7 rfl ?_
  refine jv_getf dX0_valuesFor_8 jf_X0_24 (by repeat' (first | assumption | exact ⟨_, by assumption⟩ | refine jv_h1 (by decide) ?_ | refine jv_h0 ?_ | refine jv_h1 (by omega) ?_ | refine jv_hs ?_)) (by exact rfl) ?_
  refine jv_bipush dX0_valuesFor_11 ?_
  refine jv_iload_n dX0_valuesFor_13 rfl ?_
  refine jv_iast dX0_valuesFor_14 (by repeat' (first | assumption | exact ⟨_, by assumption⟩ | refine jv_h1 (by decide) ?_ | refine jv_h0 ?_ | refine jv_h1 (by omega) ?_ | refine jv_hs ?_)) ?_
  refine jv_aload_n dX0_valuesFor_15 rfl ?_
  refine jv_getf dX0_valuesFor_16 jf_X0_24 (by repeat' (first | assumption | exact ⟨_, by assumption⟩ | refine jv_h1 (by decide) ?_ | refine jv_h0 ?_ | refine jv_h1 (by omega) ?_ | refine jv_hs ?_)) (by exact rfl) ?_
  refine jv_bipush dX0_valuesFor_19 ?_
  refine jv_iconst dX0_valuesFor_21 ?_
  refine jv_iast dX0_valuesFor_22 (by repeat' (first | assumption | exact ⟨_, by assumption⟩ | refine jv_h1 (by decide) ?_ | refine jv_h0 ?_ | refine jv_h1 (by omega) ?_ | refine jv_hs ?_)) ?_
  refine jv_aload_n dX0_valuesFor_23 rfl ?_
  refine jv_iload_n dX0_valuesFor_24 rfl ?_
  refine jv_cV dX0_valuesFor_25 jm_X0_35 rfl (by repeat' (first | assumption | exact ⟨_, by assumption⟩ | refine jv_h1 (by decide) ?_ | refine jv_h0 ?_ | refine jv_h1 (by omega) ?_ | refine jv_hs ?_)) rfl (ct_X0_has (n := n) (wi := wi) (he := he) (le := le) (fa := fa) (va := jv_up (jv_up (jv_up va 1 t) 6 q) 7 1) K ⟨(by repeat' (first | assumption | exact ⟨_, by assumption⟩ | refine jv_h1 (by decide) ?_ | refine jv_h0 ?_ | refine jv_h1 (by omega) ?_ | refine jv_hs ?_)), (by repeat' (first | assumption | exact ⟨_, by assumption⟩ | refine jv_h1 (by decide) ?_ | refine jv_h0 ?_ | refine jv_h1 (by omega) ?_ | refine jv_hs ?_)), (by repeat' (first | assumption | exact ⟨_, by assumption⟩ | refine jv_h1 (by decide) ?_ | refine jv_h0 ?_ | refine jv_h1 (by omega) ?_ | refine jv_hs ?_)), (by repeat' (first | assumption | exact ⟨_, by assumption⟩ | refine jv_h1 (by decide) ?_ | refine jv_h0 ?_ | refine jv_h1 (by omega) ?_ | refine jv_hs ?_)), (by repeat' (first | assumption | exact ⟨_, by assumption⟩ | refine jv_h1 (by decide) ?_ | refine jv_h0 ?_ | refine jv_h1 (by omega) ?_ | refine jv_hs ?_)), (by repeat' (first | assumption | exact ⟨_, by assumption⟩ | refine jv_h1 (by decide) ?_ | refine jv_h0 ?_ | refine jv_h1 (by omega) ?_ | refine jv_hs ?_))⟩ hn (by unfold jq_rg; omega) (fun r q1 q2 q3 => ?_))
  refine jv_if_eq 79 dX0_valuesFor_28 (fun c28 => ?_) (fun c28 => ?_)
  · exact absurd c28 (by omega)
  · refine jv_aload_n dX0_valuesFor_31 rfl ?_
    refine jv_getf dX0_valuesFor_32 jf_X0_24 (by repeat' (first | assumption | exact ⟨_, by assumption⟩ | refine jv_h1 (by decide) ?_ | refine jv_h0 ?_ | refine jv_h1 (by omega) ?_ | refine jv_hs ?_)) (by exact rfl) ?_
    refine jv_iconst dX0_valuesFor_35 ?_
    refine jv_aload_n dX0_valuesFor_36 rfl ?_
    refine jv_getf dX0_valuesFor_37 jf_X0_9 (by repeat' (first | assumption | exact ⟨_, by assumption⟩ | refine jv_h1 (by decide) ?_ | refine jv_h0 ?_ | refine jv_h1 (by omega) ?_ | refine jv_hs ?_)) (by exact rfl) ?_
    refine jv_iload_n dX0_valuesFor_40 rfl ?_
    refine jv_iald dX0_valuesFor_41 (by repeat' (first | assumption | exact ⟨_, by assumption⟩ | refine jv_h1 (by decide) ?_ | refine jv_h0 ?_ | refine jv_h1 (by omega) ?_ | refine jv_hs ?_)) ?_
    refine jv_iast dX0_valuesFor_42 (by repeat' (first | assumption | exact ⟨_, by assumption⟩ | refine jv_h1 (by decide) ?_ | refine jv_h0 ?_ | refine jv_h1 (by omega) ?_ | refine jv_hs ?_)) ?_
    refine jv_aload_n dX0_valuesFor_43 rfl ?_
    refine jv_getf dX0_valuesFor_44 jf_X0_24 (by repeat' (first | assumption | exact ⟨_, by assumption⟩ | refine jv_h1 (by decide) ?_ | refine jv_h0 ?_ | refine jv_h1 (by omega) ?_ | refine jv_hs ?_)) (by exact rfl) ?_
    refine jv_iconst dX0_valuesFor_47 ?_
    refine jv_aload_n dX0_valuesFor_48 rfl ?_
    refine jv_getf dX0_valuesFor_49 jf_X0_15 (by repeat' (first | assumption | exact ⟨_, by assumption⟩ | refine jv_h1 (by decide) ?_ | refine jv_h0 ?_ | refine jv_h1 (by omega) ?_ | refine jv_hs ?_)) (by exact rfl) ?_
    refine jv_iload_n dX0_valuesFor_52 rfl ?_
    refine jv_iald dX0_valuesFor_53 (by repeat' (first | assumption | exact ⟨_, by assumption⟩ | refine jv_h1 (by decide) ?_ | refine jv_h0 ?_ | refine jv_h1 (by omega) ?_ | refine jv_hs ?_)) ?_
    refine jv_iast dX0_valuesFor_54 (by repeat' (first | assumption | exact ⟨_, by assumption⟩ | refine jv_h1 (by decide) ?_ | refine jv_h0 ?_ | refine jv_h1 (by omega) ?_ | refine jv_hs ?_)) ?_
    refine jv_aload_n dX0_valuesFor_55 rfl ?_
    refine jv_getf dX0_valuesFor_56 jf_X0_24 (by repeat' (first | assumption | exact ⟨_, by assumption⟩ | refine jv_h1 (by decide) ?_ | refine jv_h0 ?_ | refine jv_h1 (by omega) ?_ | refine jv_hs ?_)) (by exact rfl) ?_
    refine jv_iconst dX0_valuesFor_59 ?_
    refine jv_aload_n dX0_valuesFor_60 rfl ?_
    refine jv_getf dX0_valuesFor_61 jf_X0_18 (by repeat' (first | assumption | exact ⟨_, by assumption⟩ | refine jv_h1 (by decide) ?_ | refine jv_h0 ?_ | refine jv_h1 (by omega) ?_ | refine jv_hs ?_)) (by exact rfl) ?_
    refine jv_iload_n dX0_valuesFor_64 rfl ?_
    refine jv_iald dX0_valuesFor_65 (by repeat' (first | assumption | exact ⟨_, by assumption⟩ | refine jv_h1 (by decide) ?_ | refine jv_h0 ?_ | refine jv_h1 (by omega) ?_ | refine jv_hs ?_)) ?_
    refine jv_iast dX0_valuesFor_66 (by repeat' (first | assumption | exact ⟨_, by assumption⟩ | refine jv_h1 (by decide) ?_ | refine jv_h0 ?_ | refine jv_h1 (by omega) ?_ | refine jv_hs ?_)) ?_
    refine jv_aload_n dX0_valuesFor_67 rfl ?_
    refine jv_getf dX0_valuesFor_68 jf_X0_24 (by repeat' (first | assumption | exact ⟨_, by assumption⟩ | refine jv_h1 (by decide) ?_ | refine jv_h0 ?_ | refine jv_h1 (by omega) ?_ | refine jv_hs ?_)) (by exact rfl) ?_
    refine jv_iconst dX0_valuesFor_71 ?_
    refine jv_aload_n dX0_valuesFor_72 rfl ?_
    refine jv_getf dX0_valuesFor_73 jf_X0_21 (by repeat' (first | assumption | exact ⟨_, by assumption⟩ | refine jv_h1 (by decide) ?_ | refine jv_h0 ?_ | refine jv_h1 (by omega) ?_ | refine jv_hs ?_)) (by exact rfl) ?_
    refine jv_iload_n dX0_valuesFor_76 rfl ?_
    refine jv_iald dX0_valuesFor_77 (by repeat' (first | assumption | exact ⟨_, by assumption⟩ | refine jv_h1 (by decide) ?_ | refine jv_h0 ?_ | refine jv_h1 (by omega) ?_ | refine jv_hs ?_)) ?_
    refine jv_iast dX0_valuesFor_78 (by repeat' (first | assumption | exact ⟨_, by assumption⟩ | refine jv_h1 (by decide) ?_ | refine jv_h0 ?_ | refine jv_h1 (by omega) ?_ | refine jv_hs ?_)) ?_
    refine jv_aload_n dX0_valuesFor_79 rfl ?_
    refine jv_getf dX0_valuesFor_80 jf_X0_24 (by repeat' (first | assumption | exact ⟨_, by assumption⟩ | refine jv_h1 (by decide) ?_ | refine jv_h0 ?_ | refine jv_h1 (by omega) ?_ | refine jv_hs ?_)) (by exact rfl) ?_
    refine jv_aret dX0_valuesFor_83 hq (hp _ _ ?_ ⟨(by repeat' (first | assumption | exact ⟨_, by assumption⟩ | refine jv_h1 (by decide) ?_ | refine jv_h0 ?_ | refine jv_h1 (by omega) ?_ | refine jv_hs ?_)), (by repeat' (first | assumption | exact ⟨_, by assumption⟩ | refine jv_h1 (by decide) ?_ | refine jv_h0 ?_ | refine jv_h1 (by omega) ?_ | refine jv_hs ?_)), (by repeat' (first | assumption | exact ⟨_, by assumption⟩ | refine jv_h1 (by decide) ?_ | refine jv_h0 ?_ | refine jv_h1 (by omega) ?_ | refine jv_hs ?_)), (by repeat' (first | assumption | exact ⟨_, by assumption⟩ | refine jv_h1 (by decide) ?_ | refine jv_h0 ?_ | refine jv_h1 (by omega) ?_ | refine jv_hs ?_)), (by repeat' (first | assumption | exact ⟨_, by assumption⟩ | refine jv_h1 (by decide) ?_ | refine jv_h0 ?_ | refine jv_h1 (by omega) ?_ | refine jv_hs ?_)), (by repeat' (first | assumption | exact ⟨_, by assumption⟩ | refine jv_h1 (by decide) ?_ | refine jv_h0 ?_ | refine jv_h1 (by omega) ?_ | refine jv_hs ?_))⟩ (jv_fr_set (by omega) (jv_fr_set (by omega) (jv_fr_set (by omega) (jv_fr_set (by omega) (jv_fr_set (by omega) (jv_fr_set (by omega) (jv_fr_set (by omega) jv_fr_rf))))))))
    simp [jq_va, jv_up]
theorem ct_X7_culvert {a b c d : Int} (K : Nat) (bb : jw_B h t0 d0) (w : jw_C h n wi he le fa va) (hn : n ≤ 8) (ha : jq_rg a) (hb : jq_rg b) (hc : jq_rg c) (hd : jq_rg d) (hp1 : jq_okC n a b c d → ∀ h', jw_C h' (n + 1) (jv_up wi n a) (jv_up he n b) (jv_up le n c) (jv_up fa n d) va → jv_fr 9 14 h h' → post (some (.int (jv_i n))) h') (hp2 : ¬ jq_okC n a b c d → post (some (.int (jv_i (-1)))) h) : jv_Ct yX7_culvert cX7_culvert 5 (some .int) (K + 1) [.ref 0, .int (jv_i a), .int (jv_i b), .int (jv_i c), .int (jv_i d)] h post := by
  unfold jw_B at bb
  have w1 := w.1
  unfold jq_rg at ha hb hc hd
  unfold jq_okC at hp1 hp2
  refine jv_entry (own := RX7) (by decide) rfl (Nat.le_of_ble_eq_true rfl) (fun X hq => ?_)
  refine jv_iload_n dX7_culvert_0 rfl ?_
  refine jv_i2l dX7_culvert_1 ?_
  refine jv_lconst 1 dX7_culvert_2 ?_
  refine jv_ldc2 dX7_culvert_3 jk_X7_67 ?_
  refine jv_cS dX7_culvert_6 jm_X7_63 (ct_X7_within K (fun r1 q11 q12 q13 => ?_))
  refine jv_if_eq 49 dX7_culvert_9 (fun c9 => ?_) (fun c9 => ?_)
  · refine jv_iconst dX7_culvert_49 ?_
    exact jv_iret dX7_culvert_50 hq (hp2 (by omega))
  · refine jv_iload_n dX7_culvert_12 rfl ?_
    refine jv_i2l dX7_culvert_13 ?_
    refine jv_lconst 1 dX7_culvert_14 ?_
    refine jv_ldc2 dX7_culvert_15 jk_X7_67 ?_
    refine jv_cS dX7_culvert_18 jm_X7_63 (ct_X7_within K (fun r2 q21 q22 q23 => ?_))
    refine jv_if_eq 49 dX7_culvert_21 (fun c21 => ?_) (fun c21 => ?_)
    · refine jv_iconst dX7_culvert_49 ?_
      exact jv_iret dX7_culvert_50 hq (hp2 (by omega))
    · refine jv_iload_n dX7_culvert_24 rfl ?_
      refine jv_i2l dX7_culvert_25 ?_
      refine jv_lconst 1 dX7_culvert_26 ?_
      refine jv_ldc2 dX7_culvert_27 jk_X7_69 ?_
      refine jv_cS dX7_culvert_30 jm_X7_63 (ct_X7_within K (fun r3 q31 q32 q33 => ?_))
      refine jv_if_eq 49 dX7_culvert_33 (fun c33 => ?_) (fun c33 => ?_)
      · refine jv_iconst dX7_culvert_49 ?_
        exact jv_iret dX7_culvert_50 hq (hp2 (by omega))
      · refine jv_iload dX7_culvert_36 rfl ?_
        refine jv_i2l dX7_culvert_38 ?_
        refine jv_lconst 0 dX7_culvert_39 ?_
        refine jv_ldc2 dX7_culvert_40 jk_X7_67 ?_
        refine jv_cS dX7_culvert_43 jm_X7_63 (ct_X7_within K (fun r4 q41 q42 q43 => ?_))
        refine jv_if_ne 51 dX7_culvert_46 (fun c46 => ?_) (fun c46 => ?_)
        · refine jv_aload_n dX7_culvert_51 rfl ?_
          refine jv_getf dX7_culvert_52 jf_X7_26 (by repeat' (first | assumption | exact ⟨_, by assumption⟩ | refine jv_h1 (by decide) ?_ | refine jv_h0 ?_ | refine jv_h1 (by omega) ?_ | refine jv_hs ?_)) (by exact rfl) ?_
          refine jv_iload_n dX7_culvert_55 rfl ?_
          refine jv_iload_n dX7_culvert_56 rfl ?_
          refine jv_iload_n dX7_culvert_57 rfl ?_
          refine jv_iload dX7_culvert_58 rfl ?_
          refine jv_cV dX7_culvert_60 jm_X7_122 rfl (by repeat' (first | assumption | exact ⟨_, by assumption⟩ | refine jv_h1 (by decide) ?_ | refine jv_h0 ?_ | refine jv_h1 (by omega) ?_ | refine jv_hs ?_)) rfl (ct_X0_add K w hn (fun q h' w' fr => ?_) (fun q => ?_))
          · exact jv_iret dX7_culvert_63 hq (hp1 (by omega) h' w' fr)
          · exact jv_iret dX7_culvert_63 hq (hp2 (by omega))
        · refine jv_iconst dX7_culvert_49 ?_
          exact jv_iret dX7_culvert_50 hq (hp2 (by omega))
theorem ct_X7_isWaterOrFlow {x : Int} (K : Nat) (hx : jq_rg x) (hp : ∀ r : Int, (0 ≤ x ∧ x ≤ 20000 → r = 1) → (¬ (0 ≤ x ∧ x ≤ 20000) → r = 0) → 0 ≤ r ∧ r ≤ 1 → post (some (.int (jv_i r))) h) : jv_Ct yX7_isWaterOrFlow cX7_isWaterOrFlow 1 (some .boolean) (K + 1) [.int (jv_i x)] h post := by
  unfold jq_rg at hx
  refine jv_entry (own := RX7) (by decide) rfl (Nat.le_of_ble_eq_true rfl) (fun X hq => ?_)
  refine jv_iload_n dX7_isWaterOrFlow_0 rfl ?_
  refine jv_i2l dX7_isWaterOrFlow_1 ?_
  refine jv_lconst 0 dX7_isWaterOrFlow_2 ?_
  refine jv_ldc2 dX7_isWaterOrFlow_3 jk_X7_201 ?_
  refine jv_cS dX7_isWaterOrFlow_6 jm_X7_63 (ct_X7_within K (fun r q1 q2 q3 => ?_))
  rcases (show r = 0 ∨ r = 1 by omega) with rfl | rfl
  · exact jv_iret dX7_isWaterOrFlow_9 hq (hp _ (by omega) (by omega) (by omega)) (by decide)
  · exact jv_iret dX7_isWaterOrFlow_9 hq (hp _ (by omega) (by omega) (by omega)) (by decide)
end CL
section MC
variable {h : List jv_E} {n : Nat} {rr lv si st at_ wr da ra wa : Int} {me : Int → Int} {post : Option Value → List jv_E → Prop}
theorem ct_X8_culvert {a b c d : Int} (K : Nat) (o : jw_O h rr lv n si st at_ wr da ra wa) (w : h[103]? = some (jv_ai 32 me)) (hn : n ≤ 8) (ha : jq_rg a) (hb : jq_rg b) (hc : jq_rg c) (hd : jq_rg d) (hp1 : jq_okC n a b c d → ∀ h', jw_O h' rr lv (n + 1) si st at_ wr da ra wa → h'[103]? = some (jv_ai 32 (jv_up (jv_up (jv_up (jv_up me (4 * n) a) (4 * n + 1) b) (4 * n + 2) c) (4 * n + 3) d)) → jv_fs [97, 103] h h' → post (some (.int (jv_i n))) h') (hp2 : ¬ jq_okC n a b c d → post (some (.int (jv_i (-1)))) h) : jv_Ct yX8_culvert cX8_culvert 5 (some .int) (K + 1) [.ref 97, .int (jv_i a), .int (jv_i b), .int (jv_i c), .int (jv_i d)] h post := by
  unfold jw_O at o
  unfold jq_rg at ha hb hc hd
  unfold jq_okC at hp1 hp2
  refine jv_entry (own := RX8) (by decide) rfl (Nat.le_of_ble_eq_true rfl) (fun X hq => ?_)
  refine jv_iload_n dX8_culvert_0 rfl ?_
  refine jv_i2l dX8_culvert_1 ?_
  refine jv_lconst 1 dX8_culvert_2 ?_
  refine jv_ldc2 dX8_culvert_3 jk_X8_68 ?_
  refine jv_cS dX8_culvert_6 jm_X8_64 (ct_X8_in K (fun r1 q11 q12 q13 => ?_))
  refine jv_if_eq 58 dX8_culvert_9 (fun c9 => ?_) (fun c9 => ?_)
  · refine jv_iconst dX8_culvert_58 ?_
    exact jv_iret dX8_culvert_59 hq (hp2 (by omega))
  · refine jv_iload_n dX8_culvert_12 rfl ?_
    refine jv_i2l dX8_culvert_13 ?_
    refine jv_lconst 1 dX8_culvert_14 ?_
    refine jv_ldc2 dX8_culvert_15 jk_X8_68 ?_
    refine jv_cS dX8_culvert_18 jm_X8_64 (ct_X8_in K (fun r2 q21 q22 q23 => ?_))
    refine jv_if_eq 58 dX8_culvert_21 (fun c21 => ?_) (fun c21 => ?_)
    · refine jv_iconst dX8_culvert_58 ?_
      exact jv_iret dX8_culvert_59 hq (hp2 (by omega))
    · refine jv_iload_n dX8_culvert_24 rfl ?_
      refine jv_i2l dX8_culvert_25 ?_
      refine jv_lconst 1 dX8_culvert_26 ?_
      refine jv_ldc2 dX8_culvert_27 jk_X8_70 ?_
      refine jv_cS dX8_culvert_30 jm_X8_64 (ct_X8_in K (fun r3 q31 q32 q33 => ?_))
      refine jv_if_eq 58 dX8_culvert_33 (fun c33 => ?_) (fun c33 => ?_)
      · refine jv_iconst dX8_culvert_58 ?_
        exact jv_iret dX8_culvert_59 hq (hp2 (by omega))
      · refine jv_iload dX8_culvert_36 rfl ?_
        refine jv_i2l dX8_culvert_38 ?_
        refine jv_lconst 0 dX8_culvert_39 ?_
        refine jv_ldc2 dX8_culvert_40 jk_X8_68 ?_
        refine jv_cS dX8_culvert_43 jm_X8_64 (ct_X8_in K (fun r4 q41 q42 q43 => ?_))
        refine jv_if_eq 58 dX8_culvert_46 (fun c46 => ?_) (fun c46 => ?_)
        · refine jv_iconst dX8_culvert_58 ?_
          exact jv_iret dX8_culvert_59 hq (hp2 (by omega))
        · refine jv_aload_n dX8_culvert_49 rfl ?_
          refine jv_getf dX8_culvert_50 jf_X8_113 (by repeat' (first | assumption | exact ⟨_, by assumption⟩ | refine jv_h1 (by decide) ?_ | refine jv_h0 ?_ | refine jv_h1 (by omega) ?_ | refine jv_hs ?_)) (by exact rfl) ?_
          refine jv_bipush dX8_culvert_53 ?_
          refine jv_icmp_ne 60 dX8_culvert_55 (fun c55 => ?_) (fun c55 => ?_)
          · refine jv_aload_n dX8_culvert_60 rfl ?_
            refine jv_getf dX8_culvert_61 jf_X8_25 (by repeat' (first | assumption | exact ⟨_, by assumption⟩ | refine jv_h1 (by decide) ?_ | refine jv_h0 ?_ | refine jv_h1 (by omega) ?_ | refine jv_hs ?_)) (by exact rfl) ?_
            refine jv_iconst dX8_culvert_64 ?_
            refine jv_aload_n dX8_culvert_65 rfl ?_
            refine jv_getf dX8_culvert_66 jf_X8_113 (by repeat' (first | assumption | exact ⟨_, by assumption⟩ | refine jv_h1 (by decide) ?_ | refine jv_h0 ?_ | refine jv_h1 (by omega) ?_ | refine jv_hs ?_)) (by exact rfl) ?_
            refine jv_imul dX8_culvert_69 ?_
            refine jv_iload_n dX8_culvert_70 rfl ?_
            refine jv_iast dX8_culvert_71 (by repeat' (first | assumption | exact ⟨_, by assumption⟩ | refine jv_h1 (by decide) ?_ | refine jv_h0 ?_ | refine jv_h1 (by omega) ?_ | refine jv_hs ?_)) ?_
            refine jv_aload_n dX8_culvert_72 rfl ?_
            refine jv_getf dX8_culvert_73 jf_X8_25 (by repeat' (first | assumption | exact ⟨_, by assumption⟩ | refine jv_h1 (by decide) ?_ | refine jv_h0 ?_ | refine jv_h1 (by omega) ?_ | refine jv_hs ?_)) (by exact rfl) ?_
            refine jv_iconst dX8_culvert_76 ?_
            refine jv_aload_n dX8_culvert_77 rfl ?_
            refine jv_getf dX8_culvert_78 jf_X8_113 (by repeat' (first | assumption | exact ⟨_, by assumption⟩ | refine jv_h1 (by decide) ?_ | refine jv_h0 ?_ | refine jv_h1 (by omega) ?_ | refine jv_hs ?_)) (by exact rfl) ?_
            refine jv_imul dX8_culvert_81 ?_
            refine jv_iconst dX8_culvert_82 ?_
            refine jv_iadd dX8_culvert_83 ?_
            refine jv_iload_n dX8_culvert_84 rfl ?_
            refine jv_iast dX8_culvert_85 (by repeat' (first | assumption | exact ⟨_, by assumption⟩ | refine jv_h1 (by decide) ?_ | refine jv_h0 ?_ | refine jv_h1 (by omega) ?_ | refine jv_hs ?_)) ?_
            refine jv_aload_n dX8_culvert_86 rfl ?_
            refine jv_getf dX8_culvert_87 jf_X8_25 (by repeat' (first | assumption | exact ⟨_, by assumption⟩ | refine jv_h1 (by decide) ?_ | refine jv_h0 ?_ | refine jv_h1 (by omega) ?_ | refine jv_hs ?_)) (by exact rfl) ?_
            refine jv_iconst dX8_culvert_90 ?_
            refine jv_aload_n dX8_culvert_91 rfl ?_
            refine jv_getf dX8_culvert_92 jf_X8_113 (by repeat' (first | assumption | exact ⟨_, by assumption⟩ | refine jv_h1 (by decide) ?_ | refine jv_h0 ?_ | refine jv_h1 (by omega) ?_ | refine jv_hs ?_)) (by exact rfl) ?_
            refine jv_imul dX8_culvert_95 ?_
            refine jv_iconst dX8_culvert_96 ?_
            refine jv_iadd dX8_culvert_97 ?_
            refine jv_iload_n dX8_culvert_98 rfl ?_
            refine jv_iast dX8_culvert_99 (by repeat' (first | assumption | exact ⟨_, by assumption⟩ | refine jv_h1 (by decide) ?_ | refine jv_h0 ?_ | refine jv_h1 (by omega) ?_ | refine jv_hs ?_)) ?_
            refine jv_aload_n dX8_culvert_100 rfl ?_
            refine jv_getf dX8_culvert_101 jf_X8_25 (by repeat' (first | assumption | exact ⟨_, by assumption⟩ | refine jv_h1 (by decide) ?_ | refine jv_h0 ?_ | refine jv_h1 (by omega) ?_ | refine jv_hs ?_)) (by exact rfl) ?_
            refine jv_iconst dX8_culvert_104 ?_
            refine jv_aload_n dX8_culvert_105 rfl ?_
            refine jv_getf dX8_culvert_106 jf_X8_113 (by repeat' (first | assumption | exact ⟨_, by assumption⟩ | refine jv_h1 (by decide) ?_ | refine jv_h0 ?_ | refine jv_h1 (by omega) ?_ | refine jv_hs ?_)) (by exact rfl) ?_
            refine jv_imul dX8_culvert_109 ?_
            refine jv_iconst dX8_culvert_110 ?_
            refine jv_iadd dX8_culvert_111 ?_
            refine jv_iload dX8_culvert_112 rfl ?_
            refine jv_iast dX8_culvert_114 (by repeat' (first | assumption | exact ⟨_, by assumption⟩ | refine jv_h1 (by decide) ?_ | refine jv_h0 ?_ | refine jv_h1 (by omega) ?_ | refine jv_hs ?_)) ?_
            refine jv_aload_n dX8_culvert_115 rfl ?_
            refine jv_dup dX8_culvert_116 rfl ?_
            refine jv_getf dX8_culvert_117 jf_X8_113 (by repeat' (first | assumption | exact ⟨_, by assumption⟩ | refine jv_h1 (by decide) ?_ | refine jv_h0 ?_ | refine jv_h1 (by omega) ?_ | refine jv_hs ?_)) (by exact rfl) ?_
            refine jv_iconst dX8_culvert_120 ?_
            refine jv_iadd dX8_culvert_121 ?_
            refine jv_putf dX8_culvert_122 jp_X8_113 (by repeat' (first | assumption | exact ⟨_, by assumption⟩ | refine jv_h1 (by decide) ?_ | refine jv_h0 ?_ | refine jv_h1 (by omega) ?_ | refine jv_hs ?_)) (by exact Nat.le_of_ble_eq_true rfl) ?_
            refine jv_aload_n dX8_culvert_125 rfl ?_
            refine jv_getf dX8_culvert_126 jf_X8_113 (by repeat' (first | assumption | exact ⟨_, by assumption⟩ | refine jv_h1 (by decide) ?_ | refine jv_h0 ?_ | refine jv_h1 (by omega) ?_ | refine jv_hs ?_)) (by exact rfl) ?_
            refine jv_iconst dX8_culvert_129 ?_
            refine jv_isub dX8_culvert_130 ?_
            rw [show (n : Int) + 1 - 1 = n by omega]
            exact jv_iret dX8_culvert_131 hq (hp1 (by omega) _ (by repeat' (first | assumption | exact ⟨_, by assumption⟩ | refine jv_h1 (by decide) ?_ | refine jv_h0 ?_ | refine jv_h1 (by omega) ?_ | refine jv_hs ?_)) (by repeat' (first | assumption | exact ⟨_, by assumption⟩ | refine jv_h1 (by decide) ?_ | refine jv_h0 ?_ | refine jv_h1 (by omega) ?_ | refine jv_hs ?_)) (jv_fs_set (by decide) (jv_fs_set (by decide) (jv_fs_set (by decide) (jv_fs_set (by decide) (jv_fs_set (by decide) jv_fs_rf)))))) (by first | rfl | decide)
          · refine jv_iconst dX8_culvert_58 ?_
            exact jv_iret dX8_culvert_59 hq (hp2 (by omega))
theorem ct_X8_isCulvert {c : Int} (K : Nat) (o : jw_O h rr lv n si st at_ wr da ra wa) (hn : n ≤ 8) (hc : jq_rg c) (hp : ∀ r : Int, (0 ≤ c ∧ c < n → r = 1) → (¬ (0 ≤ c ∧ c < n) → r = 0) → 0 ≤ r ∧ r ≤ 1 → post (some (.int (jv_i r))) h) : jv_Ct yX8_isCulvert cX8_isCulvert 2 (some .boolean) K [.ref 97, .int (jv_i c)] h post := by
  unfold jw_O at o
  unfold jq_rg at hc
  refine jv_entry (own := RX8) (by decide) rfl (Nat.le_of_ble_eq_true rfl) (fun X hq => ?_)
  refine jv_iload_n dX8_isCulvert_0 rfl ?_
  refine jv_if_lt 16 dX8_isCulvert_1 (fun c1 => ?_) (fun c1 => ?_)
  · refine jv_iconst dX8_isCulvert_16 ?_
    exact jv_iret dX8_isCulvert_17 hq (hp _ (by omega) (by omega) (by omega)) (by first | rfl | decide)
  · refine jv_iload_n dX8_isCulvert_4 rfl ?_
    refine jv_aload_n dX8_isCulvert_5 rfl ?_
    refine jv_getf dX8_isCulvert_6 jf_X8_113 (by repeat' (first | assumption | exact ⟨_, by assumption⟩ | refine jv_h1 (by decide) ?_ | refine jv_h0 ?_ | refine jv_h1 (by omega) ?_ | refine jv_hs ?_)) (by exact rfl) ?_
    refine jv_icmp_ge 16 dX8_isCulvert_9 (fun c9 => ?_) (fun c9 => ?_)
    · refine jv_iconst dX8_isCulvert_16 ?_
      exact jv_iret dX8_isCulvert_17 hq (hp _ (by omega) (by omega) (by omega)) (by first | rfl | decide)
    · refine jv_iconst dX8_isCulvert_12 ?_
      refine jv_goto 17 dX8_isCulvert_13 ?_
      exact jv_iret dX8_isCulvert_17 hq (hp _ (by omega) (by omega) (by omega)) (by first | rfl | decide)
theorem ct_X8_isWater {x : Int} (K : Nat) (hx : jq_rg x) (hp : ∀ r : Int, (0 ≤ x ∧ x ≤ 20000 → r = 1) → (¬ (0 ≤ x ∧ x ≤ 20000) → r = 0) → 0 ≤ r ∧ r ≤ 1 → post (some (.int (jv_i r))) h) : jv_Ct yX8_isWater cX8_isWater 1 (some .boolean) (K + 1) [.int (jv_i x)] h post := by
  unfold jq_rg at hx
  refine jv_entry (own := RX8) (by decide) rfl (Nat.le_of_ble_eq_true rfl) (fun X hq => ?_)
  refine jv_iload_n dX8_isWater_0 rfl ?_
  refine jv_i2l dX8_isWater_1 ?_
  refine jv_lconst 0 dX8_isWater_2 ?_
  refine jv_ldc2 dX8_isWater_3 jk_X8_156 ?_
  refine jv_cS dX8_isWater_6 jm_X8_64 (ct_X8_in K (fun r q1 q2 q3 => ?_))
  rcases (show r = 0 ∨ r = 1 by omega) with rfl | rfl
  · exact jv_iret dX8_isWater_9 hq (hp _ (by omega) (by omega) (by omega)) (by decide)
  · exact jv_iret dX8_isWater_9 hq (hp _ (by omega) (by omega) (by omega)) (by decide)
end MC
