/-! STATES TOLD (StateRows at place p): u states, t tests; ends, relations, factors, lows, highs -/
def jw_T (h : List jv_E) (p u t : Nat) (en rl lo hi : Int → Int) (F : Int → Int → Int) : Prop := h[p]? = some (jv_ob 6 [.ref (p + 1), .ref (p + 2), .ref (p + 3), .ref (p + 34), .ref (p + 35), .int (jv_i u), .int (jv_i t)]) ∧ h[p + 1]? = some (jv_ai 6 en) ∧ h[p + 2]? = some (jv_ac 30 rl) ∧ h[p + 3]? = some (jv_aq 30 (fun i => p + 4 + i.toNat)) ∧ h[p + 34]? = some (jv_al 6 lo) ∧ h[p + 35]? = some (jv_al 6 hi) ∧ ∀ i : Nat, i < 30 → h[p + 4 + i]? = some (jv_ai 8 (F i))
def jq_uF (F : Int → Int → Int) (t : Int) (r : Int → Int) : Int → Int → Int := fun g => if g = t then r else F g
theorem jw_T_row {h : List jv_E} {p u t : Nat} {en rl lo hi : Int → Int} {F : Int → Int → Int} {k : Nat} {r : Int → Int} (hk : k < 30) (w : ∀ i : Nat, i < 30 → h[p + 4 + i]? = some (jv_ai 8 (F i))) : ∀ i : Nat, i < 30 → (h.set (p + 4 + k) (jv_ai 8 r))[p + 4 + i]? = some (jv_ai 8 (jq_uF F k r i)) := fun i hi => by
  by_cases e : i = k
  · subst e
    rw [jq_uF, if_pos rfl]
    exact jv_h0 ⟨_, w i hi⟩
  · rw [jq_uF, if_neg (by omega)]
    exact jv_h1 (by omega) (w i hi)
theorem jq_uF_s (F : Int → Int → Int) (t : Int) (r : Int → Int) : jq_uF F t r t = r := if_pos rfl
theorem jq_uF_u (F : Int → Int → Int) (t : Int) (r r' : Int → Int) : jq_uF (jq_uF F t r) t r' = jq_uF F t r' := by
  funext g
  by_cases e : g = t <;> simp [jq_uF, e]
section ST
variable {h : List jv_E} {p u t : Nat} {en rl lo hi : Int → Int} {F : Int → Int → Int} {post : Option Value → List jv_E → Prop}
theorem ct_X6_size (K : Nat) (w : jw_T h p u t en rl lo hi F) (hp : post (some (.int (jv_i u))) h) : jv_Ct yX6_size cX6_size 1 (some .int) K [.ref p] h post := by
  obtain ⟨w1, w2, w3, w4, w5, w6, w7⟩ := w
  refine jv_entry (own := RX6) (by decide) rfl (Nat.le_of_ble_eq_true rfl) (fun X hq => ?_)
  refine jv_aload_n dX6_size_0 rfl ?_
  refine jv_getf dX6_size_1 jf_X6_31 (by repeat' (first | assumption | exact ⟨_, by assumption⟩ | refine jv_h1 (by decide) ?_ | refine jv_h0 ?_ | refine jv_h1 (by omega) ?_ | refine jv_hs ?_)) (by exact rfl) ?_
  exact jv_iret dX6_size_4 hq (hp) (by first | rfl | decide)
theorem ct_X6_clear (K : Nat) (w : jw_T h p u t en rl lo hi F) (hp : ∀ h', jw_T h' p 0 0 en rl lo hi F → jv_fr p (p + 35) h h' → post none h') : jv_Ct yX6_clear cX6_clear 1 none K [.ref p] h post := by
  obtain ⟨w1, w2, w3, w4, w5, w6, w7⟩ := w
  refine jv_entry (own := RX6) (by decide) rfl (Nat.le_of_ble_eq_true rfl) (fun X hq => ?_)
  refine jv_aload_n dX6_clear_0 rfl ?_
  refine jv_iconst dX6_clear_1 ?_
  refine jv_putf dX6_clear_2 jp_X6_31 (by repeat' (first | assumption | exact ⟨_, by assumption⟩ | refine jv_h1 (by decide) ?_ | refine jv_h0 ?_ | refine jv_h1 (by omega) ?_ | refine jv_hs ?_)) (by exact Nat.le_of_ble_eq_true rfl) ?_
  refine jv_aload_n dX6_clear_5 rfl ?_
  refine jv_iconst dX6_clear_6 ?_
  refine jv_putf dX6_clear_7 jp_X6_35 (by repeat' (first | assumption | exact ⟨_, by assumption⟩ | refine jv_h1 (by decide) ?_ | refine jv_h0 ?_ | refine jv_h1 (by omega) ?_ | refine jv_hs ?_)) (by exact Nat.le_of_ble_eq_true rfl) ?_
  exact jv_vret dX6_clear_10 hq (hp _ ⟨(by repeat' (first | assumption | exact ⟨_, by assumption⟩ | refine jv_h1 (by decide) ?_ | refine jv_h0 ?_ | refine jv_h1 (by omega) ?_ | refine jv_hs ?_)), (by repeat' (first | assumption | exact ⟨_, by assumption⟩ | refine jv_h1 (by decide) ?_ | refine jv_h0 ?_ | refine jv_h1 (by omega) ?_ | refine jv_hs ?_)), (by repeat' (first | assumption | exact ⟨_, by assumption⟩ | refine jv_h1 (by decide) ?_ | refine jv_h0 ?_ | refine jv_h1 (by omega) ?_ | refine jv_hs ?_)), (by repeat' (first | assumption | exact ⟨_, by assumption⟩ | refine jv_h1 (by decide) ?_ | refine jv_h0 ?_ | refine jv_h1 (by omega) ?_ | refine jv_hs ?_)), (by repeat' (first | assumption | exact ⟨_, by assumption⟩ | refine jv_h1 (by decide) ?_ | refine jv_h0 ?_ | refine jv_h1 (by omega) ?_ | refine jv_hs ?_)), (by repeat' (first | assumption | exact ⟨_, by assumption⟩ | refine jv_h1 (by decide) ?_ | refine jv_h0 ?_ | refine jv_h1 (by omega) ?_ | refine jv_hs ?_)), fun i hi => jv_h1 (by omega) (jv_h1 (by omega) (w7 i hi))⟩ (jv_fr_set (by omega) (jv_fr_set (by omega) jv_fr_rf)))
theorem ct_X6_endState (K : Nat) (w : jw_T h p u t en rl lo hi F) (hu : u < 6) (hp : ∀ h', jw_T h' p (u + 1) t (jv_up en u t) rl lo hi F → jv_fr p (p + 35) h h' → post none h') : jv_Ct yX6_endState cX6_endState 1 none K [.ref p] h post := by
  obtain ⟨w1, w2, w3, w4, w5, w6, w7⟩ := w
  refine jv_entry (own := RX6) (by decide) rfl (Nat.le_of_ble_eq_true rfl) (fun X hq => ?_)
  refine jv_aload_n dX6_endState_0 rfl ?_
  refine jv_getf dX6_endState_1 jf_X6_31 (by repeat' (first | assumption | exact ⟨_, by assumption⟩ | refine jv_h1 (by decide) ?_ | refine jv_h0 ?_ | refine jv_h1 (by omega) ?_ | refine jv_hs ?_)) (by exact rfl) ?_
  refine jv_bipush dX6_endState_4 ?_
  refine jv_icmp_ge 32 dX6_endState_6 (fun c6 => ?_) (fun c6 => ?_)
  · exact absurd c6 (by omega)
  · refine jv_aload_n dX6_endState_9 rfl ?_
    refine jv_getf dX6_endState_10 jf_X6_9 (by repeat' (first | assumption | exact ⟨_, by assumption⟩ | refine jv_h1 (by decide) ?_ | refine jv_h0 ?_ | refine jv_h1 (by omega) ?_ | refine jv_hs ?_)) (by exact rfl) ?_
    refine jv_aload_n dX6_endState_13 rfl ?_
    refine jv_getf dX6_endState_14 jf_X6_31 (by repeat' (first | assumption | exact ⟨_, by assumption⟩ | refine jv_h1 (by decide) ?_ | refine jv_h0 ?_ | refine jv_h1 (by omega) ?_ | refine jv_hs ?_)) (by exact rfl) ?_
    refine jv_aload_n dX6_endState_17 rfl ?_
    refine jv_getf dX6_endState_18 jf_X6_35 (by repeat' (first | assumption | exact ⟨_, by assumption⟩ | refine jv_h1 (by decide) ?_ | refine jv_h0 ?_ | refine jv_h1 (by omega) ?_ | refine jv_hs ?_)) (by exact rfl) ?_
    refine jv_iast dX6_endState_21 (by repeat' (first | assumption | exact ⟨_, by assumption⟩ | refine jv_h1 (by decide) ?_ | refine jv_h0 ?_ | refine jv_h1 (by omega) ?_ | refine jv_hs ?_)) ?_
    refine jv_aload_n dX6_endState_22 rfl ?_
    refine jv_dup dX6_endState_23 rfl ?_
    refine jv_getf dX6_endState_24 jf_X6_31 (by repeat' (first | assumption | exact ⟨_, by assumption⟩ | refine jv_h1 (by decide) ?_ | refine jv_h0 ?_ | refine jv_h1 (by omega) ?_ | refine jv_hs ?_)) (by exact rfl) ?_
    refine jv_iconst dX6_endState_27 ?_
    refine jv_iadd dX6_endState_28 ?_
    refine jv_putf dX6_endState_29 jp_X6_31 (by repeat' (first | assumption | exact ⟨_, by assumption⟩ | refine jv_h1 (by decide) ?_ | refine jv_h0 ?_ | refine jv_h1 (by omega) ?_ | refine jv_hs ?_)) (by exact Nat.le_of_ble_eq_true rfl) ?_
    exact jv_vret dX6_endState_32 hq (hp _ ⟨(by repeat' (first | assumption | exact ⟨_, by assumption⟩ | refine jv_h1 (by decide) ?_ | refine jv_h0 ?_ | refine jv_h1 (by omega) ?_ | refine jv_hs ?_)), (by repeat' (first | assumption | exact ⟨_, by assumption⟩ | refine jv_h1 (by decide) ?_ | refine jv_h0 ?_ | refine jv_h1 (by omega) ?_ | refine jv_hs ?_)), (by repeat' (first | assumption | exact ⟨_, by assumption⟩ | refine jv_h1 (by decide) ?_ | refine jv_h0 ?_ | refine jv_h1 (by omega) ?_ | refine jv_hs ?_)), (by repeat' (first | assumption | exact ⟨_, by assumption⟩ | refine jv_h1 (by decide) ?_ | refine jv_h0 ?_ | refine jv_h1 (by omega) ?_ | refine jv_hs ?_)), (by repeat' (first | assumption | exact ⟨_, by assumption⟩ | refine jv_h1 (by decide) ?_ | refine jv_h0 ?_ | refine jv_h1 (by omega) ?_ | refine jv_hs ?_)), (by repeat' (first | assumption | exact ⟨_, by assumption⟩ | refine jv_h1 (by decide) ?_ | refine jv_h0 ?_ | refine jv_h1 (by omega) ?_ | refine jv_hs ?_)), fun i hi => jv_h1 (by omega) (jv_h1 (by omega) (w7 i hi))⟩ (jv_fr_set (by omega) (jv_fr_set (by omega) jv_fr_rf)))
theorem ct_X6_endTest {c : Int} (K : Nat) (w : jw_T h p u t en rl lo hi F) (ht : t < 30) (hc : 0 ≤ c ∧ c ≤ 126) (hp : ∀ h', jw_T h' p u (t + 1) en (jv_up rl t c) lo hi F → jv_fr p (p + 35) h h' → post none h') : jv_Ct yX6_endTest cX6_endTest 2 none K [.ref p, .int (jv_i c)] h post := by
  obtain ⟨w1, w2, w3, w4, w5, w6, w7⟩ := w
  refine jv_entry (own := RX6) (by decide) rfl (Nat.le_of_ble_eq_true rfl) (fun X hq => ?_)
  refine jv_aload_n dX6_endTest_0 rfl ?_
  refine jv_getf dX6_endTest_1 jf_X6_35 (by repeat' (first | assumption | exact ⟨_, by assumption⟩ | refine jv_h1 (by decide) ?_ | refine jv_h0 ?_ | refine jv_h1 (by omega) ?_ | refine jv_hs ?_)) (by exact rfl) ?_
  refine jv_aload_n dX6_endTest_4 rfl ?_
  refine jv_getf dX6_endTest_5 jf_X6_15 (by repeat' (first | assumption | exact ⟨_, by assumption⟩ | refine jv_h1 (by decide) ?_ | refine jv_h0 ?_ | refine jv_h1 (by omega) ?_ | refine jv_hs ?_)) (by exact rfl) ?_
  refine jv_alen_c dX6_endTest_8 (by repeat' (first | assumption | exact ⟨_, by assumption⟩ | refine jv_h1 (by decide) ?_ | refine jv_h0 ?_ | refine jv_h1 (by omega) ?_ | refine jv_hs ?_)) ?_
  refine jv_icmp_ge 32 dX6_endTest_9 (fun c9 => ?_) (fun c9 => ?_)
  · exact absurd c9 (by omega)
  · refine jv_aload_n dX6_endTest_12 rfl ?_
    refine jv_getf dX6_endTest_13 jf_X6_15 (by repeat' (first | assumption | exact ⟨_, by assumption⟩ | refine jv_h1 (by decide) ?_ | refine jv_h0 ?_ | refine jv_h1 (by omega) ?_ | refine jv_hs ?_)) (by exact rfl) ?_
    refine jv_aload_n dX6_endTest_16 rfl ?_
    refine jv_getf dX6_endTest_17 jf_X6_35 (by repeat' (first | assumption | exact ⟨_, by assumption⟩ | refine jv_h1 (by decide) ?_ | refine jv_h0 ?_ | refine jv_h1 (by omega) ?_ | refine jv_hs ?_)) (by exact rfl) ?_
    refine jv_iload_n dX6_endTest_20 rfl ?_
    refine jv_cast dX6_endTest_21 (by repeat' (first | assumption | exact ⟨_, by assumption⟩ | refine jv_h1 (by decide) ?_ | refine jv_h0 ?_ | refine jv_h1 (by omega) ?_ | refine jv_hs ?_)) ?_
    refine jv_aload_n dX6_endTest_22 rfl ?_
    refine jv_dup dX6_endTest_23 rfl ?_
    refine jv_getf dX6_endTest_24 jf_X6_35 (by repeat' (first | assumption | exact ⟨_, by assumption⟩ | refine jv_h1 (by decide) ?_ | refine jv_h0 ?_ | refine jv_h1 (by omega) ?_ | refine jv_hs ?_)) (by exact rfl) ?_
    refine jv_iconst dX6_endTest_27 ?_
    refine jv_iadd dX6_endTest_28 ?_
    refine jv_putf dX6_endTest_29 jp_X6_35 (by repeat' (first | assumption | exact ⟨_, by assumption⟩ | refine jv_h1 (by decide) ?_ | refine jv_h0 ?_ | refine jv_h1 (by omega) ?_ | refine jv_hs ?_)) (by exact Nat.le_of_ble_eq_true rfl) ?_
    exact jv_vret dX6_endTest_32 hq (hp _ ⟨(by repeat' (first | assumption | exact ⟨_, by assumption⟩ | refine jv_h1 (by decide) ?_ | refine jv_h0 ?_ | refine jv_h1 (by omega) ?_ | refine jv_hs ?_)), (by repeat' (first | assumption | exact ⟨_, by assumption⟩ | refine jv_h1 (by decide) ?_ | refine jv_h0 ?_ | refine jv_h1 (by omega) ?_ | refine jv_hs ?_)), (by repeat' (first | assumption | exact ⟨_, by assumption⟩ | refine jv_h1 (by decide) ?_ | refine jv_h0 ?_ | refine jv_h1 (by omega) ?_ | refine jv_hs ?_)), (by repeat' (first | assumption | exact ⟨_, by assumption⟩ | refine jv_h1 (by decide) ?_ | refine jv_h0 ?_ | refine jv_h1 (by omega) ?_ | refine jv_hs ?_)), (by repeat' (first | assumption | exact ⟨_, by assumption⟩ | refine jv_h1 (by decide) ?_ | refine jv_h0 ?_ | refine jv_h1 (by omega) ?_ | refine jv_hs ?_)), (by repeat' (first | assumption | exact ⟨_, by assumption⟩ | refine jv_h1 (by decide) ?_ | refine jv_h0 ?_ | refine jv_h1 (by omega) ?_ | refine jv_hs ?_)), fun i hi => jv_h1 (by omega) (jv_h1 (by omega) (w7 i hi))⟩ (jv_fr_set (by omega) (jv_fr_set (by omega) jv_fr_rf)))
theorem ct_X6_addTerm {c v : Int} (K : Nat) (w : jw_T h p u t en rl lo hi F) (ht : t < 30) (hc : 0 ≤ c ∧ c < 8) (hp : ∀ h', jw_T h' p u t en rl lo hi (jq_uF F t (jv_up (F t) c (F t c + v))) → jv_fr p (p + 35) h h' → post none h') : jv_Ct yX6_addTerm cX6_addTerm 3 none K [.ref p, .int (jv_i c), .int (jv_i v)] h post := by
  obtain ⟨w1, w2, w3, w4, w5, w6, w7⟩ := w
  have rw0 : h[p + 4 + (t : Int).toNat]? = some (jv_ai 8 (F t)) := w7 t ht
  refine jv_entry (own := RX6) (by decide) rfl (Nat.le_of_ble_eq_true rfl) (fun X hq => ?_)
  refine jv_aload_n dX6_addTerm_0 rfl ?_
  refine jv_getf dX6_addTerm_1 jf_X6_35 (by repeat' (first | assumption | exact ⟨_, by assumption⟩ | refine jv_h1 (by decide) ?_ | refine jv_h0 ?_ | refine jv_h1 (by omega) ?_ | refine jv_hs ?_)) (by exact rfl) ?_
  refine jv_aload_n dX6_addTerm_4 rfl ?_
  refine jv_getf dX6_addTerm_5 jf_X6_21 (by repeat' (first | assumption | exact ⟨_, by assumption⟩ | refine jv_h1 (by decide) ?_ | refine jv_h0 ?_ | refine jv_h1 (by omega) ?_ | refine jv_hs ?_)) (by exact rfl) ?_
  refine jv_alen_q dX6_addTerm_8 (by repeat' (first | assumption | exact ⟨_, by assumption⟩ | refine jv_h1 (by decide) ?_ | refine jv_h0 ?_ | refine jv_h1 (by omega) ?_ | refine jv_hs ?_)) ?_
  refine jv_icmp_ge 38 dX6_addTerm_9 (fun c9 => ?_) (fun c9 => ?_)
  · exact absurd c9 (by omega)
  · refine jv_iconst dX6_addTerm_12 ?_
    refine jv_iload_n dX6_addTerm_13 rfl ?_
    refine jv_icmp_gt 38 dX6_addTerm_14 (fun c14 => ?_) (fun c14 => ?_)
    · exact absurd c14 (by omega)
    · refine jv_iload_n dX6_addTerm_17 rfl ?_
      refine jv_bipush dX6_addTerm_18 ?_
      refine jv_icmp_ge 38 dX6_addTerm_20 (fun c20 => ?_) (fun c20 => ?_)
      · exact absurd c20 (by omega)
      · refine jv_aload_n dX6_addTerm_23 rfl ?_
        refine jv_getf dX6_addTerm_24 jf_X6_21 (by repeat' (first | assumption | exact ⟨_, by assumption⟩ | refine jv_h1 (by decide) ?_ | refine jv_h0 ?_ | refine jv_h1 (by omega) ?_ | refine jv_hs ?_)) (by exact rfl) ?_
        refine jv_aload_n dX6_addTerm_27 rfl ?_
        refine jv_getf dX6_addTerm_28 jf_X6_35 (by repeat' (first | assumption | exact ⟨_, by assumption⟩ | refine jv_h1 (by decide) ?_ | refine jv_h0 ?_ | refine jv_h1 (by omega) ?_ | refine jv_hs ?_)) (by exact rfl) ?_
        refine jv_aald dX6_addTerm_31 (by repeat' (first | assumption | exact ⟨_, by assumption⟩ | refine jv_h1 (by decide) ?_ | refine jv_h0 ?_ | refine jv_h1 (by omega) ?_ | refine jv_hs ?_)) ?_
        refine jv_iload_n dX6_addTerm_32 rfl ?_
        refine jv_dup2 dX6_addTerm_33 rfl rfl ?_
        refine jv_iald dX6_addTerm_34 (by repeat' (first | assumption | exact ⟨_, by assumption⟩ | refine jv_h1 (by decide) ?_ | refine jv_h0 ?_ | refine jv_h1 (by omega) ?_ | refine jv_hs ?_)) ?_
        refine jv_iload_n dX6_addTerm_35 rfl ?_
        refine jv_iadd dX6_addTerm_36 ?_
        refine jv_iast dX6_addTerm_37 (by repeat' (first | assumption | exact ⟨_, by assumption⟩ | refine jv_h1 (by decide) ?_ | refine jv_h0 ?_ | refine jv_h1 (by omega) ?_ | refine jv_hs ?_)) ?_
        exact jv_vret dX6_addTerm_38 hq (hp _ ⟨(by repeat' (first | assumption | exact ⟨_, by assumption⟩ | refine jv_h1 (by decide) ?_ | refine jv_h0 ?_ | refine jv_h1 (by omega) ?_ | refine jv_hs ?_)), (by repeat' (first | assumption | exact ⟨_, by assumption⟩ | refine jv_h1 (by decide) ?_ | refine jv_h0 ?_ | refine jv_h1 (by omega) ?_ | refine jv_hs ?_)), (by repeat' (first | assumption | exact ⟨_, by assumption⟩ | refine jv_h1 (by decide) ?_ | refine jv_h0 ?_ | refine jv_h1 (by omega) ?_ | refine jv_hs ?_)), (by repeat' (first | assumption | exact ⟨_, by assumption⟩ | refine jv_h1 (by decide) ?_ | refine jv_h0 ?_ | refine jv_h1 (by omega) ?_ | refine jv_hs ?_)), (by repeat' (first | assumption | exact ⟨_, by assumption⟩ | refine jv_h1 (by decide) ?_ | refine jv_h0 ?_ | refine jv_h1 (by omega) ?_ | refine jv_hs ?_)), (by repeat' (first | assumption | exact ⟨_, by assumption⟩ | refine jv_h1 (by decide) ?_ | refine jv_h0 ?_ | refine jv_h1 (by omega) ?_ | refine jv_hs ?_)), jw_T_row (u := u) (t := t) (en := en) (rl := rl) (lo := lo) (hi := hi) ht w7⟩ (jv_fr_set (by omega) jv_fr_rf))
theorem ct_X6_beginTest (K : Nat) (w : jw_T h p u t en rl lo hi F) (ht : t < 30) (hp : ∀ h' r, (∀ c : Int, 0 ≤ c → c < 8 → r c = 0) → jw_T h' p u t en rl lo hi (jq_uF F t r) → jv_fr p (p + 35) h h' → post none h') : jv_Ct yX6_beginTest cX6_beginTest 2 none K [.ref p] h post := by
  refine jv_entry (own := RX6) (by decide) rfl (Nat.le_of_ble_eq_true rfl) (fun X hq => ?_)
  have loop : ∀ (k i : Nat) (h1 : List jv_E) (r : Int → Int), i + k = 8 → (∀ c : Int, 0 ≤ c → c < i → r c = 0) → jw_T h1 p u t en rl lo hi (jq_uF F t r) → jv_fr p (p + 35) h h1 → jv_J X cX6_beginTest RX6 K 14 [some (.ref p), some (.int (jv_i i))] [] h1 := by
    intro k
    induction k with
    | zero =>
      intro i h1 r e f w fr
      refine jv_iload_n dX6_beginTest_14 rfl ?_
      refine jv_bipush dX6_beginTest_15 ?_
      refine jv_icmp_ge 38 dX6_beginTest_17 (fun c17 => ?_) (fun c17 => ?_)
      · exact jv_vret dX6_beginTest_38 hq (hp h1 r (fun c z1 z2 => f c z1 (by omega)) w fr)
      · exact absurd c17 (by omega)
    | succ k ih =>
      intro i h1 r e f w fr
      obtain ⟨w1, w2, w3, w4, w5, w6, w7⟩ := w
      have rw0 : h1[p + 4 + (t : Int).toNat]? = some (jv_ai 8 (jq_uF F t r t)) := w7 t ht
      have w8 := jw_T_row (u := u) (t := t) (en := en) (rl := rl) (lo := lo) (hi := hi) (r := jv_up (jq_uF F t r t) i 0) ht w7
      rw [jq_uF_s, jq_uF_u] at w8
      rw [jq_uF_s] at rw0
      refine jv_iload_n dX6_beginTest_14 rfl ?_
      refine jv_bipush dX6_beginTest_15 ?_
      refine jv_icmp_ge 38 dX6_beginTest_17 (fun c17 => ?_) (fun c17 => ?_)
      · exact absurd c17 (by omega)
      · refine jv_aload_n dX6_beginTest_20 rfl ?_
        refine jv_getf dX6_beginTest_21 jf_X6_21 (by repeat' (first | assumption | exact ⟨_, by assumption⟩ | refine jv_h1 (by decide) ?_ | refine jv_h0 ?_ | refine jv_h1 (by omega) ?_ | refine jv_hs ?_)) (by exact rfl) ?_
        refine jv_aload_n dX6_beginTest_24 rfl ?_
        refine jv_getf dX6_beginTest_25 jf_X6_35 (by repeat' (first | assumption | exact ⟨_, by assumption⟩ | refine jv_h1 (by decide) ?_ | refine jv_h0 ?_ | refine jv_h1 (by omega) ?_ | refine jv_hs ?_)) (by exact rfl) ?_
        refine jv_aald dX6_beginTest_28 (by repeat' (first | assumption | exact ⟨_, by assumption⟩ | refine jv_h1 (by decide) ?_ | refine jv_h0 ?_ | refine jv_h1 (by omega) ?_ | refine jv_hs ?_)) ?_
        refine jv_iload_n dX6_beginTest_29 rfl ?_
        refine jv_iconst dX6_beginTest_30 ?_
        refine jv_iast dX6_beginTest_31 (by repeat' (first | assumption | exact ⟨_, by assumption⟩ | refine jv_h1 (by decide) ?_ | refine jv_h0 ?_ | refine jv_h1 (by omega) ?_ | refine jv_hs ?_)) ?_
        refine jv_iinc dX6_beginTest_32 rfl rfl ?_
        refine jv_goto 14 dX6_beginTest_35 ?_
        exact ih (i + 1) _ (jv_up r i 0) (by omega) (fun c z1 z2 => by by_cases e : c = i; rw [e, jv_up_s]; rw [jv_up_n _ e]; exact f c z1 (by omega)) ⟨(by repeat' (first | assumption | exact ⟨_, by assumption⟩ | refine jv_h1 (by decide) ?_ | refine jv_h0 ?_ | refine jv_h1 (by omega) ?_ | refine jv_hs ?_)), (by repeat' (first | assumption | exact ⟨_, by assumption⟩ | refine jv_h1 (by decide) ?_ | refine jv_h0 ?_ | refine jv_h1 (by omega) ?_ | refine jv_hs ?_)), (by repeat' (first | assumption | exact ⟨_, by assumption⟩ | refine jv_h1 (by decide) ?_ | refine jv_h0 ?_ | refine jv_h1 (by omega) ?_ | refine jv_hs ?_)), (by repeat' (first | assumption | exact ⟨_, by assumption⟩ | refine jv_h1 (by decide) ?_ | refine jv_h0 ?_ | refine jv_h1 (by omega) ?_ | refine jv_hs ?_)), (by repeat' (first | assumption | exact ⟨_, by assumption⟩ | refine jv_h1 (by decide) ?_ | refine jv_h0 ?_ | refine jv_h1 (by omega) ?_ | refine jv_hs ?_)), (by repeat' (first | assumption | exact ⟨_, by assumption⟩ | refine jv_h1 (by decide) ?_ | refine jv_h0 ?_ | refine jv_h1 (by omega) ?_ | refine jv_hs ?_)), w8⟩ (jv_fr_set (by omega) fr)
  have w9 := w
  obtain ⟨w1, w2, w3, w4, w5, w6, w7⟩ := w
  refine jv_aload_n dX6_beginTest_0 rfl ?_
  refine jv_getf dX6_beginTest_1 jf_X6_35 (by repeat' (first | assumption | exact ⟨_, by assumption⟩ | refine jv_h1 (by decide) ?_ | refine jv_h0 ?_ | refine jv_h1 (by omega) ?_ | refine jv_hs ?_)) (by exact rfl) ?_
  refine jv_aload_n dX6_beginTest_4 rfl ?_
  refine jv_getf dX6_beginTest_5 jf_X6_21 (by repeat' (first | assumption | exact ⟨_, by assumption⟩ | refine jv_h1 (by decide) ?_ | refine jv_h0 ?_ | refine jv_h1 (by omega) ?_ | refine jv_hs ?_)) (by exact rfl) ?_
  refine jv_alen_q dX6_beginTest_8 (by repeat' (first | assumption | exact ⟨_, by assumption⟩ | refine jv_h1 (by decide) ?_ | refine jv_h0 ?_ | refine jv_h1 (by omega) ?_ | refine jv_hs ?_)) ?_
  refine jv_icmp_ge 38 dX6_beginTest_9 (fun c9 => ?_) (fun c9 => ?_)
  · exact absurd c9 (by omega)
  · refine jv_iconst dX6_beginTest_12 ?_
    refine jv_istore_n dX6_beginTest_13 rfl (Nat.le_of_ble_eq_true rfl) ?_
    exact loop 8 0 h (F t) (by omega) (fun c z1 z2 => by omega) (by rw [show jq_uF F t (F t) = F from funext fun g => by by_cases e : g = t <;> simp [jq_uF, e]]; exact w9) jv_fr_rf
theorem ct_X6_spans {s x : Int} (K : Nat) (w : jw_T h p u t en rl lo hi F) (hs : 0 ≤ s ∧ s < 6) (hl : -9000000000000000000 ≤ lo s ∧ lo s ≤ 9000000000000000000) (hh : -9000000000000000000 ≤ hi s ∧ hi s ≤ 9000000000000000000) (hx : -9000000000000000000 ≤ x ∧ x ≤ 9000000000000000000) (hp : ∀ r : Int, (lo s ≤ x ∧ x ≤ hi s → r = 1) → (¬ (lo s ≤ x ∧ x ≤ hi s) → r = 0) → 0 ≤ r ∧ r ≤ 1 → post (some (.int (jv_i r))) h) : jv_Ct yX6_spans cX6_spans 4 (some .boolean) K [.ref p, .int (jv_i s), .long (jv_l x)] h post := by
  obtain ⟨w1, w2, w3, w4, w5, w6, w7⟩ := w
  refine jv_entry (own := RX6) (by decide) rfl (Nat.le_of_ble_eq_true rfl) (fun X hq => ?_)
  refine jv_aload_n dX6_spans_0 rfl ?_
  refine jv_getf dX6_spans_1 jf_X6_24 (by repeat' (first | assumption | exact ⟨_, by assumption⟩ | refine jv_h1 (by decide) ?_ | refine jv_h0 ?_ | refine jv_h1 (by omega) ?_ | refine jv_hs ?_)) (by exact rfl) ?_
  refine jv_iload_n dX6_spans_4 rfl ?_
  refine jv_lald dX6_spans_5 (by repeat' (first | assumption | exact ⟨_, by assumption⟩ | refine jv_h1 (by decide) ?_ | refine jv_h0 ?_ | refine jv_h1 (by omega) ?_ | refine jv_hs ?_)) ?_
  refine jv_lload_n dX6_spans_6 rfl ?_
  refine jv_lcmp_gt 26 dX6_spans_7 dX6_spans_8 (fun c7 => ?_) (fun c7 => ?_)
  · refine jv_iconst dX6_spans_26 ?_
    exact jv_iret dX6_spans_27 hq (hp _ (by omega) (by omega) (by omega)) (by first | rfl | decide)
  · refine jv_lload_n dX6_spans_11 rfl ?_
    refine jv_aload_n dX6_spans_12 rfl ?_
    refine jv_getf dX6_spans_13 jf_X6_28 (by repeat' (first | assumption | exact ⟨_, by assumption⟩ | refine jv_h1 (by decide) ?_ | refine jv_h0 ?_ | refine jv_h1 (by omega) ?_ | refine jv_hs ?_)) (by exact rfl) ?_
    refine jv_iload_n dX6_spans_16 rfl ?_
    refine jv_lald dX6_spans_17 (by repeat' (first | assumption | exact ⟨_, by assumption⟩ | refine jv_h1 (by decide) ?_ | refine jv_h0 ?_ | refine jv_h1 (by omega) ?_ | refine jv_hs ?_)) ?_
    refine jv_lcmp_gt 26 dX6_spans_18 dX6_spans_19 (fun c18 => ?_) (fun c18 => ?_)
    · refine jv_iconst dX6_spans_26 ?_
      exact jv_iret dX6_spans_27 hq (hp _ (by omega) (by omega) (by omega)) (by first | rfl | decide)
    · refine jv_iconst dX6_spans_22 ?_
      refine jv_goto 27 dX6_spans_23 ?_
      exact jv_iret dX6_spans_27 hq (hp _ (by omega) (by omega) (by omega)) (by first | rfl | decide)
end ST
