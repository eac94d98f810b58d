/-! THE WAY: the face's and the reference's -/
def jq_okW (n mm : Int) : Prop := (-100000 ≤ mm ∧ mm ≤ 100000) ∧ n < 50
section WY
variable {h : List jv_E} {t d : Nat} {n : Int} {f : Int → Int} {post : Option Value → List jv_E → Prop}
theorem ct_X7_way {mm : Int} (K : Nat) (b : jw_B h t d) (w : jw_W h n f) (hn : 0 ≤ n ∧ n ≤ 50) (hm : jq_rg mm) (hp1 : jq_okW n mm → ∀ h', jw_W h' (n + 1) (jv_up f n mm) → jv_fr 95 96 h h' → post (some (.int (jv_i (n + 1)))) h') (hp2 : ¬ jq_okW n mm → post (some (.int (jv_i (-1)))) h) : jv_Ct yX7_way cX7_way 2 (some .int) (K + 1) [.ref 0, .int (jv_i mm)] h post := by
  unfold jw_B at b
  have w1 := w.1
  unfold jq_rg at hm
  unfold jq_okW at hp1 hp2
  refine jv_entry (own := RX7) (by decide) rfl (Nat.le_of_ble_eq_true rfl) (fun X hq => ?_)
  refine jv_iload_n dX7_way_0 rfl ?_
  refine jv_i2l dX7_way_1 ?_
  refine jv_ldc2 dX7_way_2 jk_X7_102 ?_
  refine jv_ldc2 dX7_way_5 jk_X7_69 ?_
  refine jv_cS dX7_way_8 jm_X7_63 (ct_X7_within K (fun r1 q11 q12 q13 => ?_))
  refine jv_if_eq 25 dX7_way_11 (fun c11 => ?_) (fun c11 => ?_)
  · refine jv_iconst dX7_way_25 ?_
    exact jv_iret dX7_way_26 hq (hp2 (by omega)) (by first | rfl | decide)
  · refine jv_aload_n dX7_way_14 rfl ?_
    refine jv_getf dX7_way_15 jf_X7_57 (by repeat' (first | assumption | exact ⟨_, by assumption⟩ | refine jv_h1 (by omega) ?_ | refine jv_h0 ?_ | refine jv_hs ?_)) (by exact rfl) ?_
    refine jv_iload_n dX7_way_18 rfl ?_
    refine jv_cV dX7_way_19 jm_X7_187 rfl (by repeat' (first | assumption | exact ⟨_, by assumption⟩ | refine jv_h1 (by omega) ?_ | refine jv_h0 ?_ | refine jv_hs ?_)) rfl (ct_X4_add K w hn (fun q h' w' fr => ?_) (fun q => ?_))
    · refine jv_goto 26 dX7_way_22 ?_
      exact jv_iret dX7_way_26 hq (hp1 (by omega) h' w' fr)
    · refine jv_goto 26 dX7_way_22 ?_
      exact jv_iret dX7_way_26 hq (hp2 (by omega))
theorem ct_X7_stops (K : Nat) (b : jw_B h t d) (w : jw_W h n f) (hn : 0 ≤ n ∧ n ≤ 50) (hf : ∀ i, -100000 ≤ f i ∧ f i ≤ 100000) (hp : post (some (.int (jv_i (jq_st f n 50 1)))) h) : jv_Ct yX7_stops cX7_stops 1 (some .int) (K + 1) [.ref 0] h post := by
  unfold jw_B at b
  have w1 := w.1
  refine jv_entry (own := RX7) (by decide) rfl (Nat.le_of_ble_eq_true rfl) (fun X hq => ?_)
  refine jv_aload_n dX7_stops_0 rfl ?_
  refine jv_getf dX7_stops_1 jf_X7_57 (by repeat' (first | assumption | exact ⟨_, by assumption⟩ | refine jv_h1 (by omega) ?_ | refine jv_h0 ?_ | refine jv_hs ?_)) (by exact rfl) ?_
  refine jv_cV dX7_stops_4 jm_X7_189 rfl (by repeat' (first | assumption | exact ⟨_, by assumption⟩ | refine jv_h1 (by omega) ?_ | refine jv_h0 ?_ | refine jv_hs ?_)) rfl (ct_X4_firstNotBelow K w hn hf ?_)
  exact jv_iret dX7_stops_7 hq (hp) (by first | rfl | decide)
end WY
section MW
variable {h : List jv_E} {rr lv cu si st at_ wr da ra n : Int} {f : Int → Int} {post : Option Value → List jv_E → Prop}
theorem ct_X8_way {mm : Int} (K : Nat) (o : jw_O h rr lv cu si st at_ wr da ra n) (w : h[114]? = some (jv_ai 50 f)) (hn : 0 ≤ n ∧ n ≤ 50) (hm : jq_rg mm) (hp1 : jq_okW n mm → ∀ h', jw_O h' rr lv cu si st at_ wr da ra (n + 1) → h'[114]? = some (jv_ai 50 (jv_up f n mm)) → jv_fs [97, 114] h h' → post (some (.int (jv_i (n + 1)))) h') (hp2 : ¬ jq_okW n mm → post (some (.int (jv_i (-1)))) h) : jv_Ct yX8_way cX8_way 2 (some .int) (K + 1) [.ref 97, .int (jv_i mm)] h post := by
  unfold jw_O at o
  unfold jq_rg at hm
  unfold jq_okW at hp1 hp2
  refine jv_entry (own := RX8) (by decide) rfl (Nat.le_of_ble_eq_true rfl) (fun X hq => ?_)
  refine jv_iload_n dX8_way_0 rfl ?_
  refine jv_i2l dX8_way_1 ?_
  refine jv_ldc2 dX8_way_2 jk_X8_94 ?_
  refine jv_ldc2 dX8_way_5 jk_X8_70 ?_
  refine jv_cS dX8_way_8 jm_X8_64 (ct_X8_in K (fun r1 q11 q12 q13 => ?_))
  refine jv_if_eq 23 dX8_way_11 (fun c11 => ?_) (fun c11 => ?_)
  · refine jv_iconst dX8_way_23 ?_
    exact jv_iret dX8_way_24 hq (hp2 (by omega))
  · refine jv_aload_n dX8_way_14 rfl ?_
    refine jv_getf dX8_way_15 jf_X8_192 (by repeat' (first | assumption | exact ⟨_, by assumption⟩ | refine jv_h1 (by omega) ?_ | refine jv_h0 ?_ | refine jv_hs ?_)) (by exact rfl) ?_
    refine jv_bipush dX8_way_18 ?_
    refine jv_icmp_ne 25 dX8_way_20 (fun c20 => ?_) (fun c20 => ?_)
    · refine jv_aload_n dX8_way_25 rfl ?_
      refine jv_getf dX8_way_26 jf_X8_59 (by repeat' (first | assumption | exact ⟨_, by assumption⟩ | refine jv_h1 (by omega) ?_ | refine jv_h0 ?_ | refine jv_hs ?_)) (by exact rfl) ?_
      refine jv_aload_n dX8_way_29 rfl ?_
      refine jv_getf dX8_way_30 jf_X8_192 (by repeat' (first | assumption | exact ⟨_, by assumption⟩ | refine jv_h1 (by omega) ?_ | refine jv_h0 ?_ | refine jv_hs ?_)) (by exact rfl) ?_
      refine jv_iload_n dX8_way_33 rfl ?_
      refine jv_iast dX8_way_34 (by repeat' (first | assumption | exact ⟨_, by assumption⟩ | refine jv_h1 (by omega) ?_ | refine jv_h0 ?_ | refine jv_hs ?_)) ?_
      refine jv_aload_n dX8_way_35 rfl ?_
      refine jv_dup dX8_way_36 rfl ?_
      refine jv_getf dX8_way_37 jf_X8_192 (by repeat' (first | assumption | exact ⟨_, by assumption⟩ | refine jv_h1 (by omega) ?_ | refine jv_h0 ?_ | refine jv_hs ?_)) (by exact rfl) ?_
      refine jv_iconst dX8_way_40 ?_
      refine jv_iadd dX8_way_41 ?_
      refine jv_putf dX8_way_42 jp_X8_192 (by repeat' (first | assumption | exact ⟨_, by assumption⟩ | refine jv_h1 (by omega) ?_ | refine jv_h0 ?_ | refine jv_hs ?_)) (by exact Nat.le_of_ble_eq_true rfl) ?_
      refine jv_aload_n dX8_way_45 rfl ?_
      refine jv_getf dX8_way_46 jf_X8_192 (by repeat' (first | assumption | exact ⟨_, by assumption⟩ | refine jv_h1 (by omega) ?_ | refine jv_h0 ?_ | refine jv_hs ?_)) (by exact rfl) ?_
      exact jv_iret dX8_way_49 hq (hp1 (by omega) _ (by repeat' (first | assumption | exact ⟨_, by assumption⟩ | refine jv_h1 (by omega) ?_ | refine jv_h0 ?_ | refine jv_hs ?_)) (by repeat' (first | assumption | exact ⟨_, by assumption⟩ | refine jv_h1 (by omega) ?_ | refine jv_h0 ?_ | refine jv_hs ?_)) (jv_fs_set (by decide) (jv_fs_set (by decide) jv_fs_rf))) (by first | rfl | decide)
    · refine jv_iconst dX8_way_23 ?_
      exact jv_iret dX8_way_24 hq (hp2 (by omega))
theorem ct_X8_stops (K : Nat) (o : jw_O h rr lv cu si st at_ wr da ra n) (w : h[114]? = some (jv_ai 50 f)) (hn : 0 ≤ n ∧ n ≤ 50) (hf : ∀ i, -100000 ≤ f i ∧ f i ≤ 100000) (hp : post (some (.int (jv_i (jq_st f n 50 1)))) h) : jv_Ct yX8_stops cX8_stops 2 (some .int) K [.ref 97] h post := by
  unfold jw_O at o
  refine jv_entry (own := RX8) (by decide) rfl (Nat.le_of_ble_eq_true rfl) (fun X hq => ?_)
  have loop : ∀ (k : Nat) (i : Int), 1 ≤ i → n ≤ i + k → i ≤ 51 → post (some (.int (jv_i (jq_st f n k i)))) h → jv_J X cX8_stops RX8 K 2 [some (.ref 97), some (.int (jv_i i))] [] h := by
    intro k
    induction k with
    | zero =>
      intro i h1 h2 h3 hp
      refine jv_iload_n dX8_stops_2 rfl ?_
      refine jv_aload_n dX8_stops_3 rfl ?_
      refine jv_getf dX8_stops_4 jf_X8_192 (by repeat' (first | assumption | exact ⟨_, by assumption⟩ | refine jv_h1 (by omega) ?_ | refine jv_h0 ?_ | refine jv_hs ?_)) (by exact rfl) ?_
      refine jv_icmp_ge 35 dX8_stops_7 (fun c7 => ?_) (fun c7 => ?_)
      · refine jv_iconst dX8_stops_35 ?_
        exact jv_iret dX8_stops_36 hq (hp) (by first | rfl | decide)
      · exact absurd c7 (by omega)
    | succ k ih =>
      intro i h1 h2 h3 hp
      rw [jq_st] at hp
      have q1 := hf i
      have q2 := hf (i - 1)
      refine jv_iload_n dX8_stops_2 rfl ?_
      refine jv_aload_n dX8_stops_3 rfl ?_
      refine jv_getf dX8_stops_4 jf_X8_192 (by repeat' (first | assumption | exact ⟨_, by assumption⟩ | refine jv_h1 (by omega) ?_ | refine jv_h0 ?_ | refine jv_hs ?_)) (by exact rfl) ?_
      refine jv_icmp_ge 35 dX8_stops_7 (fun c7 => ?_) (fun c7 => ?_)
      · refine jv_iconst dX8_stops_35 ?_
        exact jv_iret dX8_stops_36 hq (by rwa [if_pos c7] at hp)
      · refine jv_aload_n dX8_stops_10 rfl ?_
        refine jv_getf dX8_stops_11 jf_X8_59 (by repeat' (first | assumption | exact ⟨_, by assumption⟩ | refine jv_h1 (by omega) ?_ | refine jv_h0 ?_ | refine jv_hs ?_)) (by exact rfl) ?_
        refine jv_iload_n dX8_stops_14 rfl ?_
        refine jv_iald dX8_stops_15 (by repeat' (first | assumption | exact ⟨_, by assumption⟩ | refine jv_h1 (by omega) ?_ | refine jv_h0 ?_ | refine jv_hs ?_)) ?_
        refine jv_aload_n dX8_stops_16 rfl ?_
        refine jv_getf dX8_stops_17 jf_X8_59 (by repeat' (first | assumption | exact ⟨_, by assumption⟩ | refine jv_h1 (by omega) ?_ | refine jv_h0 ?_ | refine jv_hs ?_)) (by exact rfl) ?_
        refine jv_iload_n dX8_stops_20 rfl ?_
        refine jv_iconst dX8_stops_21 ?_
        refine jv_isub dX8_stops_22 ?_
        refine jv_iald dX8_stops_23 (by repeat' (first | assumption | exact ⟨_, by assumption⟩ | refine jv_h1 (by omega) ?_ | refine jv_h0 ?_ | refine jv_hs ?_)) ?_
        refine jv_icmp_lt 29 dX8_stops_24 (fun c24 => ?_) (fun c24 => ?_)
        · refine jv_iinc dX8_stops_29 rfl rfl ?_
          refine jv_goto 2 dX8_stops_32 ?_
          exact ih (i + 1) (by omega) (by omega) (by omega) (by rwa [if_neg (by omega), if_neg (by omega)] at hp)
        · refine jv_iload_n dX8_stops_27 rfl ?_
          exact jv_iret dX8_stops_28 hq (by rwa [if_neg (by omega), if_pos c24] at hp)
  refine jv_iconst dX8_stops_0 ?_
  refine jv_istore_n dX8_stops_1 rfl (Nat.le_of_ble_eq_true rfl) ?_
  exact loop 50 1 (by omega) (by omega) (by omega) hp
end MW
