/-! THE FACE'S POND, and the reference's -/
theorem jq_cc_top {n : Nat} {lv ar co : Int → Int} (hP : jq_P n lv ar co) (h1 : 1 ≤ n) : jq_cc n lv ar co (lv (n - 1)) = co (n - 1) := by
  have e : jq_lu lv (lv (n - 1)) n = n - 1 := jq_lu_un hP (by omega) (Or.inr (Int.le_refl _)) (fun q => by omega)
  unfold jq_cc
  rw [e]
  simp
theorem jq_lv9 {n : Nat} {lv ar co : Int → Int} (hP : jq_P n lv ar co) (q : 1 ≤ n) : lv 0 ≤ lv (n - 1) := by
  by_cases e : n = 1
  · subst e; exact Int.le_refl _
  · exact Int.le_of_lt (jq_srt2 hP (by omega) (by omega) (by omega))
def jw_MP (h : List jv_E) (lv ar : Int → Int) : Prop := h[101]? = some (jv_ai 20 lv) ∧ h[102]? = some (jv_ai 20 ar)
section PF
variable {h : List jv_E} {n t d : Nat} {lv ar co : Int → Int} {post : Option Value → List jv_E → Prop}
theorem ct_X7_level {mm a : Int} (K : Nat) (b : jw_B h t d) (w : jw_P h n lv ar co) (hP : jq_P n lv ar co) (hm : jq_rg mm) (ha : jq_rg a) (hp1 : jq_okP n lv ar mm a → ∀ h', jw_P h' (n + 1) (jv_up lv n mm) (jv_up ar n a) (jv_up co n (jq_nc n lv ar co mm a)) → jv_fr 5 8 h h' → post (some (.int (jv_i (n + 1)))) h') (hp2 : ¬ jq_okP n lv ar mm a → post (some (.int (jv_i (-1)))) h) : jv_Ct yX7_level cX7_level 3 (some .int) (K + 2) [.ref 0, .int (jv_i mm), .int (jv_i a)] h post := by
  unfold jw_B at b
  have w1 := w.1
  unfold jq_rg at hm ha
  refine jv_entry (own := RX7) (by decide) rfl (Nat.le_of_ble_eq_true rfl) (fun X hq => ?_)
  refine jv_iload_n dX7_level_0 rfl ?_
  refine jv_i2l dX7_level_1 ?_
  refine jv_ldc2 dX7_level_2 jk_X7_102 ?_
  refine jv_ldc2 dX7_level_5 jk_X7_69 ?_
  refine jv_cS dX7_level_8 jm_X7_63 (ct_X7_within K (fun r1 q11 q12 q13 => ?_))
  refine jv_if_eq 26 dX7_level_11 (fun c11 => ?_) (fun c11 => ?_)
  · refine jv_iconst dX7_level_26 ?_
    exact jv_iret dX7_level_27 hq (hp2 (fun z => by have z1 := z.1; have z2 := z.2.1; omega))
  · refine jv_iload_n dX7_level_14 rfl ?_
    refine jv_i2l dX7_level_15 ?_
    refine jv_lconst 0 dX7_level_16 ?_
    refine jv_ldc2 dX7_level_17 jk_X7_94 ?_
    refine jv_cS dX7_level_20 jm_X7_63 (ct_X7_within K (fun r2 q21 q22 q23 => ?_))
    refine jv_if_ne 28 dX7_level_23 (fun c23 => ?_) (fun c23 => ?_)
    · refine jv_aload_n dX7_level_28 rfl ?_
      refine jv_getf dX7_level_29 jf_X7_19 (by repeat' (first | assumption | exact ⟨_, by assumption⟩ | refine jv_h1 (by omega) ?_ | refine jv_h0 ?_ | refine jv_hs ?_)) (by exact rfl) ?_
      refine jv_iload_n dX7_level_32 rfl ?_
      refine jv_iload_n dX7_level_33 rfl ?_
      refine jv_cV dX7_level_34 jm_X7_104 rfl (by repeat' (first | assumption | exact ⟨_, by assumption⟩ | refine jv_h1 (by omega) ?_ | refine jv_h0 ?_ | refine jv_hs ?_)) rfl (ct_X2_add K w hP (by omega) (by omega) (fun q h' w' fr => ?_) (fun q => ?_))
      · exact jv_iret dX7_level_37 hq (hp1 q h' w' fr)
      · exact jv_iret dX7_level_37 hq (hp2 q)
    · refine jv_iconst dX7_level_26 ?_
      exact jv_iret dX7_level_27 hq (hp2 (fun z => by have z1 := z.1; have z2 := z.2.1; omega))
theorem ct_X7_area {mm : Int} (K : Nat) (b : jw_B h t d) (w : jw_P h n lv ar co) (hP : jq_P n lv ar co) (hm : jq_rg mm) (hp : ∀ r : Int, (jq_re n lv mm → r = jq_aa n lv ar mm) → (¬ jq_re n lv mm → r = -1) → post (some (.int (jv_i r))) h) : jv_Ct yX7_area cX7_area 2 (some .int) (K + 2) [.ref 0, .int (jv_i mm)] h post := by
  unfold jw_B at b
  have w1 := w.1
  refine jv_entry (own := RX7) (by decide) rfl (Nat.le_of_ble_eq_true rfl) (fun X hq => ?_)
  refine jv_aload_n dX7_area_0 rfl ?_
  refine jv_getf dX7_area_1 jf_X7_19 (by repeat' (first | assumption | exact ⟨_, by assumption⟩ | refine jv_h1 (by omega) ?_ | refine jv_h0 ?_ | refine jv_hs ?_)) (by exact rfl) ?_
  refine jv_iload_n dX7_area_4 rfl ?_
  refine jv_cV dX7_area_5 jm_X7_107 rfl (by repeat' (first | assumption | exact ⟨_, by assumption⟩ | refine jv_h1 (by omega) ?_ | refine jv_h0 ?_ | refine jv_hs ?_)) rfl (ct_X2_reaches K w hP hm (fun r q1 q2 q3 => ?_))
  refine jv_if_eq 22 dX7_area_8 (fun c8 => ?_) (fun c8 => ?_)
  · refine jv_iconst dX7_area_22 ?_
    exact jv_iret dX7_area_23 hq (hp _ (fun z => by have := q1 z; omega) (fun _ => rfl))
  · refine jv_aload_n dX7_area_11 rfl ?_
    refine jv_getf dX7_area_12 jf_X7_19 (by repeat' (first | assumption | exact ⟨_, by assumption⟩ | refine jv_h1 (by omega) ?_ | refine jv_h0 ?_ | refine jv_hs ?_)) (by exact rfl) ?_
    refine jv_iload_n dX7_area_15 rfl ?_
    have re : jq_re n lv mm := Classical.byContradiction (fun z => c8 (q2 z))
    refine jv_cV dX7_area_16 jm_X7_111 rfl (by repeat' (first | assumption | exact ⟨_, by assumption⟩ | refine jv_h1 (by omega) ?_ | refine jv_h0 ?_ | refine jv_hs ?_)) rfl (ct_X2_areaAt K w hP re hm ?_)
    refine jv_goto 23 dX7_area_19 ?_
    exact jv_iret dX7_area_23 hq (hp _ (fun _ => rfl) (fun z => absurd re z))
theorem ct_X7_content {mm : Int} (K : Nat) (b : jw_B h t d) (w : jw_P h n lv ar co) (hP : jq_P n lv ar co) (hm : jq_rg mm) (hp : ∀ r : Int, (jq_re n lv mm → r = jq_cc n lv ar co mm) → (¬ jq_re n lv mm → r = -1) → post (some (.long (jv_l r))) h) : jv_Ct yX7_content cX7_content 2 (some .long) (K + 3) [.ref 0, .int (jv_i mm)] h post := by
  unfold jw_B at b
  have w1 := w.1
  refine jv_entry (own := RX7) (by decide) rfl (Nat.le_of_ble_eq_true rfl) (fun X hq => ?_)
  refine jv_aload_n dX7_content_0 rfl ?_
  refine jv_getf dX7_content_1 jf_X7_19 (by repeat' (first | assumption | exact ⟨_, by assumption⟩ | refine jv_h1 (by omega) ?_ | refine jv_h0 ?_ | refine jv_hs ?_)) (by exact rfl) ?_
  refine jv_iload_n dX7_content_4 rfl ?_
  refine jv_cV dX7_content_5 jm_X7_107 rfl (by repeat' (first | assumption | exact ⟨_, by assumption⟩ | refine jv_h1 (by omega) ?_ | refine jv_h0 ?_ | refine jv_hs ?_)) rfl (ct_X2_reaches K w hP hm (fun r q1 q2 q3 => ?_))
  refine jv_if_eq 22 dX7_content_8 (fun c8 => ?_) (fun c8 => ?_)
  · refine jv_ldc2 dX7_content_22 jk_X7_78 ?_
    exact jv_lret dX7_content_25 hq (hp _ (fun z => by have := q1 z; omega) (fun _ => rfl))
  · refine jv_aload_n dX7_content_11 rfl ?_
    refine jv_getf dX7_content_12 jf_X7_19 (by repeat' (first | assumption | exact ⟨_, by assumption⟩ | refine jv_h1 (by omega) ?_ | refine jv_h0 ?_ | refine jv_hs ?_)) (by exact rfl) ?_
    refine jv_iload_n dX7_content_15 rfl ?_
    have re : jq_re n lv mm := Classical.byContradiction (fun z => c8 (q2 z))
    refine jv_cV dX7_content_16 jm_X7_114 rfl (by repeat' (first | assumption | exact ⟨_, by assumption⟩ | refine jv_h1 (by omega) ?_ | refine jv_h0 ?_ | refine jv_hs ?_)) rfl (ct_X2_contentAt K w hP re hm ?_)
    refine jv_goto 25 dX7_content_19 ?_
    exact jv_lret dX7_content_25 hq (hp _ (fun _ => rfl) (fun z => absurd re z))
theorem ct_X7_fill {wa : Int} (K : Nat) (b : jw_B h t d) (w : jw_P h n lv ar co) (hP : jq_P n lv ar co) (hw : -9223372036854775808 ≤ wa ∧ wa ≤ 9223372036854775807) (hp : post (some (.int (jv_i (jq_fil n lv ar co wa)))) h) : jv_Ct yX7_fill cX7_fill 3 (some .int) (K + 4) [.ref 0, .long (jv_l wa)] h post := by
  unfold jw_B at b
  have w1 := w.1
  refine jv_entry (own := RX7) (by decide) rfl (Nat.le_of_ble_eq_true rfl) (fun X hq => ?_)
  refine jv_aload_n dX7_fill_0 rfl ?_
  refine jv_getf dX7_fill_1 jf_X7_19 (by repeat' (first | assumption | exact ⟨_, by assumption⟩ | refine jv_h1 (by omega) ?_ | refine jv_h0 ?_ | refine jv_hs ?_)) (by exact rfl) ?_
  refine jv_lload_n dX7_fill_4 rfl ?_
  refine jv_cV dX7_fill_5 jm_X7_118 rfl (by repeat' (first | assumption | exact ⟨_, by assumption⟩ | refine jv_h1 (by omega) ?_ | refine jv_h0 ?_ | refine jv_hs ?_)) rfl (ct_X2_levelOf K w hP hw ?_)
  exact jv_iret dX7_fill_8 hq (hp) (by first | rfl | decide)
end PF
section MP
variable {h : List jv_E} {n : Nat} {rr cu si st at_ wr da ra wa : Int} {lv ar co : Int → Int} {post : Option Value → List jv_E → Prop}
theorem ct_X8_level {mm a : Int} (K : Nat) (o : jw_O h rr n cu si st at_ wr da ra wa) (w : jw_MP h lv ar) (hP : jq_P n lv ar co) (hm : jq_rg mm) (ha : jq_rg a) (hp1 : jq_okP n lv ar mm a → ∀ h', jw_O h' rr (n + 1) cu si st at_ wr da ra wa → jw_MP h' (jv_up lv n mm) (jv_up ar n a) → jv_fs [97, 101, 102] h h' → post (some (.int (jv_i (n + 1)))) h') (hp2 : ¬ jq_okP n lv ar mm a → post (some (.int (jv_i (-1)))) h) : jv_Ct yX8_level cX8_level 3 (some .int) (K + 1) [.ref 97, .int (jv_i mm), .int (jv_i a)] h post := by
  unfold jw_O at o
  obtain ⟨w1, w2⟩ := w
  have hn := hP.1
  have a1 := hP.2.1 (n - 1)
  unfold jq_rg at hm ha
  unfold jq_okP at hp1 hp2
  refine jv_entry (own := RX8) (by decide) rfl (Nat.le_of_ble_eq_true rfl) (fun X hq => ?_)
  refine jv_iload_n dX8_level_0 rfl ?_
  refine jv_i2l dX8_level_1 ?_
  refine jv_ldc2 dX8_level_2 jk_X8_94 ?_
  refine jv_ldc2 dX8_level_5 jk_X8_70 ?_
  refine jv_cS dX8_level_8 jm_X8_64 (ct_X8_in K (fun r1 q11 q12 q13 => ?_))
  refine jv_if_eq 35 dX8_level_11 (fun c11 => ?_) (fun c11 => ?_)
  · refine jv_iconst dX8_level_35 ?_
    exact jv_iret dX8_level_36 hq (hp2 (fun z => by omega))
  · refine jv_iload_n dX8_level_14 rfl ?_
    refine jv_i2l dX8_level_15 ?_
    refine jv_lconst 0 dX8_level_16 ?_
    refine jv_ldc2 dX8_level_17 jk_X8_76 ?_
    refine jv_cS dX8_level_20 jm_X8_64 (ct_X8_in K (fun r2 q21 q22 q23 => ?_))
    refine jv_if_eq 35 dX8_level_23 (fun c23 => ?_) (fun c23 => ?_)
    · refine jv_iconst dX8_level_35 ?_
      exact jv_iret dX8_level_36 hq (hp2 (fun z => by omega))
    · refine jv_aload_n dX8_level_26 rfl ?_
      refine jv_getf dX8_level_27 jf_X8_96 (by repeat' (first | assumption | exact ⟨_, by assumption⟩ | refine jv_h1 (by omega) ?_ | refine jv_h0 ?_ | refine jv_hs ?_)) (by exact rfl) ?_
      refine jv_bipush dX8_level_30 ?_
      refine jv_icmp_ne 37 dX8_level_32 (fun c32 => ?_) (fun c32 => ?_)
      · refine jv_aload_n dX8_level_37 rfl ?_
        refine jv_getf dX8_level_38 jf_X8_96 (by repeat' (first | assumption | exact ⟨_, by assumption⟩ | refine jv_h1 (by omega) ?_ | refine jv_h0 ?_ | refine jv_hs ?_)) (by exact rfl) ?_
        refine jv_if_le 76 dX8_level_41 (fun c41 => ?_) (fun c41 => ?_)
        · refine jv_aload_n dX8_level_76 rfl ?_
          refine jv_getf dX8_level_77 jf_X8_19 (by repeat' (first | assumption | exact ⟨_, by assumption⟩ | refine jv_h1 (by omega) ?_ | refine jv_h0 ?_ | refine jv_hs ?_)) (by exact rfl) ?_
          refine jv_aload_n dX8_level_80 rfl ?_
          refine jv_getf dX8_level_81 jf_X8_96 (by repeat' (first | assumption | exact ⟨_, by assumption⟩ | refine jv_h1 (by omega) ?_ | refine jv_h0 ?_ | refine jv_hs ?_)) (by exact rfl) ?_
          refine jv_iload_n dX8_level_84 rfl ?_
          refine jv_iast dX8_level_85 (by repeat' (first | assumption | exact ⟨_, by assumption⟩ | refine jv_h1 (by omega) ?_ | refine jv_h0 ?_ | refine jv_hs ?_)) ?_
          refine jv_aload_n dX8_level_86 rfl ?_
          refine jv_getf dX8_level_87 jf_X8_22 (by repeat' (first | assumption | exact ⟨_, by assumption⟩ | refine jv_h1 (by omega) ?_ | refine jv_h0 ?_ | refine jv_hs ?_)) (by exact rfl) ?_
          refine jv_aload_n dX8_level_90 rfl ?_
          refine jv_getf dX8_level_91 jf_X8_96 (by repeat' (first | assumption | exact ⟨_, by assumption⟩ | refine jv_h1 (by omega) ?_ | refine jv_h0 ?_ | refine jv_hs ?_)) (by exact rfl) ?_
          refine jv_iload_n dX8_level_94 rfl ?_
          refine jv_iast dX8_level_95 (by repeat' (first | assumption | exact ⟨_, by assumption⟩ | refine jv_h1 (by omega) ?_ | refine jv_h0 ?_ | refine jv_hs ?_)) ?_
          refine jv_aload_n dX8_level_96 rfl ?_
          refine jv_dup dX8_level_97 rfl ?_
          refine jv_getf dX8_level_98 jf_X8_96 (by repeat' (first | assumption | exact ⟨_, by assumption⟩ | refine jv_h1 (by omega) ?_ | refine jv_h0 ?_ | refine jv_hs ?_)) (by exact rfl) ?_
          refine jv_iconst dX8_level_101 ?_
          refine jv_iadd dX8_level_102 ?_
          refine jv_putf dX8_level_103 jp_X8_96 (by repeat' (first | assumption | exact ⟨_, by assumption⟩ | refine jv_h1 (by omega) ?_ | refine jv_h0 ?_ | refine jv_hs ?_)) (by exact Nat.le_of_ble_eq_true rfl) ?_
          refine jv_aload_n dX8_level_106 rfl ?_
          refine jv_getf dX8_level_107 jf_X8_96 (by repeat' (first | assumption | exact ⟨_, by assumption⟩ | refine jv_h1 (by omega) ?_ | refine jv_h0 ?_ | refine jv_hs ?_)) (by exact rfl) ?_
          exact jv_iret dX8_level_110 hq (hp1 (by omega) _ (by repeat' (first | assumption | exact ⟨_, by assumption⟩ | refine jv_h1 (by omega) ?_ | refine jv_h0 ?_ | refine jv_hs ?_)) ⟨(by repeat' (first | assumption | exact ⟨_, by assumption⟩ | refine jv_h1 (by omega) ?_ | refine jv_h0 ?_ | refine jv_hs ?_)), (by repeat' (first | assumption | exact ⟨_, by assumption⟩ | refine jv_h1 (by omega) ?_ | refine jv_h0 ?_ | refine jv_hs ?_))⟩ (jv_fs_set (by decide) (jv_fs_set (by decide) (jv_fs_set (by decide) jv_fs_rf)))) (by first | rfl | decide)
        · refine jv_iload_n dX8_level_44 rfl ?_
          refine jv_aload_n dX8_level_45 rfl ?_
          refine jv_getf dX8_level_46 jf_X8_19 (by repeat' (first | assumption | exact ⟨_, by assumption⟩ | refine jv_h1 (by omega) ?_ | refine jv_h0 ?_ | refine jv_hs ?_)) (by exact rfl) ?_
          refine jv_aload_n dX8_level_49 rfl ?_
          refine jv_getf dX8_level_50 jf_X8_96 (by repeat' (first | assumption | exact ⟨_, by assumption⟩ | refine jv_h1 (by omega) ?_ | refine jv_h0 ?_ | refine jv_hs ?_)) (by exact rfl) ?_
          refine jv_iconst dX8_level_53 ?_
          refine jv_isub dX8_level_54 ?_
          refine jv_iald dX8_level_55 (by repeat' (first | assumption | exact ⟨_, by assumption⟩ | refine jv_h1 (by omega) ?_ | refine jv_h0 ?_ | refine jv_hs ?_)) ?_
          refine jv_icmp_le 74 dX8_level_56 (fun c56 => ?_) (fun c56 => ?_)
          · refine jv_iconst dX8_level_74 ?_
            exact jv_iret dX8_level_75 hq (hp2 (fun z => by omega))
          · refine jv_iload_n dX8_level_59 rfl ?_
            refine jv_aload_n dX8_level_60 rfl ?_
            refine jv_getf dX8_level_61 jf_X8_22 (by repeat' (first | assumption | exact ⟨_, by assumption⟩ | refine jv_h1 (by omega) ?_ | refine jv_h0 ?_ | refine jv_hs ?_)) (by exact rfl) ?_
            refine jv_aload_n dX8_level_64 rfl ?_
            refine jv_getf dX8_level_65 jf_X8_96 (by repeat' (first | assumption | exact ⟨_, by assumption⟩ | refine jv_h1 (by omega) ?_ | refine jv_h0 ?_ | refine jv_hs ?_)) (by exact rfl) ?_
            refine jv_iconst dX8_level_68 ?_
            refine jv_isub dX8_level_69 ?_
            refine jv_iald dX8_level_70 (by repeat' (first | assumption | exact ⟨_, by assumption⟩ | refine jv_h1 (by omega) ?_ | refine jv_h0 ?_ | refine jv_hs ?_)) ?_
            refine jv_icmp_ge 76 dX8_level_71 (fun c71 => ?_) (fun c71 => ?_)
            · refine jv_aload_n dX8_level_76 rfl ?_
              refine jv_getf dX8_level_77 jf_X8_19 (by repeat' (first | assumption | exact ⟨_, by assumption⟩ | refine jv_h1 (by omega) ?_ | refine jv_h0 ?_ | refine jv_hs ?_)) (by exact rfl) ?_
              refine jv_aload_n dX8_level_80 rfl ?_
              refine jv_getf dX8_level_81 jf_X8_96 (by repeat' (first | assumption | exact ⟨_, by assumption⟩ | refine jv_h1 (by omega) ?_ | refine jv_h0 ?_ | refine jv_hs ?_)) (by exact rfl) ?_
              refine jv_iload_n dX8_level_84 rfl ?_
              refine jv_iast dX8_level_85 (by repeat' (first | assumption | exact ⟨_, by assumption⟩ | refine jv_h1 (by omega) ?_ | refine jv_h0 ?_ | refine jv_hs ?_)) ?_
              refine jv_aload_n dX8_level_86 rfl ?_
              refine jv_getf dX8_level_87 jf_X8_22 (by repeat' (first | assumption | exact ⟨_, by assumption⟩ | refine jv_h1 (by omega) ?_ | refine jv_h0 ?_ | refine jv_hs ?_)) (by exact rfl) ?_
              refine jv_aload_n dX8_level_90 rfl ?_
              refine jv_getf dX8_level_91 jf_X8_96 (by repeat' (first | assumption | exact ⟨_, by assumption⟩ | refine jv_h1 (by omega) ?_ | refine jv_h0 ?_ | refine jv_hs ?_)) (by exact rfl) ?_
              refine jv_iload_n dX8_level_94 rfl ?_
              refine jv_iast dX8_level_95 (by repeat' (first | assumption | exact ⟨_, by assumption⟩ | refine jv_h1 (by omega) ?_ | refine jv_h0 ?_ | refine jv_hs ?_)) ?_
              refine jv_aload_n dX8_level_96 rfl ?_
              refine jv_dup dX8_level_97 rfl ?_
              refine jv_getf dX8_level_98 jf_X8_96 (by repeat' (first | assumption | exact ⟨_, by assumption⟩ | refine jv_h1 (by omega) ?_ | refine jv_h0 ?_ | refine jv_hs ?_)) (by exact rfl) ?_
              refine jv_iconst dX8_level_101 ?_
              refine jv_iadd dX8_level_102 ?_
              refine jv_putf dX8_level_103 jp_X8_96 (by repeat' (first | assumption | exact ⟨_, by assumption⟩ | refine jv_h1 (by omega) ?_ | refine jv_h0 ?_ | refine jv_hs ?_)) (by exact Nat.le_of_ble_eq_true rfl) ?_
              refine jv_aload_n dX8_level_106 rfl ?_
              refine jv_getf dX8_level_107 jf_X8_96 (by repeat' (first | assumption | exact ⟨_, by assumption⟩ | refine jv_h1 (by omega) ?_ | refine jv_h0 ?_ | refine jv_hs ?_)) (by exact rfl) ?_
              exact jv_iret dX8_level_110 hq (hp1 (by omega) _ (by repeat' (first | assumption | exact ⟨_, by assumption⟩ | refine jv_h1 (by omega) ?_ | refine jv_h0 ?_ | refine jv_hs ?_)) ⟨(by repeat' (first | assumption | exact ⟨_, by assumption⟩ | refine jv_h1 (by omega) ?_ | refine jv_h0 ?_ | refine jv_hs ?_)), (by repeat' (first | assumption | exact ⟨_, by assumption⟩ | refine jv_h1 (by omega) ?_ | refine jv_h0 ?_ | refine jv_hs ?_))⟩ (jv_fs_set (by decide) (jv_fs_set (by decide) (jv_fs_set (by decide) jv_fs_rf)))) (by first | rfl | decide)
            · refine jv_iconst dX8_level_74 ?_
              exact jv_iret dX8_level_75 hq (hp2 (fun z => by omega))
      · refine jv_iconst dX8_level_35 ?_
        exact jv_iret dX8_level_36 hq (hp2 (fun z => by omega))
theorem ct_X8_below {mm : Int} (K : Nat) (o : jw_O h rr n cu si st at_ wr da ra wa) (w : jw_MP h lv ar) (hP : jq_P n lv ar co) (hm : jq_rg mm) (hp1 : jq_re n lv mm → post (some (.int (jv_i (jq_lu lv mm n)))) h) (hp2 : ¬ jq_re n lv mm → post (some (.int (jv_i (-1)))) h) : jv_Ct yX8_below cX8_below 3 (some .int) K [.ref 97, .int (jv_i mm)] h post := by
  unfold jw_O at o
  obtain ⟨w1, w2⟩ := w
  have hn := hP.1
  have a1 := (hP.2.1 0).1
  have a2 := (hP.2.1 (n - 1)).1
  unfold jq_rg at hm
  unfold jq_re at hp1 hp2
  refine jv_entry (own := RX8) (by decide) rfl (Nat.le_of_ble_eq_true rfl) (fun X hq => ?_)
  have loop : ∀ (f : Nat) (k : Int), (1 ≤ n ∧ lv 0 ≤ mm ∧ mm ≤ lv (n - 1)) → 0 ≤ k → k < n → n ≤ k + f → (k = 0 ∨ lv k ≤ mm) → jv_J X cX8_below RX8 K 36 [some (.ref 97), some (.int (jv_i mm)), some (.int (jv_i k))] [] h := by
    intro f
    induction f with
    | zero => intro k hr h0 h1 h2; omega
    | succ f ih =>
      intro k hr h0 h1 h2 h3
      have r1 := (hP.2.1 (k + 1)).1
      refine jv_iload_n dX8_below_36 rfl ?_
      refine jv_iconst dX8_below_37 ?_
      refine jv_iadd dX8_below_38 ?_
      refine jv_aload_n dX8_below_39 rfl ?_
      refine jv_getf dX8_below_40 jf_X8_96 (by repeat' (first | assumption | exact ⟨_, by assumption⟩ | refine jv_h1 (by omega) ?_ | refine jv_h0 ?_ | refine jv_hs ?_)) (by exact rfl) ?_
      refine jv_icmp_ge 64 dX8_below_43 (fun c43 => ?_) (fun c43 => ?_)
      · refine jv_iload_n dX8_below_64 rfl ?_
        exact jv_iret dX8_below_65 hq (by have := hp1 hr; rw [jq_lu_un hP ⟨h0, h1⟩ h3 (by omega)] at this; exact this)
      · refine jv_aload_n dX8_below_46 rfl ?_
        refine jv_getf dX8_below_47 jf_X8_19 (by repeat' (first | assumption | exact ⟨_, by assumption⟩ | refine jv_h1 (by omega) ?_ | refine jv_h0 ?_ | refine jv_hs ?_)) (by exact rfl) ?_
        refine jv_iload_n dX8_below_50 rfl ?_
        refine jv_iconst dX8_below_51 ?_
        refine jv_iadd dX8_below_52 ?_
        refine jv_iald dX8_below_53 (by repeat' (first | assumption | exact ⟨_, by assumption⟩ | refine jv_h1 (by omega) ?_ | refine jv_h0 ?_ | refine jv_hs ?_)) ?_
        refine jv_iload_n dX8_below_54 rfl ?_
        refine jv_icmp_gt 64 dX8_below_55 (fun c55 => ?_) (fun c55 => ?_)
        · refine jv_iload_n dX8_below_64 rfl ?_
          exact jv_iret dX8_below_65 hq (by have := hp1 hr; rw [jq_lu_un hP ⟨h0, h1⟩ h3 (fun _ => c55)] at this; exact this)
        · refine jv_iinc dX8_below_58 rfl rfl ?_
          refine jv_goto 36 dX8_below_61 ?_
          exact ih (k + 1) hr (by omega) (by omega) (by omega) (Or.inr c55)
  refine jv_aload_n dX8_below_0 rfl ?_
  refine jv_getf dX8_below_1 jf_X8_96 (by repeat' (first | assumption | exact ⟨_, by assumption⟩ | refine jv_h1 (by omega) ?_ | refine jv_h0 ?_ | refine jv_hs ?_)) (by exact rfl) ?_
  refine jv_if_eq 32 dX8_below_4 (fun c4 => ?_) (fun c4 => ?_)
  · refine jv_iconst dX8_below_32 ?_
    exact jv_iret dX8_below_33 hq (hp2 (by omega))
  · refine jv_iload_n dX8_below_7 rfl ?_
    refine jv_aload_n dX8_below_8 rfl ?_
    refine jv_getf dX8_below_9 jf_X8_19 (by repeat' (first | assumption | exact ⟨_, by assumption⟩ | refine jv_h1 (by omega) ?_ | refine jv_h0 ?_ | refine jv_hs ?_)) (by exact rfl) ?_
    refine jv_iconst dX8_below_12 ?_
    refine jv_iald dX8_below_13 (by repeat' (first | assumption | exact ⟨_, by assumption⟩ | refine jv_h1 (by omega) ?_ | refine jv_h0 ?_ | refine jv_hs ?_)) ?_
    refine jv_icmp_lt 32 dX8_below_14 (fun c14 => ?_) (fun c14 => ?_)
    · refine jv_iconst dX8_below_32 ?_
      exact jv_iret dX8_below_33 hq (hp2 (by omega))
    · refine jv_iload_n dX8_below_17 rfl ?_
      refine jv_aload_n dX8_below_18 rfl ?_
      refine jv_getf dX8_below_19 jf_X8_19 (by repeat' (first | assumption | exact ⟨_, by assumption⟩ | refine jv_h1 (by omega) ?_ | refine jv_h0 ?_ | refine jv_hs ?_)) (by exact rfl) ?_
      refine jv_aload_n dX8_below_22 rfl ?_
      refine jv_getf dX8_below_23 jf_X8_96 (by repeat' (first | assumption | exact ⟨_, by assumption⟩ | refine jv_h1 (by omega) ?_ | refine jv_h0 ?_ | refine jv_hs ?_)) (by exact rfl) ?_
      refine jv_iconst dX8_below_26 ?_
      refine jv_isub dX8_below_27 ?_
      refine jv_iald dX8_below_28 (by repeat' (first | assumption | exact ⟨_, by assumption⟩ | refine jv_h1 (by omega) ?_ | refine jv_h0 ?_ | refine jv_hs ?_)) ?_
      refine jv_icmp_le 34 dX8_below_29 (fun c29 => ?_) (fun c29 => ?_)
      · refine jv_iconst dX8_below_34 ?_
        refine jv_istore_n dX8_below_35 rfl (Nat.le_of_ble_eq_true rfl) ?_
        exact loop n 0 (by omega) (by omega) (by omega) (by omega) (Or.inl rfl)
      · refine jv_iconst dX8_below_32 ?_
        exact jv_iret dX8_below_33 hq (hp2 (by omega))
theorem ct_X8_area {mm : Int} (K : Nat) (o : jw_O h rr n cu si st at_ wr da ra wa) (w : jw_MP h lv ar) (hP : jq_P n lv ar co) (hm : jq_rg mm) (hp : ∀ r : Int, (jq_re n lv mm → r = jq_aa n lv ar mm) → (¬ jq_re n lv mm → r = -1) → post (some (.int (jv_i r))) h) : jv_Ct yX8_area cX8_area 4 (some .int) (K + 1) [.ref 97, .int (jv_i mm)] h post := by
  have o9 := o
  have w9 := w
  unfold jw_O at o
  obtain ⟨w1, w2⟩ := w
  have hn := hP.1
  have hm2 := hm
  unfold jq_rg at hm
  refine jv_entry (own := RX8) (by decide) rfl (Nat.le_of_ble_eq_true rfl) (fun X hq => ?_)
  refine jv_aload_n dX8_area_0 rfl ?_
  refine jv_iload_n dX8_area_1 rfl ?_
  refine jv_cV dX8_area_2 jm_X8_99 rfl (by repeat' (first | assumption | exact ⟨_, by assumption⟩ | refine jv_h1 (by omega) ?_ | refine jv_h0 ?_ | refine jv_hs ?_)) rfl (ct_X8_below K o9 w9 hP hm2 (fun hr => ?_) (fun hr => ?_))
  · obtain ⟨g1, g2, g3⟩ := jq_lu_at hP hr
    have s0 := hP.2.2.1 (jq_lu lv mm n) g1.1
    have a1 := hP.2.1 (jq_lu lv mm n)
    have a2 := hP.2.1 (jq_lu lv mm n + 1)
    have hp := fun r q => hp r q (fun z => absurd hr z)
    have z3 := hr.2.2
    have a5 := (hP.2.1 (n - 1)).1
    unfold jq_aa at hp
    generalize jq_lu lv mm n = k at *
    refine jv_istore_n dX8_area_5 rfl (Nat.le_of_ble_eq_true rfl) ?_
    refine jv_iload_n dX8_area_6 rfl ?_
    refine jv_iconst dX8_area_7 ?_
    refine jv_icmp_ne 13 dX8_area_8 (fun c8 => ?_) (fun c8 => ?_)
    · refine jv_iload_n dX8_area_13 rfl ?_
      refine jv_aload_n dX8_area_14 rfl ?_
      refine jv_getf dX8_area_15 jf_X8_19 (by repeat' (first | assumption | exact ⟨_, by assumption⟩ | refine jv_h1 (by omega) ?_ | refine jv_h0 ?_ | refine jv_hs ?_)) (by exact rfl) ?_
      refine jv_iload_n dX8_area_18 rfl ?_
      refine jv_iald dX8_area_19 (by repeat' (first | assumption | exact ⟨_, by assumption⟩ | refine jv_h1 (by omega) ?_ | refine jv_h0 ?_ | refine jv_hs ?_)) ?_
      refine jv_isub dX8_area_20 ?_
      refine jv_istore_n dX8_area_21 rfl (Nat.le_of_ble_eq_true rfl) ?_
      refine jv_iload_n dX8_area_22 rfl ?_
      refine jv_if_ne 35 dX8_area_23 (fun c23 => ?_) (fun c23 => ?_)
      · have lt : k + 1 < n := by
          rcases (show k + 1 < n ∨ n ≤ k + 1 by omega) with z | z
          · exact z
          · have e : k = n - 1 := by omega
            rw [← e] at z3
            omega
        have s1 := s0 lt
        have m1 := jq_mul (a := ar (k + 1) - ar k) (b := mm - lv k) (A := 1000000) (B := 200000) (by omega) (by have := g3 lt; omega)
        refine jv_aload_n dX8_area_35 rfl ?_
        refine jv_getf dX8_area_36 jf_X8_22 (by repeat' (first | assumption | exact ⟨_, by assumption⟩ | refine jv_h1 (by omega) ?_ | refine jv_h0 ?_ | refine jv_hs ?_)) (by exact rfl) ?_
        refine jv_iload_n dX8_area_39 rfl ?_
        refine jv_iald dX8_area_40 (by repeat' (first | assumption | exact ⟨_, by assumption⟩ | refine jv_h1 (by omega) ?_ | refine jv_h0 ?_ | refine jv_hs ?_)) ?_
        refine jv_aload_n dX8_area_41 rfl ?_
        refine jv_getf dX8_area_42 jf_X8_22 (by repeat' (first | assumption | exact ⟨_, by assumption⟩ | refine jv_h1 (by omega) ?_ | refine jv_h0 ?_ | refine jv_hs ?_)) (by exact rfl) ?_
        refine jv_iload_n dX8_area_45 rfl ?_
        refine jv_iconst dX8_area_46 ?_
        refine jv_iadd dX8_area_47 ?_
        refine jv_iald dX8_area_48 (by repeat' (first | assumption | exact ⟨_, by assumption⟩ | refine jv_h1 (by omega) ?_ | refine jv_h0 ?_ | refine jv_hs ?_)) ?_
        refine jv_aload_n dX8_area_49 rfl ?_
        refine jv_getf dX8_area_50 jf_X8_22 (by repeat' (first | assumption | exact ⟨_, by assumption⟩ | refine jv_h1 (by omega) ?_ | refine jv_h0 ?_ | refine jv_hs ?_)) (by exact rfl) ?_
        refine jv_iload_n dX8_area_53 rfl ?_
        refine jv_iald dX8_area_54 (by repeat' (first | assumption | exact ⟨_, by assumption⟩ | refine jv_h1 (by omega) ?_ | refine jv_h0 ?_ | refine jv_hs ?_)) ?_
        refine jv_isub dX8_area_55 ?_
        refine jv_i2l dX8_area_56 ?_
        refine jv_iload_n dX8_area_57 rfl ?_
        refine jv_i2l dX8_area_58 ?_
        refine jv_lmul dX8_area_59 ?_
        refine jv_aload_n dX8_area_60 rfl ?_
        refine jv_getf dX8_area_61 jf_X8_19 (by repeat' (first | assumption | exact ⟨_, by assumption⟩ | refine jv_h1 (by omega) ?_ | refine jv_h0 ?_ | refine jv_hs ?_)) (by exact rfl) ?_
        refine jv_iload_n dX8_area_64 rfl ?_
        refine jv_iconst dX8_area_65 ?_
        refine jv_iadd dX8_area_66 ?_
        refine jv_iald dX8_area_67 (by repeat' (first | assumption | exact ⟨_, by assumption⟩ | refine jv_h1 (by omega) ?_ | refine jv_h0 ?_ | refine jv_hs ?_)) ?_
        refine jv_aload_n dX8_area_68 rfl ?_
        refine jv_getf dX8_area_69 jf_X8_19 (by repeat' (first | assumption | exact ⟨_, by assumption⟩ | refine jv_h1 (by omega) ?_ | refine jv_h0 ?_ | refine jv_hs ?_)) (by exact rfl) ?_
        refine jv_iload_n dX8_area_72 rfl ?_
        refine jv_iald dX8_area_73 (by repeat' (first | assumption | exact ⟨_, by assumption⟩ | refine jv_h1 (by omega) ?_ | refine jv_h0 ?_ | refine jv_hs ?_)) ?_
        refine jv_isub dX8_area_74 ?_
        refine jv_i2l dX8_area_75 ?_
        refine jv_ldiv dX8_area_76 ?_
        refine jv_l2i dX8_area_77 ?_
        refine jv_iadd dX8_area_78 ?_
        exact jv_iret dX8_area_79 hq (hp _ (fun _ => by rw [if_neg (by omega)]))
      · refine jv_aload_n dX8_area_26 rfl ?_
        refine jv_getf dX8_area_27 jf_X8_22 (by repeat' (first | assumption | exact ⟨_, by assumption⟩ | refine jv_h1 (by omega) ?_ | refine jv_h0 ?_ | refine jv_hs ?_)) (by exact rfl) ?_
        refine jv_iload_n dX8_area_30 rfl ?_
        refine jv_iald dX8_area_31 (by repeat' (first | assumption | exact ⟨_, by assumption⟩ | refine jv_h1 (by omega) ?_ | refine jv_h0 ?_ | refine jv_hs ?_)) ?_
        refine jv_goto 79 dX8_area_32 ?_
        exact jv_iret dX8_area_79 hq (hp _ (fun _ => by
        split
        · rfl
        · rw [show mm - lv k = 0 by omega, Int.mul_zero, Int.zero_ediv, Int.add_zero]))
    · exact absurd c8 (by omega)
  · refine jv_istore_n dX8_area_5 rfl (Nat.le_of_ble_eq_true rfl) ?_
    refine jv_iload_n dX8_area_6 rfl ?_
    refine jv_iconst dX8_area_7 ?_
    refine jv_icmp_ne 13 dX8_area_8 (fun c8 => absurd rfl c8) (fun c8 => ?_)
    refine jv_iconst dX8_area_11 ?_
    exact jv_iret dX8_area_12 hq (hp _ (fun z => absurd z hr) (fun _ => rfl))
theorem ct_X8_content {mm : Int} (K : Nat) (o : jw_O h rr n cu si st at_ wr da ra wa) (w : jw_MP h lv ar) (hP : jq_P n lv ar co) (hm : jq_rg mm) (hp : ∀ r : Int, (jq_re n lv mm → r = jq_cc n lv ar co mm) → (¬ jq_re n lv mm → r = -1) → post (some (.long (jv_l r))) h) : jv_Ct yX8_content cX8_content 6 (some .long) (K + 2) [.ref 97, .int (jv_i mm)] h post := by
  have o9 := o
  have w9 := w
  unfold jw_O at o
  obtain ⟨w1, w2⟩ := w
  have hn := hP.1
  have hm2 := hm
  unfold jq_rg at hm
  have m5 : ∀ a b : Int, 5 * a * b = a * b * 5 := fun a b => by rw [Int.mul_assoc, Int.mul_comm]
  refine jv_entry (own := RX8) (by decide) rfl (Nat.le_of_ble_eq_true rfl) (fun X hq => ?_)
  have loop : ∀ (f : Nat) (i : Int), jq_re n lv mm → 0 ≤ i → jq_lu lv mm n = i + f → jv_J X cX8_content RX8 (K + 2) 20 [some (.ref 97), some (.int (jv_i mm)), some (.int (jv_i (jq_lu lv mm n))), some (.long (jv_l (co i))), none, some (.int (jv_i i))] [] h := by
    intro f
    induction f with
    | zero =>
      intro i hr h0 h1
      obtain ⟨g1, g2, g3⟩ := jq_lu_at hP hr
      have b1 := jq_aa_in hP hr
      have hp := hp (jq_cc n lv ar co mm) (fun _ => rfl) (fun z => absurd hr z)
      unfold jq_cc at hp
      rw [← m5] at hp
      have e : i = jq_lu lv mm n := by omega
      rw [e]
      have a1 := hP.2.1 (jq_lu lv mm n)
      have a3 := (hP.2.1 (n - 1)).1
      have a4 := hr.2.2
      refine jv_iload dX8_content_20 rfl ?_
      refine jv_iload_n dX8_content_22 rfl ?_
      refine jv_icmp_ge 76 dX8_content_23 (fun c23 => ?_) (fun c23 => ?_)
      · refine jv_lload_n dX8_content_76 rfl ?_
        refine jv_ldc2 dX8_content_77 jk_X8_103 ?_
        refine jv_aload_n dX8_content_80 rfl ?_
        refine jv_getf dX8_content_81 jf_X8_22 (by repeat' (first | assumption | exact ⟨_, by assumption⟩ | refine jv_h1 (by omega) ?_ | refine jv_h0 ?_ | refine jv_hs ?_)) (by exact rfl) ?_
        refine jv_iload_n dX8_content_84 rfl ?_
        refine jv_iald dX8_content_85 (by repeat' (first | assumption | exact ⟨_, by assumption⟩ | refine jv_h1 (by omega) ?_ | refine jv_h0 ?_ | refine jv_hs ?_)) ?_
        refine jv_aload_n dX8_content_86 rfl ?_
        refine jv_iload_n dX8_content_87 rfl ?_
        refine jv_cV dX8_content_88 jm_X8_105 rfl (by repeat' (first | assumption | exact ⟨_, by assumption⟩ | refine jv_h1 (by omega) ?_ | refine jv_h0 ?_ | refine jv_hs ?_)) rfl (ct_X8_area K o9 w9 hP hm2 (fun r q1 q2 => ?_))
        rw [q1 hr]
        refine jv_iadd dX8_content_91 ?_
        refine jv_i2l dX8_content_92 ?_
        refine jv_lmul dX8_content_93 ?_
        refine jv_iload_n dX8_content_94 rfl ?_
        refine jv_aload_n dX8_content_95 rfl ?_
        refine jv_getf dX8_content_96 jf_X8_19 (by repeat' (first | assumption | exact ⟨_, by assumption⟩ | refine jv_h1 (by omega) ?_ | refine jv_h0 ?_ | refine jv_hs ?_)) (by exact rfl) ?_
        refine jv_iload_n dX8_content_99 rfl ?_
        refine jv_iald dX8_content_100 (by repeat' (first | assumption | exact ⟨_, by assumption⟩ | refine jv_h1 (by omega) ?_ | refine jv_h0 ?_ | refine jv_hs ?_)) ?_
        refine jv_isub dX8_content_101 ?_
        refine jv_i2l dX8_content_102 ?_
        refine jv_lmul dX8_content_103 ?_
        refine jv_ladd dX8_content_104 ?_
        exact jv_lret dX8_content_105 hq (hp)
      · exact absurd c23 (by omega)
    | succ f ih =>
      intro i hr h0 h1
      obtain ⟨g1, g2, g3⟩ := jq_lu_at hP hr
      have a1 := hP.2.1 i
      have a2 := hP.2.1 (i + 1)
      have s0 := hP.2.2.1 i h0 (by omega)
      have nx := ih (i + 1) hr (by omega) (by omega)
      rw [s0.2.2, ← m5] at nx
      refine jv_iload dX8_content_20 rfl ?_
      refine jv_iload_n dX8_content_22 rfl ?_
      refine jv_icmp_ge 76 dX8_content_23 (fun c23 => ?_) (fun c23 => ?_)
      · exact absurd c23 (by omega)
      · refine jv_lload_n dX8_content_26 rfl ?_
        refine jv_ldc2 dX8_content_27 jk_X8_103 ?_
        refine jv_aload_n dX8_content_30 rfl ?_
        refine jv_getf dX8_content_31 jf_X8_22 (by repeat' (first | assumption | exact ⟨_, by assumption⟩ | refine jv_h1 (by omega) ?_ | refine jv_h0 ?_ | refine jv_hs ?_)) (by exact rfl) ?_
        refine jv_iload dX8_content_34 rfl ?_
        refine jv_iald dX8_content_36 (by repeat' (first | assumption | exact ⟨_, by assumption⟩ | refine jv_h1 (by omega) ?_ | refine jv_h0 ?_ | refine jv_hs ?_)) ?_
        refine jv_aload_n dX8_content_37 rfl ?_
        refine jv_getf dX8_content_38 jf_X8_22 (by repeat' (first | assumption | exact ⟨_, by assumption⟩ | refine jv_h1 (by omega) ?_ | refine jv_h0 ?_ | refine jv_hs ?_)) (by exact rfl) ?_
        refine jv_iload dX8_content_41 rfl ?_
        refine jv_iconst dX8_content_43 ?_
        refine jv_iadd dX8_content_44 ?_
        refine jv_iald dX8_content_45 (by repeat' (first | assumption | exact ⟨_, by assumption⟩ | refine jv_h1 (by omega) ?_ | refine jv_h0 ?_ | refine jv_hs ?_)) ?_
        refine jv_iadd dX8_content_46 ?_
        refine jv_i2l dX8_content_47 ?_
        refine jv_lmul dX8_content_48 ?_
        refine jv_aload_n dX8_content_49 rfl ?_
        refine jv_getf dX8_content_50 jf_X8_19 (by repeat' (first | assumption | exact ⟨_, by assumption⟩ | refine jv_h1 (by omega) ?_ | refine jv_h0 ?_ | refine jv_hs ?_)) (by exact rfl) ?_
        refine jv_iload dX8_content_53 rfl ?_
        refine jv_iconst dX8_content_55 ?_
        refine jv_iadd dX8_content_56 ?_
        refine jv_iald dX8_content_57 (by repeat' (first | assumption | exact ⟨_, by assumption⟩ | refine jv_h1 (by omega) ?_ | refine jv_h0 ?_ | refine jv_hs ?_)) ?_
        refine jv_aload_n dX8_content_58 rfl ?_
        refine jv_getf dX8_content_59 jf_X8_19 (by repeat' (first | assumption | exact ⟨_, by assumption⟩ | refine jv_h1 (by omega) ?_ | refine jv_h0 ?_ | refine jv_hs ?_)) (by exact rfl) ?_
        refine jv_iload dX8_content_62 rfl ?_
        refine jv_iald dX8_content_64 (by repeat' (first | assumption | exact ⟨_, by assumption⟩ | refine jv_h1 (by omega) ?_ | refine jv_h0 ?_ | refine jv_hs ?_)) ?_
        refine jv_isub dX8_content_65 ?_
        refine jv_i2l dX8_content_66 ?_
        refine jv_lmul dX8_content_67 ?_
        refine jv_ladd dX8_content_68 ?_
        refine jv_lstore_n dX8_content_69 rfl (Nat.le_of_ble_eq_true rfl) ?_
        refine jv_iinc dX8_content_70 rfl rfl ?_
        refine jv_goto 20 dX8_content_73 ?_
        exact nx
  refine jv_aload_n dX8_content_0 rfl ?_
  refine jv_iload_n dX8_content_1 rfl ?_
  refine jv_cV dX8_content_2 jm_X8_99 rfl (by repeat' (first | assumption | exact ⟨_, by assumption⟩ | refine jv_h1 (by omega) ?_ | refine jv_h0 ?_ | refine jv_hs ?_)) rfl (ct_X8_below (K + 1) o9 w9 hP hm2 (fun hr => ?_) (fun hr => ?_))
  · have e0 : co 0 = 0 := hP.2.2.2 (by have := hr.1; omega)
    obtain ⟨g1, g2, g3⟩ := jq_lu_at hP hr
    have lp := loop (jq_lu lv mm n).toNat 0 hr (by omega) (by omega)
    rw [e0] at lp
    refine jv_istore_n dX8_content_5 rfl (Nat.le_of_ble_eq_true rfl) ?_
    refine jv_iload_n dX8_content_6 rfl ?_
    refine jv_iconst dX8_content_7 ?_
    refine jv_icmp_ne 15 dX8_content_8 (fun c8 => ?_) (fun c8 => absurd c8 (by omega))
    refine jv_lconst 0 dX8_content_15 ?_
    refine jv_lstore_n dX8_content_16 rfl (Nat.le_of_ble_eq_true rfl) ?_
    refine jv_iconst dX8_content_17 ?_
    refine jv_istore dX8_content_18 rfl (Nat.le_of_ble_eq_true rfl) ?_
    exact lp
  · refine jv_istore_n dX8_content_5 rfl (Nat.le_of_ble_eq_true rfl) ?_
    refine jv_iload_n dX8_content_6 rfl ?_
    refine jv_iconst dX8_content_7 ?_
    refine jv_icmp_ne 15 dX8_content_8 (fun c8 => absurd rfl c8) (fun c8 => ?_)
    refine jv_ldc2 dX8_content_11 jk_X8_90 ?_
    exact jv_lret dX8_content_14 hq (hp _ (fun z => absurd z hr) (fun _ => rfl))
theorem ct_X8_fill {wt : Int} (K : Nat) (o : jw_O h rr n cu si st at_ wr da ra wa) (w : jw_MP h lv ar) (hP : jq_P n lv ar co) (hw : -9223372036854775808 ≤ wt ∧ wt ≤ 9223372036854775807) (hp : post (some (.int (jv_i (jq_fil n lv ar co wt)))) h) : jv_Ct yX8_fill cX8_fill 6 (some .int) (K + 3) [.ref 97, .long (jv_l wt)] h post := by
  have o9 := o
  have w9 := w
  unfold jw_O at o
  obtain ⟨w1, w2⟩ := w
  have hn := hP.1
  have a4 := (hP.2.1 0).1
  have a5 := (hP.2.1 (n - 1)).1
  refine jv_entry (own := RX8) (by decide) rfl (Nat.le_of_ble_eq_true rfl) (fun X hq => ?_)
  have loop : ∀ (k : Nat) (a b : Int), 1 ≤ n → lv 0 ≤ a → b ≤ lv (n - 1) → a ≤ b → b - a < 2 ^ k → post (some (.int (jv_i (jq_bs (jq_cc n lv ar co) wt k a b)))) h → jv_J X cX8_fill RX8 (K + 3) 56 [some (.ref 97), some (.long (jv_l wt)), none, some (.int (jv_i a)), some (.int (jv_i b)), none] [] h := by
    intro k
    induction k with
    | zero =>
      intro a b h2 h3 h4 h5 h6 hp
      have h7 : b - a < 1 := by simpa using h6
      refine jv_iload_n dX8_fill_56 rfl ?_
      refine jv_iload dX8_fill_57 rfl ?_
      refine jv_icmp_ge 100 dX8_fill_59 (fun c59 => ?_) (fun c59 => ?_)
      · refine jv_iload_n dX8_fill_100 rfl ?_
        exact jv_iret dX8_fill_101 hq (hp) (by first | rfl | decide)
      · exact absurd c59 (by omega)
    | succ k ih =>
      intro a b h2 h3 h4 h5 h6 hp
      rw [jq_bs] at hp
      have h7 : b - a < 2 * 2 ^ k := by rw [Int.pow_succ] at h6; omega
      generalize (2 : Int) ^ k = p at *
      refine jv_iload_n dX8_fill_56 rfl ?_
      refine jv_iload dX8_fill_57 rfl ?_
      refine jv_icmp_ge 100 dX8_fill_59 (fun c59 => ?_) (fun c59 => ?_)
      · refine jv_iload_n dX8_fill_100 rfl ?_
        exact jv_iret dX8_fill_101 hq (by rwa [if_neg (by omega)] at hp) (by first | rfl | decide)
      · refine jv_iload_n dX8_fill_62 rfl ?_
        refine jv_iload dX8_fill_63 rfl ?_
        refine jv_iload_n dX8_fill_65 rfl ?_
        refine jv_isub dX8_fill_66 ?_
        refine jv_iconst dX8_fill_67 ?_
        refine jv_iadd dX8_fill_68 ?_
        refine jv_iconst dX8_fill_69 ?_
        refine jv_idiv dX8_fill_70 ?_
        refine jv_iadd dX8_fill_71 ?_
        refine jv_istore dX8_fill_72 rfl (Nat.le_of_ble_eq_true rfl) ?_
        refine jv_aload_n dX8_fill_74 rfl ?_
        refine jv_iload dX8_fill_75 rfl ?_
        have re : jq_re n lv (a + (b - a + 1) / 2) := ⟨h2, by omega, by omega⟩
        have ci := jq_cc_in hP re
        refine jv_cV dX8_fill_77 jm_X8_108 rfl (by repeat' (first | assumption | exact ⟨_, by assumption⟩ | refine jv_h1 (by omega) ?_ | refine jv_h0 ?_ | refine jv_hs ?_)) rfl (ct_X8_content K o9 w9 hP (by unfold jq_rg; omega) (fun r q1 q2 => ?_))
        rw [q1 re]
        refine jv_lload_n dX8_fill_80 rfl ?_
        refine jv_lcmp_gt 91 dX8_fill_81 dX8_fill_82 (fun c81 => ?_) (fun c81 => ?_)
        · refine jv_iload dX8_fill_91 rfl ?_
          refine jv_iconst dX8_fill_93 ?_
          refine jv_isub dX8_fill_94 ?_
          refine jv_istore dX8_fill_95 rfl (Nat.le_of_ble_eq_true rfl) ?_
          refine jv_goto 56 dX8_fill_97 ?_
          exact jv_les (by repeat' (first | exact True.intro | exact rfl | apply And.intro)) (ih a _ h2 h3 (by omega) (by omega) (by omega) (by rwa [if_pos c59, if_neg (by omega)] at hp))
        · refine jv_iload dX8_fill_85 rfl ?_
          refine jv_istore_n dX8_fill_87 rfl (Nat.le_of_ble_eq_true rfl) ?_
          refine jv_goto 97 dX8_fill_88 ?_
          refine jv_goto 56 dX8_fill_97 ?_
          exact jv_les (by repeat' (first | exact True.intro | exact rfl | apply And.intro)) (ih _ b h2 (by omega) h4 (by omega) (by omega) (by rwa [if_pos c59, if_pos (by omega)] at hp))
  unfold jq_fil at hp
  have z0 : 1 ≤ n → 0 ≤ co (n - 1) ∧ co (n - 1) ≤ 40000000000000 := fun q => by
    have := jq_co_in hP (n - 1) (by omega)
    rw [show ((n - 1 : Nat) : Int) = (n : Int) - 1 by omega] at this
    omega
  refine jv_aload_n dX8_fill_0 rfl ?_
  refine jv_getf dX8_fill_1 jf_X8_96 (by repeat' (first | assumption | exact ⟨_, by assumption⟩ | refine jv_h1 (by omega) ?_ | refine jv_h0 ?_ | refine jv_hs ?_)) (by exact rfl) ?_
  refine jv_if_eq 33 dX8_fill_4 (fun c4 => ?_) (fun c4 => ?_)
  · refine jv_ldc dX8_fill_33 jk_X8_112 ?_
    exact jv_iret dX8_fill_35 hq (by rw [if_pos (by omega)] at hp; exact hp)
  · refine jv_lload_n dX8_fill_7 rfl ?_
    refine jv_lconst 0 dX8_fill_8 ?_
    refine jv_lcmp_lt 33 dX8_fill_9 dX8_fill_10 (fun c9 => ?_) (fun c9 => ?_)
    · refine jv_ldc dX8_fill_33 jk_X8_112 ?_
      exact jv_iret dX8_fill_35 hq (by rw [if_pos (by omega)] at hp; exact hp)
    · refine jv_lload_n dX8_fill_13 rfl ?_
      refine jv_aload_n dX8_fill_14 rfl ?_
      refine jv_aload_n dX8_fill_15 rfl ?_
      refine jv_getf dX8_fill_16 jf_X8_19 (by repeat' (first | assumption | exact ⟨_, by assumption⟩ | refine jv_h1 (by omega) ?_ | refine jv_h0 ?_ | refine jv_hs ?_)) (by exact rfl) ?_
      refine jv_aload_n dX8_fill_19 rfl ?_
      refine jv_getf dX8_fill_20 jf_X8_96 (by repeat' (first | assumption | exact ⟨_, by assumption⟩ | refine jv_h1 (by omega) ?_ | refine jv_h0 ?_ | refine jv_hs ?_)) (by exact rfl) ?_
      refine jv_iconst dX8_fill_23 ?_
      refine jv_isub dX8_fill_24 ?_
      refine jv_iald dX8_fill_25 (by repeat' (first | assumption | exact ⟨_, by assumption⟩ | refine jv_h1 (by omega) ?_ | refine jv_h0 ?_ | refine jv_hs ?_)) ?_
      have z1 := z0 (by omega)
      have z9 := jq_lv9 hP (by omega)
      refine jv_cV dX8_fill_26 jm_X8_108 rfl (by repeat' (first | assumption | exact ⟨_, by assumption⟩ | refine jv_h1 (by omega) ?_ | refine jv_h0 ?_ | refine jv_hs ?_)) rfl (ct_X8_content K o9 w9 hP (by unfold jq_rg; omega) (fun r q1 q2 => ?_))
      rw [q1 ⟨by omega, z9, Int.le_refl _⟩, jq_cc_top hP (by omega)]
      refine jv_lcmp_le 36 dX8_fill_29 dX8_fill_30 (fun c29 => ?_) (fun c29 => ?_)
      · refine jv_aload_n dX8_fill_36 rfl ?_
        refine jv_getf dX8_fill_37 jf_X8_19 (by repeat' (first | assumption | exact ⟨_, by assumption⟩ | refine jv_h1 (by omega) ?_ | refine jv_h0 ?_ | refine jv_hs ?_)) (by exact rfl) ?_
        refine jv_iconst dX8_fill_40 ?_
        refine jv_iald dX8_fill_41 (by repeat' (first | assumption | exact ⟨_, by assumption⟩ | refine jv_h1 (by omega) ?_ | refine jv_h0 ?_ | refine jv_hs ?_)) ?_
        refine jv_istore_n dX8_fill_42 rfl (Nat.le_of_ble_eq_true rfl) ?_
        refine jv_aload_n dX8_fill_43 rfl ?_
        refine jv_getf dX8_fill_44 jf_X8_19 (by repeat' (first | assumption | exact ⟨_, by assumption⟩ | refine jv_h1 (by omega) ?_ | refine jv_h0 ?_ | refine jv_hs ?_)) (by exact rfl) ?_
        refine jv_aload_n dX8_fill_47 rfl ?_
        refine jv_getf dX8_fill_48 jf_X8_96 (by repeat' (first | assumption | exact ⟨_, by assumption⟩ | refine jv_h1 (by omega) ?_ | refine jv_h0 ?_ | refine jv_hs ?_)) (by exact rfl) ?_
        refine jv_iconst dX8_fill_51 ?_
        refine jv_isub dX8_fill_52 ?_
        refine jv_iald dX8_fill_53 (by repeat' (first | assumption | exact ⟨_, by assumption⟩ | refine jv_h1 (by omega) ?_ | refine jv_h0 ?_ | refine jv_hs ?_)) ?_
        refine jv_istore dX8_fill_54 rfl (Nat.le_of_ble_eq_true rfl) ?_
        exact loop 20 _ _ (by omega) (by omega) (by omega) z9 (by omega) (by rw [if_neg (by omega)] at hp; exact hp)
      · refine jv_ldc dX8_fill_33 jk_X8_112 ?_
        exact jv_iret dX8_fill_35 hq (by rw [if_pos (by omega)] at hp; exact hp)
end MP
