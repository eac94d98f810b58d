/-! SignReader.readTests, readStates -/
def jq_En (R : List (List (Int × List (Int × Int) × List (Int × Int)))) (en : Int → Int) : Prop := ∀ s : Nat, s < R.length → en s = ((R.take (s + 1)).flatten.length : Int)
theorem jq_En_add {R : List (List (Int × List (Int × Int) × List (Int × Int)))} {en : Int → Int} {q : List (Int × List (Int × Int) × List (Int × Int))} (h : jq_En R en) : jq_En (R ++ [q]) (jv_up en R.length ((R ++ [q]).flatten.length)) := fun s hs => by
  by_cases e : s = R.length
  · subst e
    rw [jv_up_s, List.take_of_length_le (by simp)]
  · have hl : s < R.length := by simp at hs; omega
    rw [jv_up_n _ (by omega), h s hl, List.take_append_of_le_length (by omega)]
section TS3
variable {h : List jv_E} {p u : Nat} {n a : Int} {sg en rl lo hi : Int → Int} {F : Int → Int → Int} {ts : List (Int × List (Int × Int) × List (Int × Int))} {post : Option Value → List jv_E → Prop}
theorem ct_X5_readTests (K : Nat) (hp17 : 17 ≤ p) (w : jw_S h n a sg) (wt : jw_T h p u ts.length en rl lo hi F) (hF : jq_Fo ts rl F) (hS : jq_S n sg) (ha : 0 ≤ a ∧ a ≤ n) (ht : ts.length + 5 ≤ 30) (hp1 : (jq_tt sg n 5 a).1 = true → ∀ h' rl' F', jw_S h' n (jq_tt sg n 5 a).2.1 sg → jw_T h' p u (ts ++ (jq_tt sg n 5 a).2.2).length en rl' lo hi F' → jq_Fo (ts ++ (jq_tt sg n 5 a).2.2) rl' F' → jv_fq p h h' → post (some (.int (jv_i 1))) h') (hp2 : (jq_tt sg n 5 a).1 = false → ∀ h' t' rl' F', t' ≤ 30 → jw_S h' n (jq_tt sg n 5 a).2.1 sg → jw_T h' p u t' en rl' lo hi F' → jv_fq p h h' → post (some (.int (jv_i 0))) h') : jv_Ct yX5_readTests cX5_readTests 3 (some .boolean) (K + 7) [.ref 15, .ref p] h post := by
  refine jv_entry (own := RX5) (by decide) rfl (Nat.le_of_ble_eq_true rfl) (fun X hq => ?_)
  have loop : ∀ (f i : Nat) (a1 : Int) (h1 : List jv_E) (ts : List (Int × List (Int × Int) × List (Int × Int))) (rl : Int → Int) (F : Int → Int → Int), i + f = 5 → ts.length + f ≤ 30 → 0 ≤ a1 ∧ a1 ≤ n → jw_S h1 n a1 sg → jw_T h1 p u ts.length en rl lo hi F → jq_Fo ts rl F → jv_fq p h h1 → ((jq_tt sg n f a1).1 = true → ∀ h' rl' F', jw_S h' n (jq_tt sg n f a1).2.1 sg → jw_T h' p u (ts ++ (jq_tt sg n f a1).2.2).length en rl' lo hi F' → jq_Fo (ts ++ (jq_tt sg n f a1).2.2) rl' F' → jv_fq p h h' → post (some (.int (jv_i 1))) h') → ((jq_tt sg n f a1).1 = false → ∀ h' t' rl' F', t' ≤ 30 → jw_S h' n (jq_tt sg n f a1).2.1 sg → jw_T h' p u t' en rl' lo hi F' → jv_fq p h h' → post (some (.int (jv_i 0))) h') → jv_J X cX5_readTests RX5 (K + 7) 2 [some (.ref 15), some (.ref p), some (.int (jv_i i))] [] h1 := by
    intro f
    induction f with
    | zero =>
      intro i a1 h1 ts rl F e ht ha1 w wt hF fr hp1 hp2
      have v1 := w.1
      refine jv_iload_n dX5_readTests_2 rfl ?_
      refine jv_iconst dX5_readTests_3 ?_
      refine jv_icmp_ge 44 dX5_readTests_4 (fun c4 => ?_) (fun c4 => ?_)
      · refine jv_aload_n dX5_readTests_44 rfl ?_
        refine jv_cV dX5_readTests_45 jm_X5_38 rfl (by repeat' (first | assumption | exact ⟨_, by assumption⟩ | refine jv_h1 (by decide) ?_ | refine jv_h0 ?_ | refine jv_h1 (by omega) ?_ | refine jv_hs ?_)) rfl (ct_X5_standAtOneTooMany (K + 5) w hS ha1 (fun h2 w2 fr2 => ?_))
        exact jv_iret dX5_readTests_48 hq (hp2 rfl h2 _ rl F (by omega) w2 (jw_T_fr wt hp17 fr2) (jv_fq_s fr fr2)) (by first | rfl | decide)
      · exact absurd c4 (by omega)
    | succ f ih =>
      intro i a1 h1 ts rl F e ht ha1 w wt hF fr hp1 hp2
      have v1 := w.1
      have i1 := jq_ts_in hS ha1
      obtain ⟨i2, i3, i4⟩ := jq_sK_in (sg := sg) i1
      have i5 := jq_sn_in hS (jq_sK sg n (jq_ts sg n a1).2.1)
      rw [jq_tt] at hp1 hp2
      refine jv_iload_n dX5_readTests_2 rfl ?_
      refine jv_iconst dX5_readTests_3 ?_
      refine jv_icmp_ge 44 dX5_readTests_4 (fun c4 => ?_) (fun c4 => ?_)
      · exact absurd c4 (by omega)
      · refine jv_aload_n dX5_readTests_7 rfl ?_
        refine jv_aload_n dX5_readTests_8 rfl ?_
        refine jv_cV dX5_readTests_9 jm_X5_42 rfl (by repeat' (first | assumption | exact ⟨_, by assumption⟩ | refine jv_h1 (by decide) ?_ | refine jv_h0 ?_ | refine jv_h1 (by omega) ?_ | refine jv_hs ?_)) rfl (ct_X5_readTest K hp17 w wt hS ha1 (by omega) (fun g h2 r w2 wt2 d2 b2 f2 => ?_) (fun g h2 r w2 wt2 f2 => ?_))
        · rw [if_pos g] at hp1 hp2
          have hF2 := jq_Fo_add (T := (jq_ts sg n a1).2.2) hF rfl d2 b2
          have wt3 : jw_T h2 p u (ts ++ [(jq_ts sg n a1).2.2]).length en (jv_up rl ts.length (jq_ts sg n a1).2.2.1) lo hi (jq_uF F ts.length r) := by rw [List.length_append]; exact wt2
          have v2 := w2.1
          refine jv_if_ne 17 dX5_readTests_12 (fun c12 => ?_) (fun c12 => ?_)
          · refine jv_aload_n dX5_readTests_17 rfl ?_
            refine jv_cV dX5_readTests_18 jm_X5_34 rfl (by repeat' (first | assumption | exact ⟨_, by assumption⟩ | refine jv_h1 (by decide) ?_ | refine jv_h0 ?_ | refine jv_h1 (by omega) ?_ | refine jv_hs ?_)) rfl (ct_X5_toNextSign (K + 6) w2 hS i1 (fun h5 w5 fr5 => ?_))
            have wt5 := jw_T_fr wt3 hp17 fr5
            have f5 := jv_fq_s (jv_fq_tr fr f2) fr5
            have v5 := w5.1
            have v6 := w5.2
            refine jv_bipush dX5_readTests_21 ?_
            refine jv_icmp_eq 28 dX5_readTests_23 (fun c23 => ?_) (fun c23 => ?_)
            · refine jv_aload_n dX5_readTests_28 rfl ?_
              refine jv_dup dX5_readTests_29 rfl ?_
              refine jv_getf dX5_readTests_30 jf_X5_19 (by repeat' (first | assumption | exact ⟨_, by assumption⟩ | refine jv_h1 (by decide) ?_ | refine jv_h0 ?_ | refine jv_h1 (by omega) ?_ | refine jv_hs ?_)) (by exact rfl) ?_
              refine jv_iconst dX5_readTests_33 ?_
              refine jv_iadd dX5_readTests_34 ?_
              refine jv_putf dX5_readTests_35 jp_X5_19 (by repeat' (first | assumption | exact ⟨_, by assumption⟩ | refine jv_h1 (by decide) ?_ | refine jv_h0 ?_ | refine jv_h1 (by omega) ?_ | refine jv_hs ?_)) (by exact Nat.le_of_ble_eq_true rfl) ?_
              refine jv_iinc dX5_readTests_38 rfl rfl ?_
              refine jv_goto 2 dX5_readTests_41 ?_
              rw [if_pos c23] at hp1 hp2
              refine ih (i + 1) (jq_sK sg n (jq_ts sg n a1).2.1 + 1) _ (ts ++ [(jq_ts sg n a1).2.2]) _ _ (by omega) (by simp; omega) (by have := i4 (by omega); omega) ⟨(by repeat' (first | assumption | exact ⟨_, by assumption⟩ | refine jv_h1 (by decide) ?_ | refine jv_h0 ?_ | refine jv_h1 (by omega) ?_ | refine jv_hs ?_)), (by repeat' (first | assumption | exact ⟨_, by assumption⟩ | refine jv_h1 (by decide) ?_ | refine jv_h0 ?_ | refine jv_h1 (by omega) ?_ | refine jv_hs ?_))⟩ (jw_T_fr wt5 hp17 (jv_fr_set (by omega) jv_fr_rf)) hF2 (jv_fq_s f5 (jv_fr_set (by omega) jv_fr_rf)) (fun q h' rl' F' q1 q2 q3 q4 => ?_) (fun q h' t' rl' F' q0 q1 q2 q3 => hp2 q h' t' rl' F' q0 q1 q2 q3)
              rw [List.append_assoc] at q2 q3
              exact hp1 q h' rl' F' q1 q2 q3 q4
            · refine jv_iconst dX5_readTests_26 ?_
              rw [if_neg c23] at hp1
              exact jv_iret dX5_readTests_27 hq (hp1 rfl h5 _ _ w5 wt5 hF2 f5) (by decide)
          · exact absurd c12 (by omega)
        · rw [if_neg (by rw [g]; decide)] at hp2
          refine jv_if_ne 17 dX5_readTests_12 (fun c => absurd rfl c) (fun c => ?_)
          refine jv_iconst dX5_readTests_15 ?_
          exact jv_iret dX5_readTests_16 hq (hp2 rfl h2 _ _ _ (by omega) w2 wt2 (jv_fq_tr fr f2)) (by decide)
  refine jv_iconst dX5_readTests_0 ?_
  refine jv_istore_n dX5_readTests_1 rfl (Nat.le_of_ble_eq_true rfl) ?_
  exact loop 5 0 a h ts rl F (by omega) ht ha w wt hF jv_fq_rf hp1 hp2
theorem ct_X5_readStates {t : Nat} (K : Nat) (hp17 : 17 ≤ p) (w : jw_S h n a sg) (wt : jw_T h p u t en rl lo hi F) (hS : jq_S n sg) (hp1 : (jq_ss sg n 6 0).1 = true → ∀ h' en' rl' F', jw_S h' n (jq_ss sg n 6 0).2.1 sg → jw_T h' p (jq_ss sg n 6 0).2.2.length (jq_ss sg n 6 0).2.2.flatten.length en' rl' lo hi F' → jq_Fo (jq_ss sg n 6 0).2.2.flatten rl' F' → jq_En (jq_ss sg n 6 0).2.2 en' → jv_fq p h h' → post (some (.int (jv_i 1))) h') (hp2 : (jq_ss sg n 6 0).1 = false → ∀ h' u' t' en' rl' F', u' ≤ 6 → t' ≤ 30 → jw_S h' n (jq_ss sg n 6 0).2.1 sg → jw_T h' p u' t' en' rl' lo hi F' → jv_fq p h h' → post (some (.int (jv_i 0))) h') : jv_Ct yX5_readStates cX5_readStates 4 (some .boolean) (K + 8) [.ref 15, .ref p] h post := by
  have hn := hS.1
  refine jv_entry (own := RX5) (by decide) rfl (Nat.le_of_ble_eq_true rfl) (fun X hq => ?_)
  have loop : ∀ (f i : Nat) (a1 : Int) (h1 : List jv_E) (R : List (List (Int × List (Int × Int) × List (Int × Int)))) (en rl : Int → Int) (F : Int → Int → Int), i + f = 6 → R.length = i → R.flatten.length ≤ 5 * i → 0 ≤ a1 ∧ a1 ≤ n → jw_S h1 n a1 sg → jw_T h1 p R.length R.flatten.length en rl lo hi F → jq_Fo R.flatten rl F → jq_En R en → jv_fq p h h1 → ((jq_ss sg n f a1).1 = true → ∀ h' en' rl' F', jw_S h' n (jq_ss sg n f a1).2.1 sg → jw_T h' p (R ++ (jq_ss sg n f a1).2.2).length (R ++ (jq_ss sg n f a1).2.2).flatten.length en' rl' lo hi F' → jq_Fo (R ++ (jq_ss sg n f a1).2.2).flatten rl' F' → jq_En (R ++ (jq_ss sg n f a1).2.2) en' → jv_fq p h h' → post (some (.int (jv_i 1))) h') → ((jq_ss sg n f a1).1 = false → ∀ h' u' t' en' rl' F', u' ≤ 6 → t' ≤ 30 → jw_S h' n (jq_ss sg n f a1).2.1 sg → jw_T h' p u' t' en' rl' lo hi F' → jv_fq p h h' → post (some (.int (jv_i 0))) h') → jv_J X cX5_readStates RX5 (K + 8) 11 [some (.ref 15), some (.ref p), some (.int (jv_i i)), none] [] h1 := by
    intro f
    induction f with
    | zero =>
      intro i a1 h1 R en rl F e eR eL ha1 w wt hF hE fr hp1 hp2
      have v1 := w.1
      refine jv_iload_n dX5_readStates_11 rfl ?_
      refine jv_bipush dX5_readStates_12 ?_
      refine jv_icmp_ge 66 dX5_readStates_14 (fun c14 => ?_) (fun c14 => ?_)
      · refine jv_aload_n dX5_readStates_66 rfl ?_
        refine jv_cV dX5_readStates_67 jm_X5_38 rfl (by repeat' (first | assumption | exact ⟨_, by assumption⟩ | refine jv_h1 (by decide) ?_ | refine jv_h0 ?_ | refine jv_h1 (by omega) ?_ | refine jv_hs ?_)) rfl (ct_X5_standAtOneTooMany (K + 6) w hS ha1 (fun h2 w2 fr2 => ?_))
        exact jv_iret dX5_readStates_70 hq (hp2 rfl h2 _ _ en rl F (by omega) (by omega) w2 (jw_T_fr wt hp17 fr2) (jv_fq_s fr fr2)) (by first | rfl | decide)
      · exact absurd c14 (by omega)
    | succ f ih =>
      intro i a1 h1 R en rl F e eR eL ha1 w wt hF hE fr hp1 hp2
      have v1 := w.1
      obtain ⟨i1, i6⟩ := jq_tt_in hS 5 a1 ha1
      obtain ⟨i2, i3, i4⟩ := jq_sK_in (sg := sg) i1
      have i5 := jq_sn_in hS (jq_sK sg n (jq_tt sg n 5 a1).2.1)
      rw [jq_ss] at hp1 hp2
      refine jv_iload_n dX5_readStates_11 rfl ?_
      refine jv_bipush dX5_readStates_12 ?_
      refine jv_icmp_ge 66 dX5_readStates_14 (fun c14 => ?_) (fun c14 => ?_)
      · exact absurd c14 (by omega)
      · refine jv_aload_n dX5_readStates_17 rfl ?_
        refine jv_aload_n dX5_readStates_18 rfl ?_
        refine jv_cV dX5_readStates_19 jm_X5_27 rfl (by repeat' (first | assumption | exact ⟨_, by assumption⟩ | refine jv_h1 (by decide) ?_ | refine jv_h0 ?_ | refine jv_h1 (by omega) ?_ | refine jv_hs ?_)) rfl (ct_X5_readTests K hp17 w wt hF hS ha1 (by omega) (fun g h2 rl2 F2 w2 wt2 hF2 f2 => ?_) (fun g h2 t2 rl2 F2 q0 w2 wt2 f2 => ?_))
        · rw [if_pos g] at hp1 hp2
          have v2 := w2.1
          have v0 := wt2.1
          refine jv_if_ne 27 dX5_readStates_22 (fun c22 => ?_) (fun c22 => ?_)
          · refine jv_aload_n dX5_readStates_27 rfl ?_
            refine jv_cV dX5_readStates_28 jm_X5_31 rfl (by repeat' (first | assumption | exact ⟨_, by assumption⟩ | refine jv_h1 (by decide) ?_ | refine jv_h0 ?_ | refine jv_h1 (by omega) ?_ | refine jv_hs ?_)) rfl (ct_X6_endState (K + 7) wt2 (by omega) (fun h3 wt3 fr3 => ?_))
            have w3 := jw_S_fr w2 hp17 fr3
            have f3 := jv_fq_t (jv_fq_tr fr f2) fr3
            have v3 := w3.1
            have fe : R.flatten ++ (jq_tt sg n 5 a1).2.2 = (R ++ [(jq_tt sg n 5 a1).2.2]).flatten := by simp
            rw [fe] at wt3 hF2
            have hE3 := jq_En_add (q := (jq_tt sg n 5 a1).2.2) hE
            have wt4 : jw_T h3 p (R ++ [(jq_tt sg n 5 a1).2.2]).length (R ++ [(jq_tt sg n 5 a1).2.2]).flatten.length (jv_up en R.length ((R ++ [(jq_tt sg n 5 a1).2.2]).flatten.length)) rl2 lo hi F2 := by rw [List.length_append]; exact wt3
            have l4 : (R ++ [(jq_tt sg n 5 a1).2.2]).flatten.length ≤ 5 * (i + 1) := by rw [← fe, List.length_append]; omega
            refine jv_aload_n dX5_readStates_31 rfl ?_
            refine jv_cV dX5_readStates_32 jm_X5_34 rfl (by repeat' (first | assumption | exact ⟨_, by assumption⟩ | refine jv_h1 (by decide) ?_ | refine jv_h0 ?_ | refine jv_h1 (by omega) ?_ | refine jv_hs ?_)) rfl (ct_X5_toNextSign (K + 7) w3 hS i1 (fun h5 w5 fr5 => ?_))
            have wt5 := jw_T_fr wt4 hp17 fr5
            have f5 := jv_fq_s f3 fr5
            have v5 := w5.1
            have v6 := w5.2
            refine jv_istore_n dX5_readStates_35 rfl (Nat.le_of_ble_eq_true rfl) ?_
            refine jv_iload_n dX5_readStates_36 rfl ?_
            refine jv_if_ne 42 dX5_readStates_37 (fun c37 => ?_) (fun c37 => ?_)
            · refine jv_iload_n dX5_readStates_42 rfl ?_
              refine jv_bipush dX5_readStates_43 ?_
              refine jv_icmp_eq 50 dX5_readStates_45 (fun c45 => ?_) (fun c45 => ?_)
              · refine jv_aload_n dX5_readStates_50 rfl ?_
                refine jv_dup dX5_readStates_51 rfl ?_
                refine jv_getf dX5_readStates_52 jf_X5_19 (by repeat' (first | assumption | exact ⟨_, by assumption⟩ | refine jv_h1 (by decide) ?_ | refine jv_h0 ?_ | refine jv_h1 (by omega) ?_ | refine jv_hs ?_)) (by exact rfl) ?_
                refine jv_iconst dX5_readStates_55 ?_
                refine jv_iadd dX5_readStates_56 ?_
                refine jv_putf dX5_readStates_57 jp_X5_19 (by repeat' (first | assumption | exact ⟨_, by assumption⟩ | refine jv_h1 (by decide) ?_ | refine jv_h0 ?_ | refine jv_h1 (by omega) ?_ | refine jv_hs ?_)) (by exact Nat.le_of_ble_eq_true rfl) ?_
                refine jv_iinc dX5_readStates_60 rfl rfl ?_
                refine jv_goto 11 dX5_readStates_63 ?_
                rw [if_neg c37, if_pos c45] at hp1 hp2
                refine jv_les (by repeat' (first | exact True.intro | exact rfl | apply And.intro)) (ih (i + 1) (jq_sK sg n (jq_tt sg n 5 a1).2.1 + 1) _ (R ++ [(jq_tt sg n 5 a1).2.2]) _ _ _ (by omega) (by simp; omega) l4 (by have := i4 (by omega); omega) ⟨(by repeat' (first | assumption | exact ⟨_, by assumption⟩ | refine jv_h1 (by decide) ?_ | refine jv_h0 ?_ | refine jv_h1 (by omega) ?_ | refine jv_hs ?_)), (by repeat' (first | assumption | exact ⟨_, by assumption⟩ | refine jv_h1 (by decide) ?_ | refine jv_h0 ?_ | refine jv_h1 (by omega) ?_ | refine jv_hs ?_))⟩ (jw_T_fr wt5 hp17 (jv_fr_set (by omega) jv_fr_rf)) hF2 hE3 (jv_fq_s f5 (jv_fr_set (by omega) jv_fr_rf)) (fun q h' en' rl' F' q1 q2 q3 q4 q5 => ?_) (fun q h' u' t' en' rl' F' q8 q0 q1 q2 q3 => hp2 q h' u' t' en' rl' F' q8 q0 q1 q2 q3))
                rw [List.append_assoc] at q2 q3 q4
                exact hp1 q h' en' rl' F' q1 q2 q3 q4 q5
              · refine jv_iconst dX5_readStates_48 ?_
                rw [if_neg c37, if_neg c45] at hp2
                exact jv_iret dX5_readStates_49 hq (hp2 rfl h5 _ _ _ _ _ (by simp; omega) (by omega) w5 wt5 f5) (by decide)
            · refine jv_iconst dX5_readStates_40 ?_
              rw [if_pos c37] at hp1
              exact jv_iret dX5_readStates_41 hq (hp1 rfl h5 _ _ _ w5 wt5 hF2 hE3 f5) (by decide)
          · exact absurd c22 (by omega)
        · rw [if_neg (by rw [g]; decide)] at hp2
          refine jv_if_ne 27 dX5_readStates_22 (fun c => absurd rfl c) (fun c => ?_)
          refine jv_iconst dX5_readStates_25 ?_
          exact jv_iret dX5_readStates_26 hq (hp2 rfl h2 _ _ _ _ _ (by omega) q0 w2 wt2 (jv_fq_tr fr f2)) (by decide)
  have v1 := w.1
  have v2 := w.2
  have v0 := wt.1
  refine jv_aload_n dX5_readStates_0 rfl ?_
  refine jv_iconst dX5_readStates_1 ?_
  refine jv_putf dX5_readStates_2 jp_X5_19 (by repeat' (first | assumption | exact ⟨_, by assumption⟩ | refine jv_h1 (by decide) ?_ | refine jv_h0 ?_ | refine jv_h1 (by omega) ?_ | refine jv_hs ?_)) (by exact Nat.le_of_ble_eq_true rfl) ?_
  refine jv_aload_n dX5_readStates_5 rfl ?_
  refine jv_cV dX5_readStates_6 jm_X5_22 rfl (by repeat' (first | assumption | exact ⟨_, by assumption⟩ | refine jv_h1 (by decide) ?_ | refine jv_h0 ?_ | refine jv_h1 (by omega) ?_ | refine jv_hs ?_)) rfl (ct_X6_clear K (jw_T_fr wt hp17 (jv_fr_set (by omega) jv_fr_rf)) (fun h2 wt2 fr2 => ?_))
  refine jv_iconst dX5_readStates_9 ?_
  refine jv_istore_n dX5_readStates_10 rfl (Nat.le_of_ble_eq_true rfl) ?_
  exact loop 6 0 0 h2 [] en rl F (by omega) rfl (by simp) (by omega) (jw_S_fr (⟨(by repeat' (first | assumption | exact ⟨_, by assumption⟩ | refine jv_h1 (by decide) ?_ | refine jv_h0 ?_ | refine jv_h1 (by omega) ?_ | refine jv_hs ?_)), (by repeat' (first | assumption | exact ⟨_, by assumption⟩ | refine jv_h1 (by decide) ?_ | refine jv_h0 ?_ | refine jv_h1 (by omega) ?_ | refine jv_hs ?_))⟩ : jw_S _ n 0 sg) hp17 fr2) wt2 (fun g T z => by simp at z) (fun s z => by simp at z) (jv_fq_t (jv_fq_s jv_fq_rf (jv_fr_set (by omega) jv_fr_rf)) fr2) hp1 hp2
end TS3
