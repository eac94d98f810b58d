/-! SignReader.readTerm -/
/-- nothing but the reader and the rows at p differs -/
def jv_fq (p : Nat) (h h' : List jv_E) : Prop := ∀ i, ¬ (15 ≤ i ∧ i ≤ 16) → ¬ (p ≤ i ∧ i ≤ p + 35) → h'[i]? = h[i]?
theorem jv_fq_rf {p : Nat} {h : List jv_E} : jv_fq p h h := fun _ _ _ => rfl
theorem jv_fq_s {p : Nat} {a b c : List jv_E} (f : jv_fq p a b) (g : jv_fr 15 16 b c) : jv_fq p a c := fun i z1 z2 => (g i (by omega)).trans (f i z1 z2)
theorem jv_fq_t {p : Nat} {a b c : List jv_E} (f : jv_fq p a b) (g : jv_fr p (p + 35) b c) : jv_fq p a c := fun i z1 z2 => (g i (by omega)).trans (f i z1 z2)
theorem jv_fq_tr {p : Nat} {a b c : List jv_E} (f : jv_fq p a b) (g : jv_fq p b c) : jv_fq p a c := fun i z1 z2 => (g i z1 z2).trans (f i z1 z2)
theorem jw_T_fr {h h' : List jv_E} {p u t : Nat} {en rl lo hi : Int → Int} {F : Int → Int → Int} (w : jw_T h p u t en rl lo hi F) (hp : 17 ≤ p) (f : jv_fr 15 16 h h') : jw_T h' p u t en rl lo hi F := by
  obtain ⟨w1, w2, w3, w4, w5, w6, w7⟩ := w
  refine ⟨?_, ?_, ?_, ?_, ?_, ?_, fun i hi => ?_⟩
  all_goals rw [f _ (by omega)]
  · exact w1
  · exact w2
  · exact w3
  · exact w4
  · exact w5
  · exact w6
  · exact w7 i hi
theorem jw_S_fr {h h' : List jv_E} {p : Nat} {n a : Int} {sg : Int → Int} (w : jw_S h n a sg) (hp : 17 ≤ p) (f : jv_fr p (p + 35) h h') : jw_S h' n a sg := by
  obtain ⟨w1, w2⟩ := w
  exact ⟨by rw [f _ (by omega)]; exact w1, by rw [f _ (by omega)]; exact w2⟩
def jq_co7 (c : Int) : Int := if 0 ≤ jq_lc c then jq_lc c else 7
section TR
variable {h : List jv_E} {p u t : Nat} {n a : Int} {sg en rl lo hi : Int → Int} {F : Int → Int → Int} {post : Option Value → List jv_E → Prop}
theorem ct_X5_readTerm {di : Int} (K : Nat) (hp17 : 17 ≤ p) (w : jw_S h n a sg) (wt : jw_T h p u t en rl lo hi F) (hS : jq_S n sg) (ha : 0 ≤ a ∧ a ≤ n) (ht : t < 30) (hd : di = 1 ∨ di = -1) (hp1 : jq_tk sg n a → ∀ h', jw_S h' n (jq_tp sg n a) sg → jw_T h' p u t en rl lo hi (jq_uF F t (jv_up (F t) (jq_co7 (jq_tc sg n a)) (F t (jq_co7 (jq_tc sg n a)) + di * jq_tv sg n a))) → jv_fq p h h' → post (some (.int (jv_i 1))) h') (hp2 : ¬ jq_tk sg n a → ∀ h', jw_S h' n (jq_tp sg n a) sg → jw_T h' p u t en rl lo hi F → jv_fq p h h' → post (some (.int (jv_i 0))) h') : jv_Ct yX5_readTerm cX5_readTerm 8 (some .boolean) (K + 4) [.ref 15, .ref p, .int (jv_i di)] h post := by
  have hn := hS.1
  obtain ⟨i1, i2, i3, i4, i5, i6⟩ := jq_t_in hS ha
  have ic := jq_lc_il (jq_tc sg n a)
  have ir : -1 ≤ jq_tv sg n a ∧ jq_tv sg n a ≤ 99999 := jq_nr_in (sg := sg) (n := n) (b := jq_tb sg n a) (by omega)
  unfold jq_tk at hp1 hp2
  unfold jq_tp at hp1 hp2
  refine jv_entry (own := RX5) (by decide) rfl (Nat.le_of_ble_eq_true rfl) (fun X hq => ?_)
  have m89 : ∀ (nb le : Int) (h1 : List jv_E), (le = 1 ∧ 0 ≤ jq_lc (jq_tc sg n a) ∨ le = 0 ∧ jq_lc (jq_tc sg n a) < 0) → ((jq_DC sg n (jq_tb sg n a) ≠ 0 ∨ 0 ≤ jq_lc (jq_tc sg n a)) ∧ jq_tv sg n a ≠ -1 ∧ ¬ (0 ≤ jq_lc (jq_tc sg n a) ∧ jq_tv sg n a = 0)) → jw_S h1 n (jq_te sg n a) sg → jw_T h1 p u t en rl lo hi F → jv_fq p h h1 → jv_J X cX5_readTerm RX5 (K + 4) 89 [some (.ref 15), some (.ref p), some (.int (jv_i di)), some (.int (jv_i (jq_tb sg n a))), some (.int (jv_i (jq_tv sg n a))), some (.int (jv_i nb)), some (.int (jv_i (jq_lc (jq_tc sg n a)))), some (.int (jv_i le))] [] h1 := by
    intro nb le h1 hl hk w wt fr
    have hp1 := hp1 hk
    rw [if_pos hk] at hp1
    unfold jq_co7 at hp1
    have wt1 := wt.1
    refine jv_aload_n dX5_readTerm_89 rfl ?_
    refine jv_iload dX5_readTerm_90 rfl ?_
    refine jv_if_eq 100 dX5_readTerm_92 (fun c92 => ?_) (fun c92 => ?_)
    · refine jv_bipush dX5_readTerm_100 ?_
      refine jv_iload_n dX5_readTerm_102 rfl ?_
      refine jv_iload dX5_readTerm_103 rfl ?_
      refine jv_imul dX5_readTerm_105 ?_
      refine jv_cV dX5_readTerm_106 jm_X5_71 rfl (by repeat' (first | assumption | exact ⟨_, by assumption⟩ | refine jv_h1 (by decide) ?_ | refine jv_h0 ?_ | refine jv_h1 (by omega) ?_ | refine jv_hs ?_)) rfl (ct_X6_addTerm (K + 3) wt ht (by omega) (fun h2 wt2 fr2 => ?_))
      have w2 := jw_S_fr w hp17 fr2
      rw [if_neg (by omega), if_neg (by omega)] at hp1
      have v1 := w2.1
      refine jv_iload dX5_readTerm_109 rfl ?_
      refine jv_if_eq 124 dX5_readTerm_111 (fun c111 => ?_) (fun c111 => ?_)
      · refine jv_iconst dX5_readTerm_124 ?_
        exact jv_iret dX5_readTerm_125 hq (hp1 h2 w2 wt2 (jv_fq_t fr fr2)) (by decide)
      · refine jv_aload_n dX5_readTerm_114 rfl ?_
        refine jv_dup dX5_readTerm_115 rfl ?_
        refine jv_getf dX5_readTerm_116 jf_X5_19 (by repeat' (first | assumption | exact ⟨_, by assumption⟩ | refine jv_h1 (by decide) ?_ | refine jv_h0 ?_ | refine jv_h1 (by omega) ?_ | refine jv_hs ?_)) (by exact rfl) ?_
        refine jv_iconst dX5_readTerm_119 ?_
        refine jv_iadd dX5_readTerm_120 ?_
        refine jv_putf dX5_readTerm_121 jp_X5_19 (by repeat' (first | assumption | exact ⟨_, by assumption⟩ | refine jv_h1 (by decide) ?_ | refine jv_h0 ?_ | refine jv_h1 (by omega) ?_ | refine jv_hs ?_)) (by exact Nat.le_of_ble_eq_true rfl) ?_
        refine jv_iconst dX5_readTerm_124 ?_
        exact absurd c111 (by omega)
    · refine jv_iload dX5_readTerm_95 rfl ?_
      refine jv_goto 102 dX5_readTerm_97 ?_
      refine jv_iload_n dX5_readTerm_102 rfl ?_
      refine jv_iload dX5_readTerm_103 rfl ?_
      refine jv_imul dX5_readTerm_105 ?_
      refine jv_cV dX5_readTerm_106 jm_X5_71 rfl (by repeat' (first | assumption | exact ⟨_, by assumption⟩ | refine jv_h1 (by decide) ?_ | refine jv_h0 ?_ | refine jv_h1 (by omega) ?_ | refine jv_hs ?_)) rfl (ct_X6_addTerm (K + 3) wt ht (by omega) (fun h2 wt2 fr2 => ?_))
      have w2 := jw_S_fr w hp17 fr2
      rw [if_pos (by omega), if_pos (by omega)] at hp1
      have v1 := w2.1
      have v2 := w2.2
      refine jv_iload dX5_readTerm_109 rfl ?_
      refine jv_if_eq 124 dX5_readTerm_111 (fun c111 => ?_) (fun c111 => ?_)
      · refine jv_iconst dX5_readTerm_124 ?_
        exact absurd c111 (by omega)
      · refine jv_aload_n dX5_readTerm_114 rfl ?_
        refine jv_dup dX5_readTerm_115 rfl ?_
        refine jv_getf dX5_readTerm_116 jf_X5_19 (by repeat' (first | assumption | exact ⟨_, by assumption⟩ | refine jv_h1 (by decide) ?_ | refine jv_h0 ?_ | refine jv_h1 (by omega) ?_ | refine jv_hs ?_)) (by exact rfl) ?_
        refine jv_iconst dX5_readTerm_119 ?_
        refine jv_iadd dX5_readTerm_120 ?_
        refine jv_putf dX5_readTerm_121 jp_X5_19 (by repeat' (first | assumption | exact ⟨_, by assumption⟩ | refine jv_h1 (by decide) ?_ | refine jv_h0 ?_ | refine jv_h1 (by omega) ?_ | refine jv_hs ?_)) (by exact Nat.le_of_ble_eq_true rfl) ?_
        refine jv_iconst dX5_readTerm_124 ?_
        exact jv_iret dX5_readTerm_125 hq (hp1 _ ⟨(by repeat' (first | assumption | exact ⟨_, by assumption⟩ | refine jv_h1 (by decide) ?_ | refine jv_h0 ?_ | refine jv_h1 (by omega) ?_ | refine jv_hs ?_)), (by repeat' (first | assumption | exact ⟨_, by assumption⟩ | refine jv_h1 (by decide) ?_ | refine jv_h0 ?_ | refine jv_h1 (by omega) ?_ | refine jv_hs ?_))⟩ (jw_T_fr wt2 hp17 (jv_fr_set (by omega) jv_fr_rf)) (jv_fq_s (jv_fq_t fr fr2) (jv_fr_set (by omega) jv_fr_rf))) (by decide)
  have m66 : ∀ (nb le : Int) (h1 : List jv_E), (nb = 1 ∧ jq_DC sg n (jq_tb sg n a) ≠ 0 ∨ nb = 0 ∧ jq_DC sg n (jq_tb sg n a) = 0) → (le = 1 ∧ 0 ≤ jq_lc (jq_tc sg n a) ∨ le = 0 ∧ jq_lc (jq_tc sg n a) < 0) → (jq_DC sg n (jq_tb sg n a) ≠ 0 ∨ 0 ≤ jq_lc (jq_tc sg n a)) → jw_S h1 n (jq_te sg n a) sg → jw_T h1 p u t en rl lo hi F → jv_fq p h h1 → jv_J X cX5_readTerm RX5 (K + 4) 66 [some (.ref 15), some (.ref p), some (.int (jv_i di)), some (.int (jv_i (jq_tb sg n a))), some (.int (jv_i (jq_tv sg n a))), some (.int (jv_i nb)), some (.int (jv_i (jq_lc (jq_tc sg n a)))), some (.int (jv_i le))] [] h1 := by
    intro nb le h1 hnb hl hk w wt fr
    have v1 := w.1
    have v2 := w.2
    have d0 : jq_DC sg n (jq_tb sg n a) = 0 → jq_tv sg n a = 1 := fun q => by show jq_nr sg n (jq_tb sg n a) = 1; unfold jq_nr; rw [if_pos q]
    refine jv_iload dX5_readTerm_66 rfl ?_
    refine jv_iconst dX5_readTerm_68 ?_
    refine jv_icmp_eq 82 dX5_readTerm_69 (fun c69 => ?_) (fun c69 => ?_)
    · refine jv_aload_n dX5_readTerm_82 rfl ?_
      refine jv_iload_n dX5_readTerm_83 rfl ?_
      refine jv_putf dX5_readTerm_84 jp_X5_19 (by repeat' (first | assumption | exact ⟨_, by assumption⟩ | refine jv_h1 (by decide) ?_ | refine jv_h0 ?_ | refine jv_h1 (by omega) ?_ | refine jv_hs ?_)) (by exact Nat.le_of_ble_eq_true rfl) ?_
      refine jv_iconst dX5_readTerm_87 ?_
      have hp2 := hp2 (by omega)
      rw [if_neg (by omega), if_neg (by omega)] at hp2
      exact jv_iret dX5_readTerm_88 hq (hp2 _ ⟨(by repeat' (first | assumption | exact ⟨_, by assumption⟩ | refine jv_h1 (by decide) ?_ | refine jv_h0 ?_ | refine jv_h1 (by omega) ?_ | refine jv_hs ?_)), (by repeat' (first | assumption | exact ⟨_, by assumption⟩ | refine jv_h1 (by decide) ?_ | refine jv_h0 ?_ | refine jv_h1 (by omega) ?_ | refine jv_hs ?_))⟩ (jw_T_fr wt hp17 (jv_fr_set (by omega) jv_fr_rf)) (jv_fq_s fr (jv_fr_set (by omega) jv_fr_rf))) (by decide)
    · refine jv_iload dX5_readTerm_72 rfl ?_
      refine jv_if_eq 89 dX5_readTerm_74 (fun c74 => ?_) (fun c74 => ?_)
      · exact m89 nb le h1 hl (by omega) w wt fr
      · refine jv_iload dX5_readTerm_77 rfl ?_
        refine jv_if_ne 89 dX5_readTerm_79 (fun c79 => ?_) (fun c79 => ?_)
        · exact m89 nb le h1 hl (by omega) w wt fr
        · refine jv_aload_n dX5_readTerm_82 rfl ?_
          refine jv_iload_n dX5_readTerm_83 rfl ?_
          refine jv_putf dX5_readTerm_84 jp_X5_19 (by repeat' (first | assumption | exact ⟨_, by assumption⟩ | refine jv_h1 (by decide) ?_ | refine jv_h0 ?_ | refine jv_h1 (by omega) ?_ | refine jv_hs ?_)) (by exact Nat.le_of_ble_eq_true rfl) ?_
          refine jv_iconst dX5_readTerm_87 ?_
          have hp2 := hp2 (by omega)
          rw [if_neg (by omega), if_neg (by omega)] at hp2
          exact jv_iret dX5_readTerm_88 hq (hp2 _ ⟨(by repeat' (first | assumption | exact ⟨_, by assumption⟩ | refine jv_h1 (by decide) ?_ | refine jv_h0 ?_ | refine jv_h1 (by omega) ?_ | refine jv_hs ?_)), (by repeat' (first | assumption | exact ⟨_, by assumption⟩ | refine jv_h1 (by decide) ?_ | refine jv_h0 ?_ | refine jv_h1 (by omega) ?_ | refine jv_hs ?_))⟩ (jw_T_fr wt hp17 (jv_fr_set (by omega) jv_fr_rf)) (jv_fq_s fr (jv_fr_set (by omega) jv_fr_rf))) (by decide)
  have m54 : ∀ (nb le : Int) (h1 : List jv_E), (nb = 1 ∧ jq_DC sg n (jq_tb sg n a) ≠ 0 ∨ nb = 0 ∧ jq_DC sg n (jq_tb sg n a) = 0) → (le = 1 ∧ 0 ≤ jq_lc (jq_tc sg n a) ∨ le = 0 ∧ jq_lc (jq_tc sg n a) < 0) → jw_S h1 n (jq_te sg n a) sg → jw_T h1 p u t en rl lo hi F → jv_fq p h h1 → jv_J X cX5_readTerm RX5 (K + 4) 54 [some (.ref 15), some (.ref p), some (.int (jv_i di)), some (.int (jv_i (jq_tb sg n a))), some (.int (jv_i (jq_tv sg n a))), some (.int (jv_i nb)), some (.int (jv_i (jq_lc (jq_tc sg n a)))), some (.int (jv_i le))] [] h1 := by
    intro nb le h1 hnb hl w wt fr
    refine jv_iload dX5_readTerm_54 rfl ?_
    refine jv_if_ne 66 dX5_readTerm_56 (fun c56 => ?_) (fun c56 => ?_)
    · exact m66 nb le h1 hnb hl (by omega) w wt fr
    · refine jv_iload dX5_readTerm_59 rfl ?_
      refine jv_if_ne 66 dX5_readTerm_61 (fun c61 => ?_) (fun c61 => ?_)
      · exact m66 nb le h1 hnb hl (by omega) w wt fr
      · refine jv_iconst dX5_readTerm_64 ?_
        have hp2 := hp2 (by omega)
        rw [if_neg (by omega), if_pos (by omega)] at hp2
        exact jv_iret dX5_readTerm_65 hq (hp2 h1 w wt fr) (by decide)
  have v1 := w.1
  refine jv_aload_n dX5_readTerm_0 rfl ?_
  refine jv_cV dX5_readTerm_1 jm_X5_34 rfl (by repeat' (first | assumption | exact ⟨_, by assumption⟩ | refine jv_h1 (by decide) ?_ | refine jv_h0 ?_ | refine jv_h1 (by omega) ?_ | refine jv_hs ?_)) rfl (ct_X5_toNextSign (K + 3) w hS ha (fun h2 w2 fr2 => ?_))
  have t2 := jw_T_fr wt hp17 fr2
  have f2 := jv_fq_s (jv_fq_rf (p := p)) fr2
  have w3 : jw_S h2 n (jq_tb sg n a) sg := w2
  have v3 := w3.1
  refine jv_pop dX5_readTerm_4 rfl ?_
  refine jv_aload_n dX5_readTerm_5 rfl ?_
  refine jv_getf dX5_readTerm_6 jf_X5_19 (by repeat' (first | assumption | exact ⟨_, by assumption⟩ | refine jv_h1 (by decide) ?_ | refine jv_h0 ?_ | refine jv_h1 (by omega) ?_ | refine jv_hs ?_)) (by exact rfl) ?_
  refine jv_istore_n dX5_readTerm_9 rfl (Nat.le_of_ble_eq_true rfl) ?_
  refine jv_aload_n dX5_readTerm_10 rfl ?_
  refine jv_cV dX5_readTerm_11 jm_X5_59 rfl (by repeat' (first | assumption | exact ⟨_, by assumption⟩ | refine jv_h1 (by decide) ?_ | refine jv_h0 ?_ | refine jv_h1 (by omega) ?_ | refine jv_hs ?_)) rfl (ct_X5_readNumber (K + 3) w3 hS (by omega) (fun h4 w4 fr4 => ?_))
  have t4 := jw_T_fr t2 hp17 fr4
  have f4 := jv_fq_s f2 fr4
  have v4 := w4.1
  refine jv_istore dX5_readTerm_14 rfl (Nat.le_of_ble_eq_true rfl) ?_
  refine jv_aload_n dX5_readTerm_16 rfl ?_
  refine jv_getf dX5_readTerm_17 jf_X5_19 (by repeat' (first | assumption | exact ⟨_, by assumption⟩ | refine jv_h1 (by decide) ?_ | refine jv_h0 ?_ | refine jv_h1 (by omega) ?_ | refine jv_hs ?_)) (by exact rfl) ?_
  refine jv_iload_n dX5_readTerm_20 rfl ?_
  refine jv_icmp_le 28 dX5_readTerm_21 (fun c21 => ?_) (fun c21 => ?_)
  · refine jv_iconst dX5_readTerm_28 ?_
    refine jv_istore dX5_readTerm_29 rfl (Nat.le_of_ble_eq_true rfl) ?_
    refine jv_ldcS dX5_readTerm_31 rfl ?_
    refine jv_aload_n dX5_readTerm_33 rfl ?_
    refine jv_cV dX5_readTerm_34 jm_X5_34 rfl (by repeat' (first | assumption | exact ⟨_, by assumption⟩ | refine jv_h1 (by decide) ?_ | refine jv_h0 ?_ | refine jv_h1 (by omega) ?_ | refine jv_hs ?_)) rfl (ct_X5_toNextSign (K + 3) w4 hS (by omega) (fun h5 w5 fr5 => ?_))
    have t5 := jw_T_fr t4 hp17 fr5
    have f5 := jv_fq_s f4 fr5
    refine jv_ti (b := jq_tc sg n a) rfl ?_
    refine jv_cK dX5_readTerm_37 jm_X5_65 rfl (ct_J0_indexOf K i4 ?_)
    refine jv_istore dX5_readTerm_40 rfl (Nat.le_of_ble_eq_true rfl) ?_
    refine jv_iload dX5_readTerm_42 rfl ?_
    refine jv_if_lt 51 dX5_readTerm_44 (fun c44 => ?_) (fun c44 => ?_)
    · refine jv_iconst dX5_readTerm_51 ?_
      refine jv_istore dX5_readTerm_52 rfl (Nat.le_of_ble_eq_true rfl) ?_
      exact m54 0 0 h5 (by omega) (by omega) w5 t5 f5
    · refine jv_iconst dX5_readTerm_47 ?_
      refine jv_goto 52 dX5_readTerm_48 ?_
      refine jv_istore dX5_readTerm_52 rfl (Nat.le_of_ble_eq_true rfl) ?_
      exact m54 0 1 h5 (by omega) (by omega) w5 t5 f5
  · refine jv_iconst dX5_readTerm_24 ?_
    refine jv_goto 29 dX5_readTerm_25 ?_
    refine jv_istore dX5_readTerm_29 rfl (Nat.le_of_ble_eq_true rfl) ?_
    refine jv_ldcS dX5_readTerm_31 rfl ?_
    refine jv_aload_n dX5_readTerm_33 rfl ?_
    refine jv_cV dX5_readTerm_34 jm_X5_34 rfl (by repeat' (first | assumption | exact ⟨_, by assumption⟩ | refine jv_h1 (by decide) ?_ | refine jv_h0 ?_ | refine jv_h1 (by omega) ?_ | refine jv_hs ?_)) rfl (ct_X5_toNextSign (K + 3) w4 hS (by omega) (fun h5 w5 fr5 => ?_))
    have t5 := jw_T_fr t4 hp17 fr5
    have f5 := jv_fq_s f4 fr5
    refine jv_ti (b := jq_tc sg n a) rfl ?_
    refine jv_cK dX5_readTerm_37 jm_X5_65 rfl (ct_J0_indexOf K i4 ?_)
    refine jv_istore dX5_readTerm_40 rfl (Nat.le_of_ble_eq_true rfl) ?_
    refine jv_iload dX5_readTerm_42 rfl ?_
    refine jv_if_lt 51 dX5_readTerm_44 (fun c44 => ?_) (fun c44 => ?_)
    · refine jv_iconst dX5_readTerm_51 ?_
      refine jv_istore dX5_readTerm_52 rfl (Nat.le_of_ble_eq_true rfl) ?_
      exact m54 1 0 h5 (by omega) (by omega) w5 t5 f5
    · refine jv_iconst dX5_readTerm_47 ?_
      refine jv_goto 52 dX5_readTerm_48 ?_
      refine jv_istore dX5_readTerm_52 rfl (Nat.le_of_ble_eq_true rfl) ?_
      exact m54 1 1 h5 (by omega) (by omega) w5 t5 f5
end TR
