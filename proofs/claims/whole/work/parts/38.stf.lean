/-! the face's states -/
theorem jw_T_g {h h' : List jv_E} {p u t : Nat} {en rl lo hi : Int → Int} {F : Int → Int → Int} (w : jw_T h p u t en rl lo hi F) (f : ∀ i, p ≤ i → i ≤ p + 35 → h'[i]? = h[i]?) : jw_T h' p u t en rl lo hi F := by
  obtain ⟨w1, w2, w3, w4, w5, w6, w7⟩ := w
  refine ⟨?_, ?_, ?_, ?_, ?_, ?_, fun i hi => ?_⟩
  all_goals rw [f _ (by omega) (by omega)]
  · exact w1
  · exact w2
  · exact w3
  · exact w4
  · exact w5
  · exact w6
  · exact w7 i hi
/-- nothing but the face's object, the reader and the rows at p differs -/
def jv_f0 (p : Nat) (h h' : List jv_E) : Prop := ∀ i, i ≠ 0 → ¬ (15 ≤ i ∧ i ≤ 16) → ¬ (p ≤ i ∧ i ≤ p + 35) → h'[i]? = h[i]?
section SF
variable {h : List jv_E} {t0 d0 u t : Nat} {n a : Int} {sg en rl lo hi : Int → Int} {F : Int → Int → Int} {post : Option Value → List jv_E → Prop}
theorem ct_X7_states (K : Nat) (hd : 17 ≤ d0) (bb : jw_B h t0 d0) (w : jw_S h n a sg) (wt : jw_T h d0 u t en rl lo hi F) (hS : jq_S n sg) (hp1 : (jq_ss sg n 6 0).1 = true → ∀ h' en' rl' F' a', jw_B h' d0 t0 → jw_S h' 0 a' sg → jw_T h' d0 (jq_ss sg n 6 0).2.2.length (jq_ss sg n 6 0).2.2.flatten.length en' rl' lo hi F' → jq_Fo (jq_ss sg n 6 0).2.2.flatten rl' F' → jq_En (jq_ss sg n 6 0).2.2 en' → jv_f0 d0 h h' → post (some (.int (jv_i (jq_ss sg n 6 0).2.2.length))) h') (hp2 : (jq_ss sg n 6 0).1 = false → ∀ h' u' t' en' rl' F' a', jw_B h' t0 d0 → jw_S h' 0 a' sg → jw_T h' d0 u' t' en' rl' lo hi F' → jv_f0 d0 h h' → post (some (.int (jv_i (-1 - (jq_ss sg n 6 0).2.1)))) h') : jv_Ct yX7_states cX7_states 4 (some .int) (K + 9) [.ref 0] h post := by
  have hn := hS.1
  have v1 := w.1
  have b0 := bb
  unfold jw_B at bb
  obtain ⟨i1, i2⟩ := jq_ss_sm hS 6 0 (by omega)
  refine jv_entry (own := RX7) (by decide) rfl (Nat.le_of_ble_eq_true rfl) (fun X hq => ?_)
  refine jv_aload_n dX7_states_0 rfl ?_
  refine jv_getf dX7_states_1 jf_X7_33 (by repeat' (first | assumption | exact ⟨_, by assumption⟩ | refine jv_h1 (by decide) ?_ | refine jv_h0 ?_ | refine jv_h1 (by omega) ?_ | refine jv_hs ?_)) (by exact rfl) ?_
  refine jv_aload_n dX7_states_4 rfl ?_
  refine jv_getf dX7_states_5 jf_X7_44 (by repeat' (first | assumption | exact ⟨_, by assumption⟩ | refine jv_h1 (by decide) ?_ | refine jv_h0 ?_ | refine jv_h1 (by omega) ?_ | refine jv_hs ?_)) (by exact rfl) ?_
  refine jv_cV dX7_states_8 jm_X7_133 rfl (by repeat' (first | assumption | exact ⟨_, by assumption⟩ | refine jv_h1 (by decide) ?_ | refine jv_h0 ?_ | refine jv_h1 (by omega) ?_ | refine jv_hs ?_)) rfl (ct_X5_readStates K hd w wt hS (fun g h2 en2 rl2 F2 w2 wt2 hF2 hE2 f2 => ?_) (fun g h2 u2 t2 en2 rl2 F2 hu ht w2 wt2 f2 => ?_))
  · have bb : h2[0]? = some (jv_ob 7 [.ref 1, .ref 5, .ref 9, .ref 15, .ref t0, .ref d0, .ref 89, .ref 95]) := by rw [f2 0 (by omega) (by omega)]; exact bb
    have v2 := w2.1
    have v3 := w2.2
    have v0 := wt2.1
    refine jv_istore_n dX7_states_11 rfl (Nat.le_of_ble_eq_true rfl) ?_
    refine jv_iload_n dX7_states_12 rfl ?_
    refine jv_if_eq 26 dX7_states_13 (fun c13 => ?_) (fun c13 => ?_)
    · exact absurd c13 (by omega)
    · refine jv_aload_n dX7_states_16 rfl ?_
      refine jv_getf dX7_states_17 jf_X7_44 (by repeat' (first | assumption | exact ⟨_, by assumption⟩ | refine jv_h1 (by decide) ?_ | refine jv_h0 ?_ | refine jv_h1 (by omega) ?_ | refine jv_hs ?_)) (by exact rfl) ?_
      refine jv_cV dX7_states_20 jm_X7_137 rfl (by repeat' (first | assumption | exact ⟨_, by assumption⟩ | refine jv_h1 (by decide) ?_ | refine jv_h0 ?_ | refine jv_h1 (by omega) ?_ | refine jv_hs ?_)) rfl (ct_X6_size K wt2 ?_)
      refine jv_goto 35 dX7_states_23 ?_
      refine jv_istore_n dX7_states_35 rfl (Nat.le_of_ble_eq_true rfl) ?_
      refine jv_iload_n dX7_states_36 rfl ?_
      refine jv_if_eq 58 dX7_states_37 (fun c37 => ?_) (fun c37 => ?_)
      · exact absurd c37 (by omega)
      · refine jv_aload_n dX7_states_40 rfl ?_
        refine jv_getf dX7_states_41 jf_X7_40 (by repeat' (first | assumption | exact ⟨_, by assumption⟩ | refine jv_h1 (by decide) ?_ | refine jv_h0 ?_ | refine jv_h1 (by omega) ?_ | refine jv_hs ?_)) (by exact rfl) ?_
        refine jv_astore_n dX7_states_44 rfl (Nat.le_of_ble_eq_true rfl) ?_
        refine jv_aload_n dX7_states_45 rfl ?_
        refine jv_aload_n dX7_states_46 rfl ?_
        refine jv_getf dX7_states_47 jf_X7_44 (by repeat' (first | assumption | exact ⟨_, by assumption⟩ | refine jv_h1 (by decide) ?_ | refine jv_h0 ?_ | refine jv_h1 (by omega) ?_ | refine jv_hs ?_)) (by exact rfl) ?_
        refine jv_putf dX7_states_50 jp_X7_40 (by repeat' (first | assumption | exact ⟨_, by assumption⟩ | refine jv_h1 (by decide) ?_ | refine jv_h0 ?_ | refine jv_h1 (by omega) ?_ | refine jv_hs ?_)) (by exact Nat.le_of_ble_eq_true rfl) ?_
        refine jv_aload_n dX7_states_53 rfl ?_
        refine jv_aload_n dX7_states_54 rfl ?_
        refine jv_putf dX7_states_55 jp_X7_44 (by repeat' (first | assumption | exact ⟨_, by assumption⟩ | refine jv_h1 (by decide) ?_ | refine jv_h0 ?_ | refine jv_h1 (by omega) ?_ | refine jv_hs ?_)) (by exact Nat.le_of_ble_eq_true rfl) ?_
        refine jv_aload_n dX7_states_58 rfl ?_
        refine jv_getf dX7_states_59 jf_X7_33 (by repeat' (first | assumption | exact ⟨_, by assumption⟩ | refine jv_h1 (by decide) ?_ | refine jv_h0 ?_ | refine jv_h1 (by omega) ?_ | refine jv_hs ?_)) (by exact rfl) ?_
        refine jv_cV dX7_states_62 jm_X7_144 rfl (by repeat' (first | assumption | exact ⟨_, by assumption⟩ | refine jv_h1 (by decide) ?_ | refine jv_h0 ?_ | refine jv_h1 (by omega) ?_ | refine jv_hs ?_)) rfl (ct_X5_clear (n := n) (a := (jq_ss sg n 6 0).2.1) (sg := sg) K ⟨(by repeat' (first | assumption | exact ⟨_, by assumption⟩ | refine jv_h1 (by decide) ?_ | refine jv_h0 ?_ | refine jv_h1 (by omega) ?_ | refine jv_hs ?_)), (by repeat' (first | assumption | exact ⟨_, by assumption⟩ | refine jv_h1 (by decide) ?_ | refine jv_h0 ?_ | refine jv_h1 (by omega) ?_ | refine jv_hs ?_))⟩ (fun h5 w5 f5 => ?_))
        refine jv_iload_n dX7_states_65 rfl ?_
        exact jv_iret dX7_states_66 hq (hp1 g h5 en2 rl2 F2 _ (by unfold jw_B; rw [f5 0 (by omega)]; exact (by repeat' (first | assumption | exact ⟨_, by assumption⟩ | refine jv_h1 (by decide) ?_ | refine jv_h0 ?_ | refine jv_h1 (by omega) ?_ | refine jv_hs ?_))) w5 (jw_T_g wt2 (fun i z1 z2 => by rw [f5 i (by omega), List.getElem?_set_ne (by omega), List.getElem?_set_ne (by omega)])) hF2 hE2 (fun i z0 z1 z2 => by rw [f5 i (by omega), List.getElem?_set_ne (by omega), List.getElem?_set_ne (by omega)]; exact f2 i z1 z2))
  · have bb : h2[0]? = some (jv_ob 7 [.ref 1, .ref 5, .ref 9, .ref 15, .ref t0, .ref d0, .ref 89, .ref 95]) := by rw [f2 0 (by omega) (by omega)]; exact bb
    have v2 := w2.1
    refine jv_istore_n dX7_states_11 rfl (Nat.le_of_ble_eq_true rfl) ?_
    refine jv_iload_n dX7_states_12 rfl ?_
    refine jv_if_eq 26 dX7_states_13 (fun c13 => ?_) (fun c13 => ?_)
    · refine jv_iconst dX7_states_26 ?_
      refine jv_aload_n dX7_states_27 rfl ?_
      refine jv_getf dX7_states_28 jf_X7_33 (by repeat' (first | assumption | exact ⟨_, by assumption⟩ | refine jv_h1 (by decide) ?_ | refine jv_h0 ?_ | refine jv_h1 (by omega) ?_ | refine jv_hs ?_)) (by exact rfl) ?_
      refine jv_cV dX7_states_31 jm_X7_141 rfl (by repeat' (first | assumption | exact ⟨_, by assumption⟩ | refine jv_h1 (by decide) ?_ | refine jv_h0 ?_ | refine jv_h1 (by omega) ?_ | refine jv_hs ?_)) rfl (ct_X5_position K w2 ?_)
      refine jv_isub dX7_states_34 ?_
      refine jv_istore_n dX7_states_35 rfl (Nat.le_of_ble_eq_true rfl) ?_
      refine jv_iload_n dX7_states_36 rfl ?_
      refine jv_if_eq 58 dX7_states_37 (fun c37 => ?_) (fun c37 => ?_)
      · refine jv_aload_n dX7_states_58 rfl ?_
        refine jv_getf dX7_states_59 jf_X7_33 (by repeat' (first | assumption | exact ⟨_, by assumption⟩ | refine jv_h1 (by decide) ?_ | refine jv_h0 ?_ | refine jv_h1 (by omega) ?_ | refine jv_hs ?_)) (by exact rfl) ?_
        refine jv_cV dX7_states_62 jm_X7_144 rfl (by repeat' (first | assumption | exact ⟨_, by assumption⟩ | refine jv_h1 (by decide) ?_ | refine jv_h0 ?_ | refine jv_h1 (by omega) ?_ | refine jv_hs ?_)) rfl (ct_X5_clear K w2 (fun h5 w5 f5 => ?_))
        refine jv_iload_n dX7_states_65 rfl ?_
        exact jv_iret dX7_states_66 hq (hp2 g h5 _ _ en2 rl2 F2 _ (by unfold jw_B; rw [f5 0 (by omega)]; exact bb) w5 (jw_T_g wt2 (fun i z1 z2 => f5 i (by omega))) (fun i z0 z1 z2 => by rw [f5 i (by omega)]; exact f2 i z1 z2))
      · exact absurd rfl c37
    · exact absurd rfl c13
end SF
