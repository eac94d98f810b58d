/-! TESTS AND STATES of a text -/
def jq_ts (sg : Int → Int) (n a : Int) : Bool × Int × (Int × List (Int × Int) × List (Int × Int)) := if (jq_su sg n 4 a 1).1 = true then (if jq_sn sg n (jq_sK sg n (jq_su sg n 4 a 1).2.1) = 60 ∨ jq_sn sg n (jq_sK sg n (jq_su sg n 4 a 1).2.1) = 62 ∨ jq_sn sg n (jq_sK sg n (jq_su sg n 4 a 1).2.1) = 61 then ((jq_su sg n 4 (jq_sK sg n (jq_su sg n 4 a 1).2.1 + 1) 1).1, (jq_su sg n 4 (jq_sK sg n (jq_su sg n 4 a 1).2.1 + 1) 1).2.1, (jq_sn sg n (jq_sK sg n (jq_su sg n 4 a 1).2.1), (jq_su sg n 4 a 1).2.2, (jq_su sg n 4 (jq_sK sg n (jq_su sg n 4 a 1).2.1 + 1) 1).2.2)) else (false, jq_sK sg n (jq_su sg n 4 a 1).2.1, (0, [], []))) else (false, (jq_su sg n 4 a 1).2.1, (0, [], []))
def jq_tt (sg : Int → Int) (n : Int) : Nat → Int → Bool × Int × List (Int × List (Int × Int) × List (Int × Int))
  | 0, a => (false, jq_sK sg n a, [])
  | f + 1, a => if (jq_ts sg n a).1 = true then (if jq_sn sg n (jq_sK sg n (jq_ts sg n a).2.1) = 38 then ((jq_tt sg n f (jq_sK sg n (jq_ts sg n a).2.1 + 1)).1, (jq_tt sg n f (jq_sK sg n (jq_ts sg n a).2.1 + 1)).2.1, (jq_ts sg n a).2.2 :: (jq_tt sg n f (jq_sK sg n (jq_ts sg n a).2.1 + 1)).2.2) else (true, jq_sK sg n (jq_ts sg n a).2.1, [(jq_ts sg n a).2.2])) else (false, (jq_ts sg n a).2.1, [])
def jq_ss (sg : Int → Int) (n : Int) : Nat → Int → Bool × Int × List (List (Int × List (Int × Int) × List (Int × Int)))
  | 0, a => (false, jq_sK sg n a, [])
  | f + 1, a => if (jq_tt sg n 5 a).1 = true then (if jq_sn sg n (jq_sK sg n (jq_tt sg n 5 a).2.1) = 0 then (true, jq_sK sg n (jq_tt sg n 5 a).2.1, [(jq_tt sg n 5 a).2.2]) else if jq_sn sg n (jq_sK sg n (jq_tt sg n 5 a).2.1) = 59 then ((jq_ss sg n f (jq_sK sg n (jq_tt sg n 5 a).2.1 + 1)).1, (jq_ss sg n f (jq_sK sg n (jq_tt sg n 5 a).2.1 + 1)).2.1, (jq_tt sg n 5 a).2.2 :: (jq_ss sg n f (jq_sK sg n (jq_tt sg n 5 a).2.1 + 1)).2.2) else (false, jq_sK sg n (jq_tt sg n 5 a).2.1, [])) else (false, (jq_tt sg n 5 a).2.1, [])
theorem jq_sK_in {sg : Int → Int} {n a : Int} (ha : 0 ≤ a ∧ a ≤ n) : 0 ≤ jq_sK sg n a ∧ jq_sK sg n a ≤ n ∧ (jq_sn sg n (jq_sK sg n a) ≠ 0 → jq_sK sg n a < n) := by
  have h2 := jq_sk_in sg n 300 a ha.2
  have e : jq_sK sg n a = jq_sk sg n 300 a := rfl
  refine ⟨by omega, by omega, fun q => ?_⟩
  unfold jq_sn at q
  split at q
  · assumption
  · exact absurd rfl q
theorem jq_ts_in {sg : Int → Int} {n a : Int} (hS : jq_S n sg) (ha : 0 ≤ a ∧ a ≤ n) : 0 ≤ (jq_ts sg n a).2.1 ∧ (jq_ts sg n a).2.1 ≤ n := by
  have h1 := (jq_su_in hS 4 a 1 ha).1
  obtain ⟨h2, h3, h4⟩ := jq_sK_in (sg := sg) h1
  unfold jq_ts
  split
  · split
    · next q => exact (jq_su_in hS 4 _ 1 (by have := h4 (by omega); omega)).1
    · exact ⟨h2, h3⟩
  · exact h1
theorem jq_tt_in {sg : Int → Int} {n : Int} (hS : jq_S n sg) : ∀ (f : Nat) (a : Int), 0 ≤ a ∧ a ≤ n → (0 ≤ (jq_tt sg n f a).2.1 ∧ (jq_tt sg n f a).2.1 ≤ n) ∧ (jq_tt sg n f a).2.2.length ≤ f
  | 0, a, ha => ⟨⟨(jq_sK_in ha).1, (jq_sK_in ha).2.1⟩, Nat.le_refl _⟩
  | f + 1, a, ha => by
    have h1 := jq_ts_in hS ha
    obtain ⟨h2, h3, h4⟩ := jq_sK_in (sg := sg) h1
    rw [jq_tt]
    split
    · split
      · next q =>
        obtain ⟨g1, g2⟩ := jq_tt_in hS f (jq_sK sg n (jq_ts sg n a).2.1 + 1) (by have := h4 (by omega); omega)
        exact ⟨g1, Nat.succ_le_succ g2⟩
      · exact ⟨⟨h2, h3⟩, Nat.succ_le_succ (Nat.zero_le _)⟩
    · exact ⟨h1, Nat.zero_le _⟩
/-- the rows hold these tests -/
def jq_Fo (ts : List (Int × List (Int × Int) × List (Int × Int))) (rl : Int → Int) (F : Int → Int → Int) : Prop := ∀ (g : Nat) (T : (Int × List (Int × Int) × List (Int × Int))), ts[g]? = some T → rl g = T.1 ∧ (∀ x, jq_dot (F g) x = jq_ev x T.2.1 - jq_ev x T.2.2) ∧ jq_bd (F g) 800000
theorem jq_Fo_add {ts : List (Int × List (Int × Int) × List (Int × Int))} {rl : Int → Int} {F : Int → Int → Int} {T : (Int × List (Int × Int) × List (Int × Int))} {r : Int → Int} {c : Int} (h : jq_Fo ts rl F) (h1 : c = T.1) (h2 : ∀ x, jq_dot r x = jq_ev x T.2.1 - jq_ev x T.2.2) (h3 : jq_bd r 800000) : jq_Fo (ts ++ [T]) (jv_up rl ts.length c) (jq_uF F ts.length r) := by
  intro g U hg
  by_cases e : g < ts.length
  · rw [List.getElem?_append_left e] at hg
    have e2 : (g : Int) ≠ ts.length := by omega
    rw [jv_up_n _ e2, jq_uF, if_neg e2]
    exact h g U hg
  · rw [List.getElem?_append_right (by omega)] at hg
    have e2 : g - ts.length < 1 := (List.getElem?_eq_some_iff.mp hg).1
    have e3 : g = ts.length := by omega
    subst e3
    rw [Nat.sub_self] at hg
    cases hg
    rw [jv_up_s, jq_uF_s]
    exact ⟨h1, h2, h3⟩
theorem jq_Fo_row {ts : List (Int × List (Int × Int) × List (Int × Int))} {rl : Int → Int} {F : Int → Int → Int} {t : Nat} {r : Int → Int} (h : jq_Fo ts rl F) (ht : ts.length ≤ t) : jq_Fo ts rl (jq_uF F t r) := fun g U hg => by
  have e2 : (g : Int) ≠ t := by have := (List.getElem?_eq_some_iff.mp hg).1; omega
  rw [jq_uF, if_neg e2]
  exact h g U hg
section TS
variable {h : List jv_E} {p u t : Nat} {n a : Int} {sg en rl lo hi : Int → Int} {F : Int → Int → Int} {post : Option Value → List jv_E → Prop}
theorem ct_X5_readTest (K : Nat) (hp17 : 17 ≤ p) (w : jw_S h n a sg) (wt : jw_T h p u t en rl lo hi F) (hS : jq_S n sg) (ha : 0 ≤ a ∧ a ≤ n) (ht : t < 30) (hp1 : (jq_ts sg n a).1 = true → ∀ h' r, jw_S h' n (jq_ts sg n a).2.1 sg → jw_T h' p u (t + 1) en (jv_up rl t (jq_ts sg n a).2.2.1) lo hi (jq_uF F t r) → (∀ x, jq_dot r x = jq_ev x (jq_ts sg n a).2.2.2.1 - jq_ev x (jq_ts sg n a).2.2.2.2) → jq_bd r 800000 → jv_fq p h h' → post (some (.int (jv_i 1))) h') (hp2 : (jq_ts sg n a).1 = false → ∀ h' r, jw_S h' n (jq_ts sg n a).2.1 sg → jw_T h' p u t en rl lo hi (jq_uF F t r) → jv_fq p h h' → post (some (.int (jv_i 0))) h') : jv_Ct yX5_readTest cX5_readTest 3 (some .boolean) (K + 6) [.ref 15, .ref p] h post := by
  have v1 := w.1
  have v0 := wt.1
  have i1 := (jq_su_in hS 4 a 1 ha).1
  obtain ⟨i2, i3, i4⟩ := jq_sK_in (sg := sg) i1
  have i5 := jq_sn_in hS (jq_sK sg n (jq_su sg n 4 a 1).2.1)
  unfold jq_ts at hp1 hp2
  refine jv_entry (own := RX5) (by decide) rfl (Nat.le_of_ble_eq_true rfl) (fun X hq => ?_)
  refine jv_aload_n dX5_readTest_0 rfl ?_
  refine jv_cV dX5_readTest_1 jm_X5_45 rfl (by repeat' (first | assumption | exact ⟨_, by assumption⟩ | refine jv_h1 (by decide) ?_ | refine jv_h0 ?_ | refine jv_h1 (by omega) ?_ | refine jv_hs ?_)) rfl (ct_X6_beginTest K wt ht (fun h2 r0 z0 wt2 fr2 => ?_))
  have w2 := jw_S_fr w hp17 fr2
  have v2 := w2.1
  have f2 := jv_fq_t (jv_fq_rf (p := p)) fr2
  have d0 : ∀ x, jq_dot r0 x = 0 := fun x => by simp [jq_dot, z0 0 (by omega) (by omega), z0 1 (by omega) (by omega), z0 2 (by omega) (by omega), z0 3 (by omega) (by omega), z0 4 (by omega) (by omega), z0 5 (by omega) (by omega), z0 6 (by omega) (by omega), z0 7 (by omega) (by omega)]
  refine jv_aload_n dX5_readTest_4 rfl ?_
  refine jv_aload_n dX5_readTest_5 rfl ?_
  refine jv_iconst dX5_readTest_6 ?_
  refine jv_cV dX5_readTest_7 jm_X5_48 rfl (by repeat' (first | assumption | exact ⟨_, by assumption⟩ | refine jv_h1 (by decide) ?_ | refine jv_h0 ?_ | refine jv_h1 (by omega) ?_ | refine jv_hs ?_)) rfl (ct_X5_readSum (B := 0) K hp17 w2 wt2 hS ha ht (Or.inl rfl) (by rw [jq_uF_s]; intro c z1 z2; rw [z0 c z1 z2]; omega) (fun h3 r1 w3 wt3 b3 d3 f3 => ?_))
  rw [jq_uF_s] at d3
  rw [jq_uF_u] at wt3
  have v3 := w3.1
  have f4 := jv_fq_tr f2 f3
  by_cases g1 : (jq_su sg n 4 a 1).1 = true
  · rw [if_pos g1]
    rw [if_pos g1] at hp1 hp2
    refine jv_if_ne 15 dX5_readTest_10 (fun c10 => ?_) (fun c10 => ?_)
    · refine jv_aload_n dX5_readTest_15 rfl ?_
      refine jv_cV dX5_readTest_16 jm_X5_34 rfl (by repeat' (first | assumption | exact ⟨_, by assumption⟩ | refine jv_h1 (by decide) ?_ | refine jv_h0 ?_ | refine jv_h1 (by omega) ?_ | refine jv_hs ?_)) rfl (ct_X5_toNextSign (K + 5) w3 hS i1 (fun h5 w5 fr5 => ?_))
      have wt5 := jw_T_fr wt3 hp17 fr5
      have f5 := jv_fq_s f4 fr5
      have v5 := w5.1
      have v6 := w5.2
      refine jv_istore_n dX5_readTest_19 rfl (Nat.le_of_ble_eq_true rfl) ?_
      refine jv_iload_n dX5_readTest_20 rfl ?_
      refine jv_bipush dX5_readTest_21 ?_
      refine jv_icmp_eq 40 dX5_readTest_23 (fun c23 => ?_) (fun c23 => ?_)
      · rw [if_pos (by omega)] at hp1 hp2
        refine jv_aload_n dX5_readTest_40 rfl ?_
        refine jv_dup dX5_readTest_41 rfl ?_
        refine jv_getf dX5_readTest_42 jf_X5_19 (by repeat' (first | assumption | exact ⟨_, by assumption⟩ | refine jv_h1 (by decide) ?_ | refine jv_h0 ?_ | refine jv_h1 (by omega) ?_ | refine jv_hs ?_)) (by exact rfl) ?_
        refine jv_iconst dX5_readTest_45 ?_
        refine jv_iadd dX5_readTest_46 ?_
        refine jv_putf dX5_readTest_47 jp_X5_19 (by repeat' (first | assumption | exact ⟨_, by assumption⟩ | refine jv_h1 (by decide) ?_ | refine jv_h0 ?_ | refine jv_h1 (by omega) ?_ | refine jv_hs ?_)) (by exact Nat.le_of_ble_eq_true rfl) ?_
        refine jv_aload_n dX5_readTest_50 rfl ?_
        refine jv_aload_n dX5_readTest_51 rfl ?_
        refine jv_iconst dX5_readTest_52 ?_
        refine jv_cV dX5_readTest_53 jm_X5_48 rfl (by repeat' (first | assumption | exact ⟨_, by assumption⟩ | refine jv_h1 (by decide) ?_ | refine jv_h0 ?_ | refine jv_h1 (by omega) ?_ | refine jv_hs ?_)) rfl (ct_X5_readSum (B := 400000) (sd := -1) K hp17 (⟨(by repeat' (first | assumption | exact ⟨_, by assumption⟩ | refine jv_h1 (by decide) ?_ | refine jv_h0 ?_ | refine jv_h1 (by omega) ?_ | refine jv_hs ?_)), (by repeat' (first | assumption | exact ⟨_, by assumption⟩ | refine jv_h1 (by decide) ?_ | refine jv_h0 ?_ | refine jv_h1 (by omega) ?_ | refine jv_hs ?_))⟩ : jw_S _ n (jq_sK sg n (jq_su sg n 4 a 1).2.1 + 1) sg) (jw_T_fr wt5 hp17 (jv_fr_set (by omega) jv_fr_rf)) hS (by have := i4 (by omega); omega) ht (Or.inr rfl) (by rw [jq_uF_s]; intro c z1 z2; have := b3 c z1 z2; omega) (fun h7 r2 w7 wt7 b7 d7 f7 => ?_))
        rw [jq_uF_s] at d7
        rw [jq_uF_u] at wt7
        have f8 := jv_fq_tr (jv_fq_s f5 (jv_fr_set (by omega) jv_fr_rf)) f7
        have v0 := wt7.1
        by_cases g2 : (jq_su sg n 4 (jq_sK sg n (jq_su sg n 4 a 1).2.1 + 1) 1).1 = true
        · rw [if_pos g2]
          refine jv_if_ne 61 dX5_readTest_56 (fun c => ?_) (fun c => absurd c (by omega))
          refine jv_aload_n dX5_readTest_61 rfl ?_
          refine jv_iload_n dX5_readTest_62 rfl ?_
          refine jv_cV dX5_readTest_63 jm_X5_52 rfl (by repeat' (first | assumption | exact ⟨_, by assumption⟩ | refine jv_h1 (by decide) ?_ | refine jv_h0 ?_ | refine jv_h1 (by omega) ?_ | refine jv_hs ?_)) rfl (ct_X6_endTest (K + 5) wt7 ht (by omega) (fun h9 wt9 fr9 => ?_))
          refine jv_iconst dX5_readTest_66 ?_
          exact jv_iret dX5_readTest_67 hq (hp1 g2 h9 r2 (jw_S_fr w7 hp17 fr9) wt9 (fun x => by rw [d7 x g2, d3 x g1, d0 x]; dsimp only; omega) (fun c z1 z2 => by have := b7 c z1 z2; omega) (jv_fq_t f8 fr9)) (by decide)
        · rw [if_neg g2]
          refine jv_if_ne 61 dX5_readTest_56 (fun c => absurd rfl c) (fun c => ?_)
          refine jv_iconst dX5_readTest_59 ?_
          exact jv_iret dX5_readTest_60 hq (hp2 (by simpa using g2) h7 r2 w7 wt7 f8) (by decide)
      · refine jv_iload_n dX5_readTest_26 rfl ?_
        refine jv_bipush dX5_readTest_27 ?_
        refine jv_icmp_eq 40 dX5_readTest_29 (fun c29 => ?_) (fun c29 => ?_)
        · rw [if_pos (by omega)] at hp1 hp2
          refine jv_aload_n dX5_readTest_40 rfl ?_
          refine jv_dup dX5_readTest_41 rfl ?_
          refine jv_getf dX5_readTest_42 jf_X5_19 (by repeat' (first | assumption | exact ⟨_, by assumption⟩ | refine jv_h1 (by decide) ?_ | refine jv_h0 ?_ | refine jv_h1 (by omega) ?_ | refine jv_hs ?_)) (by exact rfl) ?_
          refine jv_iconst dX5_readTest_45 ?_
          refine jv_iadd dX5_readTest_46 ?_
          refine jv_putf dX5_readTest_47 jp_X5_19 (by repeat' (first | assumption | exact ⟨_, by assumption⟩ | refine jv_h1 (by decide) ?_ | refine jv_h0 ?_ | refine jv_h1 (by omega) ?_ | refine jv_hs ?_)) (by exact Nat.le_of_ble_eq_true rfl) ?_
          refine jv_aload_n dX5_readTest_50 rfl ?_
          refine jv_aload_n dX5_readTest_51 rfl ?_
          refine jv_iconst dX5_readTest_52 ?_
          refine jv_cV dX5_readTest_53 jm_X5_48 rfl (by repeat' (first | assumption | exact ⟨_, by assumption⟩ | refine jv_h1 (by decide) ?_ | refine jv_h0 ?_ | refine jv_h1 (by omega) ?_ | refine jv_hs ?_)) rfl (ct_X5_readSum (B := 400000) (sd := -1) K hp17 (⟨(by repeat' (first | assumption | exact ⟨_, by assumption⟩ | refine jv_h1 (by decide) ?_ | refine jv_h0 ?_ | refine jv_h1 (by omega) ?_ | refine jv_hs ?_)), (by repeat' (first | assumption | exact ⟨_, by assumption⟩ | refine jv_h1 (by decide) ?_ | refine jv_h0 ?_ | refine jv_h1 (by omega) ?_ | refine jv_hs ?_))⟩ : jw_S _ n (jq_sK sg n (jq_su sg n 4 a 1).2.1 + 1) sg) (jw_T_fr wt5 hp17 (jv_fr_set (by omega) jv_fr_rf)) hS (by have := i4 (by omega); omega) ht (Or.inr rfl) (by rw [jq_uF_s]; intro c z1 z2; have := b3 c z1 z2; omega) (fun h7 r2 w7 wt7 b7 d7 f7 => ?_))
          rw [jq_uF_s] at d7
          rw [jq_uF_u] at wt7
          have f8 := jv_fq_tr (jv_fq_s f5 (jv_fr_set (by omega) jv_fr_rf)) f7
          have v0 := wt7.1
          by_cases g2 : (jq_su sg n 4 (jq_sK sg n (jq_su sg n 4 a 1).2.1 + 1) 1).1 = true
          · rw [if_pos g2]
            refine jv_if_ne 61 dX5_readTest_56 (fun c => ?_) (fun c => absurd c (by omega))
            refine jv_aload_n dX5_readTest_61 rfl ?_
            refine jv_iload_n dX5_readTest_62 rfl ?_
            refine jv_cV dX5_readTest_63 jm_X5_52 rfl (by repeat' (first | assumption | exact ⟨_, by assumption⟩ | refine jv_h1 (by decide) ?_ | refine jv_h0 ?_ | refine jv_h1 (by omega) ?_ | refine jv_hs ?_)) rfl (ct_X6_endTest (K + 5) wt7 ht (by omega) (fun h9 wt9 fr9 => ?_))
            refine jv_iconst dX5_readTest_66 ?_
            exact jv_iret dX5_readTest_67 hq (hp1 g2 h9 r2 (jw_S_fr w7 hp17 fr9) wt9 (fun x => by rw [d7 x g2, d3 x g1, d0 x]; dsimp only; omega) (fun c z1 z2 => by have := b7 c z1 z2; omega) (jv_fq_t f8 fr9)) (by decide)
          · rw [if_neg g2]
            refine jv_if_ne 61 dX5_readTest_56 (fun c => absurd rfl c) (fun c => ?_)
            refine jv_iconst dX5_readTest_59 ?_
            exact jv_iret dX5_readTest_60 hq (hp2 (by simpa using g2) h7 r2 w7 wt7 f8) (by decide)
        · refine jv_iload_n dX5_readTest_32 rfl ?_
          refine jv_bipush dX5_readTest_33 ?_
          refine jv_icmp_eq 40 dX5_readTest_35 (fun c35 => ?_) (fun c35 => ?_)
          · rw [if_pos (by omega)] at hp1 hp2
            refine jv_aload_n dX5_readTest_40 rfl ?_
            refine jv_dup dX5_readTest_41 rfl ?_
            refine jv_getf dX5_readTest_42 jf_X5_19 (by repeat' (first | assumption | exact ⟨_, by assumption⟩ | refine jv_h1 (by decide) ?_ | refine jv_h0 ?_ | refine jv_h1 (by omega) ?_ | refine jv_hs ?_)) (by exact rfl) ?_
            refine jv_iconst dX5_readTest_45 ?_
            refine jv_iadd dX5_readTest_46 ?_
            refine jv_putf dX5_readTest_47 jp_X5_19 (by repeat' (first | assumption | exact ⟨_, by assumption⟩ | refine jv_h1 (by decide) ?_ | refine jv_h0 ?_ | refine jv_h1 (by omega) ?_ | refine jv_hs ?_)) (by exact Nat.le_of_ble_eq_true rfl) ?_
            refine jv_aload_n dX5_readTest_50 rfl ?_
            refine jv_aload_n dX5_readTest_51 rfl ?_
            refine jv_iconst dX5_readTest_52 ?_
            refine jv_cV dX5_readTest_53 jm_X5_48 rfl (by repeat' (first | assumption | exact ⟨_, by assumption⟩ | refine jv_h1 (by decide) ?_ | refine jv_h0 ?_ | refine jv_h1 (by omega) ?_ | refine jv_hs ?_)) rfl (ct_X5_readSum (B := 400000) (sd := -1) K hp17 (⟨(by repeat' (first | assumption | exact ⟨_, by assumption⟩ | refine jv_h1 (by decide) ?_ | refine jv_h0 ?_ | refine jv_h1 (by omega) ?_ | refine jv_hs ?_)), (by repeat' (first | assumption | exact ⟨_, by assumption⟩ | refine jv_h1 (by decide) ?_ | refine jv_h0 ?_ | refine jv_h1 (by omega) ?_ | refine jv_hs ?_))⟩ : jw_S _ n (jq_sK sg n (jq_su sg n 4 a 1).2.1 + 1) sg) (jw_T_fr wt5 hp17 (jv_fr_set (by omega) jv_fr_rf)) hS (by have := i4 (by omega); omega) ht (Or.inr rfl) (by rw [jq_uF_s]; intro c z1 z2; have := b3 c z1 z2; omega) (fun h7 r2 w7 wt7 b7 d7 f7 => ?_))
            rw [jq_uF_s] at d7
            rw [jq_uF_u] at wt7
            have f8 := jv_fq_tr (jv_fq_s f5 (jv_fr_set (by omega) jv_fr_rf)) f7
            have v0 := wt7.1
            by_cases g2 : (jq_su sg n 4 (jq_sK sg n (jq_su sg n 4 a 1).2.1 + 1) 1).1 = true
            · rw [if_pos g2]
              refine jv_if_ne 61 dX5_readTest_56 (fun c => ?_) (fun c => absurd c (by omega))
              refine jv_aload_n dX5_readTest_61 rfl ?_
              refine jv_iload_n dX5_readTest_62 rfl ?_
              refine jv_cV dX5_readTest_63 jm_X5_52 rfl (by repeat' (first | assumption | exact ⟨_, by assumption⟩ | refine jv_h1 (by decide) ?_ | refine jv_h0 ?_ | refine jv_h1 (by omega) ?_ | refine jv_hs ?_)) rfl (ct_X6_endTest (K + 5) wt7 ht (by omega) (fun h9 wt9 fr9 => ?_))
              refine jv_iconst dX5_readTest_66 ?_
              exact jv_iret dX5_readTest_67 hq (hp1 g2 h9 r2 (jw_S_fr w7 hp17 fr9) wt9 (fun x => by rw [d7 x g2, d3 x g1, d0 x]; dsimp only; omega) (fun c z1 z2 => by have := b7 c z1 z2; omega) (jv_fq_t f8 fr9)) (by decide)
            · rw [if_neg g2]
              refine jv_if_ne 61 dX5_readTest_56 (fun c => absurd rfl c) (fun c => ?_)
              refine jv_iconst dX5_readTest_59 ?_
              exact jv_iret dX5_readTest_60 hq (hp2 (by simpa using g2) h7 r2 w7 wt7 f8) (by decide)
          · refine jv_iconst dX5_readTest_38 ?_
            rw [if_neg (by omega)] at hp2
            exact jv_iret dX5_readTest_39 hq (hp2 rfl h5 r1 w5 wt5 f5) (by decide)
    · exact absurd c10 (by omega)
  · rw [if_neg g1]
    rw [if_neg g1] at hp2
    refine jv_if_ne 15 dX5_readTest_10 (fun c => absurd rfl c) (fun c => ?_)
    refine jv_iconst dX5_readTest_13 ?_
    exact jv_iret dX5_readTest_14 hq (hp2 rfl h3 r1 w3 wt3 f4) (by decide)
end TS
