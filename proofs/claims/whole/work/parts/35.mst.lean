/-! the reference's readState -/
/-- test T lies at place g -/
def jq_M1 (g : Int) (T : (Int × List (Int × Int) × List (Int × Int))) (re te of le : Int → Int) : Prop := re g = T.1 ∧ (te (2 * g) = T.2.1.length ∧ jq_Me (4 * (2 * g)) T.2.1 of le) ∧ (te (2 * g + 1) = T.2.2.length ∧ jq_Me (4 * (2 * g + 1)) T.2.2 of le)
def jq_MT (b : Int) (l : List (Int × List (Int × Int) × List (Int × Int))) (re te of le : Int → Int) : Prop := ∀ (j : Nat) (T : (Int × List (Int × Int) × List (Int × Int))), l[j]? = some T → jq_M1 (b + j) T re te of le
/-- nothing of the places of tests b .. b + 4 but j on differs -/
def jq_Mu (lo hi : Int) (re te of le re' te' of' le' : Int → Int) : Prop := (∀ j, (j < lo ∨ hi ≤ j) → re' j = re j) ∧ (∀ j, (j < 2 * lo ∨ 2 * hi ≤ j) → te' j = te j) ∧ ∀ j, (j < 8 * lo ∨ 8 * hi ≤ j) → of' j = of j ∧ le' j = le j
theorem jq_Mu_rf {lo hi : Int} {re te of le : Int → Int} : jq_Mu lo hi re te of le re te of le := ⟨fun _ _ => rfl, fun _ _ => rfl, fun _ _ => ⟨rfl, rfl⟩⟩
theorem jq_Mu_tr {lo hi lo2 hi2 : Int} {re te of le re1 te1 of1 le1 re2 te2 of2 le2 : Int → Int} (h1 : jq_Mu lo hi re te of le re1 te1 of1 le1) (h2 : jq_Mu lo2 hi2 re1 te1 of1 le1 re2 te2 of2 le2) (hl : lo ≤ lo2) (hh : hi2 ≤ hi) : jq_Mu lo hi re te of le re2 te2 of2 le2 :=
  ⟨fun j z => (h2.1 j (by omega)).trans (h1.1 j z), fun j z => (h2.2.1 j (by omega)).trans (h1.2.1 j z), fun j z => ⟨(h2.2.2 j (by omega)).1.trans (h1.2.2 j z).1, (h2.2.2 j (by omega)).2.trans (h1.2.2 j z).2⟩⟩
theorem jq_Mu_su {g : Int} {te of le te' of' le' re : Int → Int} {su : Int} (h : jq_Mo su te of le te' of' le') (hs : su = 2 * g ∨ su = 2 * g + 1) : jq_Mu g (g + 1) re te of le re te' of' le' := ⟨fun _ _ => rfl, fun j z => h.1 j (by omega), fun j z => h.2 j (by omega)⟩
theorem jq_Me_k {b : Int} {l : List (Int × Int)} {of le of' le' : Int → Int} (h : jq_Me b l of le) (hl : l.length ≤ 4) (hk : ∀ j, b ≤ j → j < b + 4 → of' j = of j ∧ le' j = le j) : jq_Me b l of' le' := fun j q z => by
  have := (List.getElem?_eq_some_iff.mp z).1
  rw [(hk (b + j) (by omega) (by omega)).1, (hk (b + j) (by omega) (by omega)).2]
  exact h j q z
theorem jq_M1_k {g lo hi : Int} {T : (Int × List (Int × Int) × List (Int × Int))} {re te of le re' te' of' le' : Int → Int} (h : jq_M1 g T re te of le) (hl : T.2.1.length ≤ 4 ∧ T.2.2.length ≤ 4) (hu : jq_Mu lo hi re te of le re' te' of' le') (hg : g < lo ∨ hi ≤ g) : jq_M1 g T re' te' of' le' := by
  obtain ⟨h1, ⟨h2, h3⟩, h4, h5⟩ := h
  refine ⟨by rw [hu.1 g hg]; exact h1, ⟨by rw [hu.2.1 _ (by omega)]; exact h2, jq_Me_k h3 hl.1 (fun j z1 z2 => hu.2.2 j (by omega))⟩, by rw [hu.2.1 _ (by omega)]; exact h4, jq_Me_k h5 hl.2 (fun j z1 z2 => hu.2.2 j (by omega))⟩
theorem jq_ts_len {sg : Int → Int} {n a : Int} (hS : jq_S n sg) (ha : 0 ≤ a ∧ a ≤ n) : (jq_ts sg n a).2.2.2.1.length ≤ 4 ∧ (jq_ts sg n a).2.2.2.2.length ≤ 4 := by
  obtain ⟨h1, h9⟩ := jq_su_in hS 4 a 1 ha
  obtain ⟨h2, h3, h4⟩ := jq_sK_in (sg := sg) h1
  unfold jq_ts
  split
  · split
    · next q => exact ⟨h9, (jq_su_in hS 4 _ 1 (by have := h4 (by omega); omega)).2⟩
    · exact ⟨Nat.zero_le _, Nat.zero_le _⟩
  · exact ⟨Nat.zero_le _, Nat.zero_le _⟩
theorem jq_MT_add {b : Int} {pre : List (Int × List (Int × Int) × List (Int × Int))} {T : (Int × List (Int × Int) × List (Int × Int))} {re te of le re' te' of' le' : Int → Int} (hT : jq_MT b pre re te of le) (hq4 : ∀ T ∈ pre, T.2.1.length ≤ 4 ∧ T.2.2.length ≤ 4) (hu : jq_Mu (b + pre.length) (b + pre.length + 1) re te of le re' te' of' le') (hN : jq_M1 (b + pre.length) T re' te' of' le') : jq_MT b (pre ++ [T]) re' te' of' le' := fun j U hj => by
  by_cases e : j < pre.length
  · rw [List.getElem?_append_left e] at hj
    exact jq_M1_k (hT j U hj) (hq4 U (List.mem_of_getElem? hj)) hu (by omega)
  · rw [List.getElem?_append_right (by omega)] at hj
    have e2 : j - pre.length < 1 := (List.getElem?_eq_some_iff.mp hj).1
    have e3 : j = pre.length := by omega
    subst e3
    rw [Nat.sub_self] at hj
    cases hj
    exact hN
section MST
variable {h : List jv_E} {rr lv cu n st a da ra wa : Int} {sg ta re te of le : Int → Int} {post : Option Value → List jv_E → Prop}
theorem ct_X8_readState {k : Int} (K : Nat) (o : jw_O h rr lv cu n st a 0 da ra wa) (w : h[104]? = some (jv_ai 300 sg)) (w5 : h[105]? = some (jv_ai 12 ta)) (w6 : h[106]? = some (jv_ai 60 re)) (w7 : h[107]? = some (jv_ai 120 te)) (w8 : h[108]? = some (jv_ai 480 of)) (w9 : h[109]? = some (jv_ai 480 le)) (hS : jq_S n sg) (ha : 0 ≤ a ∧ a ≤ n) (hk : 0 ≤ k ∧ k < 6) (hp : (∀ h' ta' re' te' of' le', jw_O h' rr lv cu n st (jq_tt sg n 5 a).2.1 (if (jq_tt sg n 5 a).1 = true then 0 else 1) da ra wa → h'[105]? = some (jv_ai 12 ta') → h'[106]? = some (jv_ai 60 re') → h'[107]? = some (jv_ai 120 te') → h'[108]? = some (jv_ai 480 of') → h'[109]? = some (jv_ai 480 le') → (∀ j, j ≠ 6 + k → ta' j = ta j) → jq_Mu (5 * (6 + k)) (5 * (6 + k) + 5) re te of le re' te' of' le' → ((jq_tt sg n 5 a).1 = true → ta' (6 + k) = ((jq_tt sg n 5 a).2.2).length ∧ jq_MT (5 * (6 + k)) ((jq_tt sg n 5 a).2.2) re' te' of' le') → jv_fs [97, 105, 106, 107, 108, 109] h h' → post none h')) : jv_Ct yX8_readState cX8_readState 6 none (K + 3) [.ref 97, .int (jv_i k)] h post := by
  refine jv_entry (own := RX8) (by decide) rfl (Nat.le_of_ble_eq_true rfl) (fun X hq => ?_)
  have loop : ∀ (f : Nat) (a1 : Int) (h1 : List jv_E) (ta1 re1 te1 of1 le1 : Int → Int) (pre : List (Int × List (Int × Int) × List (Int × Int))), pre.length + f = 5 → 0 ≤ a1 ∧ a1 ≤ n → jw_O h1 rr lv cu n st a1 0 da ra wa → h1[105]? = some (jv_ai 12 ta1) → h1[106]? = some (jv_ai 60 re1) → h1[107]? = some (jv_ai 120 te1) → h1[108]? = some (jv_ai 480 of1) → h1[109]? = some (jv_ai 480 le1) → ta1 (6 + k) = pre.length → (∀ j, j ≠ 6 + k → ta1 j = ta j) → jq_Mu (5 * (6 + k)) (5 * (6 + k) + 5) re te of le re1 te1 of1 le1 → jq_MT (5 * (6 + k)) pre re1 te1 of1 le1 → (∀ T ∈ pre, T.2.1.length ≤ 4 ∧ T.2.2.length ≤ 4) → jv_fs [97, 105, 106, 107, 108, 109] h h1 → (∀ h' ta' re' te' of' le', jw_O h' rr lv cu n st (jq_tt sg n f a1).2.1 (if (jq_tt sg n f a1).1 = true then 0 else 1) da ra wa → h'[105]? = some (jv_ai 12 ta') → h'[106]? = some (jv_ai 60 re') → h'[107]? = some (jv_ai 120 te') → h'[108]? = some (jv_ai 480 of') → h'[109]? = some (jv_ai 480 le') → (∀ j, j ≠ 6 + k → ta' j = ta j) → jq_Mu (5 * (6 + k)) (5 * (6 + k) + 5) re te of le re' te' of' le' → ((jq_tt sg n f a1).1 = true → ta' (6 + k) = (pre ++ (jq_tt sg n f a1).2.2).length ∧ jq_MT (5 * (6 + k)) (pre ++ (jq_tt sg n f a1).2.2) re' te' of' le') → jv_fs [97, 105, 106, 107, 108, 109] h h' → post none h') → jv_J X cX8_readState RX8 (K + 3) 14 [some (.ref 97), some (.int (jv_i k)), some (.int (jv_i (6 + k))), some (.int (jv_i 1)), none, none] [] h1 := by
    intro f
    induction f with
    | zero =>
      intro a1 h1 ta1 re1 te1 of1 le1 pre e ha1 o y5 y6 y7 y8 y9 et ho hM hT hq4 fr hp
      have x1 := jv_fs_at fr (by decide) w
      have o9 := o
      unfold jw_O at o
      refine jv_iload_n dX8_readState_14 rfl ?_
      refine jv_if_eq 210 dX8_readState_15 (fun c15 => ?_) (fun c15 => ?_)
      · exact absurd c15 (by omega)
      · refine jv_aload_n dX8_readState_18 rfl ?_
        refine jv_getf dX8_readState_19 jf_X8_130 (by repeat' (first | assumption | exact ⟨_, by assumption⟩ | refine jv_h1 (by decide) ?_ | refine jv_h0 ?_ | refine jv_h1 (by omega) ?_ | refine jv_hs ?_)) (by exact rfl) ?_
        refine jv_if_ne 210 dX8_readState_22 (fun c22 => ?_) (fun c22 => ?_)
        · exact absurd rfl c22
        · refine jv_aload_n dX8_readState_25 rfl ?_
          refine jv_getf dX8_readState_26 jf_X8_31 (by repeat' (first | assumption | exact ⟨_, by assumption⟩ | refine jv_h1 (by decide) ?_ | refine jv_h0 ?_ | refine jv_h1 (by omega) ?_ | refine jv_hs ?_)) (by exact rfl) ?_
          refine jv_iload_n dX8_readState_29 rfl ?_
          refine jv_iald dX8_readState_30 (by repeat' (first | assumption | exact ⟨_, by assumption⟩ | refine jv_h1 (by decide) ?_ | refine jv_h0 ?_ | refine jv_h1 (by omega) ?_ | refine jv_hs ?_)) ?_
          refine jv_iconst dX8_readState_31 ?_
          rw [et]
          refine jv_icmp_ne 47 dX8_readState_32 (fun c32 => ?_) (fun c32 => ?_)
          · exact absurd c32 (by omega)
          · refine jv_aload_n dX8_readState_35 rfl ?_
            refine jv_cV dX8_readState_36 jm_X8_126 rfl (by repeat' (first | assumption | exact ⟨_, by assumption⟩ | refine jv_h1 (by decide) ?_ | refine jv_h0 ?_ | refine jv_h1 (by omega) ?_ | refine jv_hs ?_)) rfl (ct_X8_look (K + 2) o9 x1 hS ha1 (fun h2 o2 fr2 => ?_))
            have z5 := jv_fs_at fr2 (by decide) y5
            have z6 := jv_fs_at fr2 (by decide) y6
            have z7 := jv_fs_at fr2 (by decide) y7
            have z8 := jv_fs_at fr2 (by decide) y8
            have z9 := jv_fs_at fr2 (by decide) y9
            have f2 := jv_fs_tr fr (jv_fs_w (by decide) fr2)
            unfold jw_O at o2
            refine jv_istore dX8_readState_39 rfl (Nat.le_of_ble_eq_true rfl) ?_
            refine jv_aload_n dX8_readState_41 rfl ?_
            refine jv_iconst dX8_readState_42 ?_
            refine jv_putf dX8_readState_43 jp_X8_130 (by repeat' (first | assumption | exact ⟨_, by assumption⟩ | refine jv_h1 (by decide) ?_ | refine jv_h0 ?_ | refine jv_h1 (by omega) ?_ | refine jv_hs ?_)) (by exact Nat.le_of_ble_eq_true rfl) ?_ (jv_bn (by omega)) (jv_bf (by omega))
            exact jv_vret dX8_readState_46 hq (hp _ ta1 re1 te1 of1 le1 (by repeat' (first | assumption | exact ⟨_, by assumption⟩ | refine jv_h1 (by decide) ?_ | refine jv_h0 ?_ | refine jv_h1 (by omega) ?_ | refine jv_hs ?_)) (by repeat' (first | assumption | exact ⟨_, by assumption⟩ | refine jv_h1 (by decide) ?_ | refine jv_h0 ?_ | refine jv_h1 (by omega) ?_ | refine jv_hs ?_)) (by repeat' (first | assumption | exact ⟨_, by assumption⟩ | refine jv_h1 (by decide) ?_ | refine jv_h0 ?_ | refine jv_h1 (by omega) ?_ | refine jv_hs ?_)) (by repeat' (first | assumption | exact ⟨_, by assumption⟩ | refine jv_h1 (by decide) ?_ | refine jv_h0 ?_ | refine jv_h1 (by omega) ?_ | refine jv_hs ?_)) (by repeat' (first | assumption | exact ⟨_, by assumption⟩ | refine jv_h1 (by decide) ?_ | refine jv_h0 ?_ | refine jv_h1 (by omega) ?_ | refine jv_hs ?_)) (by repeat' (first | assumption | exact ⟨_, by assumption⟩ | refine jv_h1 (by decide) ?_ | refine jv_h0 ?_ | refine jv_h1 (by omega) ?_ | refine jv_hs ?_)) ho hM (fun z => by cases z) (jv_fs_set (by decide) f2))
    | succ f ih =>
      intro a1 h1 ta1 re1 te1 of1 le1 pre e ha1 o y5 y6 y7 y8 y9 et ho hM hT hq4 fr hp
      have x1 := jv_fs_at fr (by decide) w
      have o9 := o
      unfold jw_O at o
      obtain ⟨i1, i8⟩ := jq_su_in hS 4 a1 1 ha1
      obtain ⟨i2, i3, i4⟩ := jq_sK_in (sg := sg) i1
      have i5 := jq_sn_in hS (jq_sK sg n (jq_su sg n 4 a1 1).2.1)
      have tsi := jq_ts_in hS ha1
      have tsl := jq_ts_len hS ha1
      obtain ⟨j2, j3, j4⟩ := jq_sK_in (sg := sg) tsi
      have j5 := jq_sn_in hS (jq_sK sg n (jq_ts sg n a1).2.1)
      rw [jq_tt] at hp
      refine jv_iload_n dX8_readState_14 rfl ?_
      refine jv_if_eq 210 dX8_readState_15 (fun c15 => ?_) (fun c15 => ?_)
      · exact absurd c15 (by omega)
      · refine jv_aload_n dX8_readState_18 rfl ?_
        refine jv_getf dX8_readState_19 jf_X8_130 (by repeat' (first | assumption | exact ⟨_, by assumption⟩ | refine jv_h1 (by decide) ?_ | refine jv_h0 ?_ | refine jv_h1 (by omega) ?_ | refine jv_hs ?_)) (by exact rfl) ?_
        refine jv_if_ne 210 dX8_readState_22 (fun c22 => ?_) (fun c22 => ?_)
        · exact absurd rfl c22
        · refine jv_aload_n dX8_readState_25 rfl ?_
          refine jv_getf dX8_readState_26 jf_X8_31 (by repeat' (first | assumption | exact ⟨_, by assumption⟩ | refine jv_h1 (by decide) ?_ | refine jv_h0 ?_ | refine jv_h1 (by omega) ?_ | refine jv_hs ?_)) (by exact rfl) ?_
          refine jv_iload_n dX8_readState_29 rfl ?_
          refine jv_iald dX8_readState_30 (by repeat' (first | assumption | exact ⟨_, by assumption⟩ | refine jv_h1 (by decide) ?_ | refine jv_h0 ?_ | refine jv_h1 (by omega) ?_ | refine jv_hs ?_)) ?_
          refine jv_iconst dX8_readState_31 ?_
          rw [et]
          refine jv_icmp_ne 47 dX8_readState_32 (fun c32 => ?_) (fun c32 => ?_)
          · refine jv_iconst dX8_readState_47 ?_
            refine jv_iload_n dX8_readState_48 rfl ?_
            refine jv_imul dX8_readState_49 ?_
            refine jv_aload_n dX8_readState_50 rfl ?_
            refine jv_getf dX8_readState_51 jf_X8_31 (by repeat' (first | assumption | exact ⟨_, by assumption⟩ | refine jv_h1 (by decide) ?_ | refine jv_h0 ?_ | refine jv_h1 (by omega) ?_ | refine jv_hs ?_)) (by exact rfl) ?_
            refine jv_iload_n dX8_readState_54 rfl ?_
            refine jv_iald dX8_readState_55 (by repeat' (first | assumption | exact ⟨_, by assumption⟩ | refine jv_h1 (by decide) ?_ | refine jv_h0 ?_ | refine jv_h1 (by omega) ?_ | refine jv_hs ?_)) ?_
            rw [et]
            refine jv_iadd dX8_readState_56 ?_
            refine jv_istore dX8_readState_57 rfl (Nat.le_of_ble_eq_true rfl) ?_
            refine jv_aload_n dX8_readState_59 rfl ?_
            refine jv_iconst dX8_readState_60 ?_
            refine jv_iload dX8_readState_61 rfl ?_
            refine jv_imul dX8_readState_63 ?_
            refine jv_cV dX8_readState_64 jm_X8_142 rfl (by repeat' (first | assumption | exact ⟨_, by assumption⟩ | refine jv_h1 (by decide) ?_ | refine jv_h0 ?_ | refine jv_h1 (by omega) ?_ | refine jv_hs ?_)) rfl (ct_X8_readSum K o9 x1 y7 y8 y9 hS ha1 (by omega) (fun h2 te2 of2 le2 o2 z7 z8 z9 mo2 q2 fr2 => ?_))
            have z5 := jv_fs_at fr2 (by decide) y5
            have z6 := jv_fs_at fr2 (by decide) y6
            have f2 := jv_fs_tr fr (jv_fs_w (Q := [97, 105, 106, 107, 108, 109]) (by decide) fr2)
            have x2 := jv_fs_at f2 (by decide) w
            have mu2 := jq_Mu_su (g := 5 * (6 + k) + pre.length) (re := re1) mo2 (Or.inl rfl)
            by_cases g1 : (jq_su sg n 4 a1 1).1 = true
            · rw [if_pos g1] at o2
              have o3 := o2
              unfold jw_O at o2
              obtain ⟨q3, q4⟩ := q2 g1
              refine jv_aload_n dX8_readState_67 rfl ?_
              refine jv_getf dX8_readState_68 jf_X8_130 (by repeat' (first | assumption | exact ⟨_, by assumption⟩ | refine jv_h1 (by decide) ?_ | refine jv_h0 ?_ | refine jv_h1 (by omega) ?_ | refine jv_hs ?_)) (by exact rfl) ?_
              refine jv_if_eq 78 dX8_readState_71 (fun c71 => ?_) (fun c71 => ?_)
              · refine jv_aload_n dX8_readState_78 rfl ?_
                refine jv_cV dX8_readState_79 jm_X8_126 rfl (by repeat' (first | assumption | exact ⟨_, by assumption⟩ | refine jv_h1 (by decide) ?_ | refine jv_h0 ?_ | refine jv_h1 (by omega) ?_ | refine jv_hs ?_)) rfl (ct_X8_look (K + 2) o3 x2 hS i1 (fun h3 o4 fr3 => ?_))
                have z5 := jv_fs_at fr3 (by decide) z5
                have z6 := jv_fs_at fr3 (by decide) z6
                have z7 := jv_fs_at fr3 (by decide) z7
                have z8 := jv_fs_at fr3 (by decide) z8
                have z9 := jv_fs_at fr3 (by decide) z9
                have f3 := jv_fs_tr f2 (jv_fs_w (Q := [97, 105, 106, 107, 108, 109]) (by decide) fr3)
                have x3 := jv_fs_at f3 (by decide) w
                unfold jw_O at o4
                refine jv_istore dX8_readState_82 rfl (Nat.le_of_ble_eq_true rfl) ?_
                refine jv_aload_n dX8_readState_84 rfl ?_
                refine jv_aload_n dX8_readState_85 rfl ?_
                refine jv_getf dX8_readState_86 jf_X8_130 (by repeat' (first | assumption | exact ⟨_, by assumption⟩ | refine jv_h1 (by decide) ?_ | refine jv_h0 ?_ | refine jv_h1 (by omega) ?_ | refine jv_hs ?_)) (by exact rfl) ?_
                refine jv_if_ne 113 dX8_readState_89 (fun c89 => ?_) (fun c89 => ?_)
                · exact absurd rfl c89
                · refine jv_iload dX8_readState_92 rfl ?_
                  refine jv_bipush dX8_readState_94 ?_
                  refine jv_icmp_eq 117 dX8_readState_96 (fun c96 => ?_) (fun c96 => ?_)
                  · have hr : jq_sn sg n (jq_sK sg n (jq_su sg n 4 a1 1).2.1) = 60 ∨ jq_sn sg n (jq_sK sg n (jq_su sg n 4 a1 1).2.1) = 62 ∨ jq_sn sg n (jq_sK sg n (jq_su sg n 4 a1 1).2.1) = 61 := by omega
                    refine jv_iconst dX8_readState_117 ?_
                    refine jv_putf dX8_readState_118 jp_X8_130 (by repeat' (first | assumption | exact ⟨_, by assumption⟩ | refine jv_h1 (by decide) ?_ | refine jv_h0 ?_ | refine jv_h1 (by omega) ?_ | refine jv_hs ?_)) (by exact Nat.le_of_ble_eq_true rfl) ?_ (jv_bn (by omega)) (jv_bf (by omega))
                    refine jv_aload_n dX8_readState_121 rfl ?_
                    refine jv_getf dX8_readState_122 jf_X8_130 (by repeat' (first | assumption | exact ⟨_, by assumption⟩ | refine jv_h1 (by decide) ?_ | refine jv_h0 ?_ | refine jv_h1 (by omega) ?_ | refine jv_hs ?_)) (by exact rfl) ?_
                    refine jv_if_ne 167 dX8_readState_125 (fun c125 => ?_) (fun c125 => ?_)
                    · exact absurd rfl c125
                    · refine jv_aload_n dX8_readState_128 rfl ?_
                      refine jv_getf dX8_readState_129 jf_X8_34 (by repeat' (first | assumption | exact ⟨_, by assumption⟩ | refine jv_h1 (by decide) ?_ | refine jv_h0 ?_ | refine jv_h1 (by omega) ?_ | refine jv_hs ?_)) (by exact rfl) ?_
                      refine jv_iload dX8_readState_132 rfl ?_
                      refine jv_iload dX8_readState_134 rfl ?_
                      refine jv_iast dX8_readState_136 (by repeat' (first | assumption | exact ⟨_, by assumption⟩ | refine jv_h1 (by decide) ?_ | refine jv_h0 ?_ | refine jv_h1 (by omega) ?_ | refine jv_hs ?_)) ?_
                      refine jv_aload_n dX8_readState_137 rfl ?_
                      refine jv_dup dX8_readState_138 rfl ?_
                      refine jv_getf dX8_readState_139 jf_X8_123 (by repeat' (first | assumption | exact ⟨_, by assumption⟩ | refine jv_h1 (by decide) ?_ | refine jv_h0 ?_ | refine jv_h1 (by omega) ?_ | refine jv_hs ?_)) (by exact rfl) ?_
                      refine jv_iconst dX8_readState_142 ?_
                      refine jv_iadd dX8_readState_143 ?_
                      refine jv_putf dX8_readState_144 jp_X8_123 (by repeat' (first | assumption | exact ⟨_, by assumption⟩ | refine jv_h1 (by decide) ?_ | refine jv_h0 ?_ | refine jv_h1 (by omega) ?_ | refine jv_hs ?_)) (by exact Nat.le_of_ble_eq_true rfl) ?_
                      refine jv_aload_n dX8_readState_147 rfl ?_
                      refine jv_iconst dX8_readState_148 ?_
                      refine jv_iload dX8_readState_149 rfl ?_
                      refine jv_imul dX8_readState_151 ?_
                      refine jv_iconst dX8_readState_152 ?_
                      refine jv_iadd dX8_readState_153 ?_
                      refine jv_cV dX8_readState_154 jm_X8_142 rfl (by repeat' (first | assumption | exact ⟨_, by assumption⟩ | refine jv_h1 (by decide) ?_ | refine jv_h0 ?_ | refine jv_h1 (by omega) ?_ | refine jv_hs ?_)) rfl (ct_X8_readSum K ((by repeat' (first | assumption | exact ⟨_, by assumption⟩ | refine jv_h1 (by decide) ?_ | refine jv_h0 ?_ | refine jv_h1 (by omega) ?_ | refine jv_hs ?_)) : jw_O _ rr lv cu n st (jq_sK sg n (jq_su sg n 4 a1 1).2.1 + 1) 0 da ra wa) (by repeat' (first | assumption | exact ⟨_, by assumption⟩ | refine jv_h1 (by decide) ?_ | refine jv_h0 ?_ | refine jv_h1 (by omega) ?_ | refine jv_hs ?_)) (by repeat' (first | assumption | exact ⟨_, by assumption⟩ | refine jv_h1 (by decide) ?_ | refine jv_h0 ?_ | refine jv_h1 (by omega) ?_ | refine jv_hs ?_)) (by repeat' (first | assumption | exact ⟨_, by assumption⟩ | refine jv_h1 (by decide) ?_ | refine jv_h0 ?_ | refine jv_h1 (by omega) ?_ | refine jv_hs ?_)) (by repeat' (first | assumption | exact ⟨_, by assumption⟩ | refine jv_h1 (by decide) ?_ | refine jv_h0 ?_ | refine jv_h1 (by omega) ?_ | refine jv_hs ?_)) hS (by have := i4 (by omega); omega) (by omega) (fun h5 te5 of5 le5 o5 u7 u8 u9 mo5 q5 fr5 => ?_))
                      have u5 := jv_fs_at (i := 105) fr5 (by decide) ((by repeat' (first | assumption | exact ⟨_, by assumption⟩ | refine jv_h1 (by decide) ?_ | refine jv_h0 ?_ | refine jv_h1 (by omega) ?_ | refine jv_hs ?_)) : _ = some (jv_ai 12 ta1))
                      have u6 := jv_fs_at (i := 106) fr5 (by decide) ((by repeat' (first | assumption | exact ⟨_, by assumption⟩ | refine jv_h1 (by decide) ?_ | refine jv_h0 ?_ | refine jv_h1 (by omega) ?_ | refine jv_hs ?_)) : _ = some (jv_ai 60 (jv_up re1 (5 * (6 + k) + pre.length) (jq_sn sg n (jq_sK sg n (jq_su sg n 4 a1 1).2.1)))))
                      have f5 := jv_fs_tr (jv_fs_set (by decide) (jv_fs_set (by decide) (jv_fs_set (by decide) f3))) (jv_fs_w (Q := [97, 105, 106, 107, 108, 109]) (by decide) fr5)
                      have x5 := jv_fs_at f5 (by decide) w
                      have e8 : jq_ts sg n a1 = ((jq_su sg n 4 (jq_sK sg n (jq_su sg n 4 a1 1).2.1 + 1) 1).1, (jq_su sg n 4 (jq_sK sg n (jq_su sg n 4 a1 1).2.1 + 1) 1).2.1, (jq_sn sg n (jq_sK sg n (jq_su sg n 4 a1 1).2.1), (jq_su sg n 4 a1 1).2.2, (jq_su sg n 4 (jq_sK sg n (jq_su sg n 4 a1 1).2.1 + 1) 1).2.2)) := by unfold jq_ts; rw [if_pos g1, if_pos hr]
                      have mu5 : jq_Mu (5 * (6 + k) + pre.length) ((5 * (6 + k) + pre.length) + 1) re1 te2 of2 le2 (jv_up re1 (5 * (6 + k) + pre.length) (jq_sn sg n (jq_sK sg n (jq_su sg n 4 a1 1).2.1))) te5 of5 le5 := ⟨fun j z => jv_up_n _ (by omega), (jq_Mu_su (re := re1) mo5 (Or.inr rfl)).2.1, (jq_Mu_su (re := re1) mo5 (Or.inr rfl)).2.2⟩
                      have muT := jq_Mu_tr mu2 mu5 (Int.le_refl _) (Int.le_refl _)
                      have hM5 := jq_Mu_tr hM muT (by omega) (by omega)
                      by_cases g2 : (jq_su sg n 4 (jq_sK sg n (jq_su sg n 4 a1 1).2.1 + 1) 1).1 = true
                      · rw [if_pos g2] at o5
                        have e9 : (jq_su sg n 4 (jq_sK sg n (jq_su sg n 4 a1 1).2.1 + 1) 1).2.1 = (jq_ts sg n a1).2.1 := by rw [e8]
                        rw [e9] at o5
                        rw [if_pos (show (jq_ts sg n a1).1 = true by rw [e8]; exact g2)] at hp
                        obtain ⟨q6, q7⟩ := q5 g2
                        have hN : jq_M1 (5 * (6 + k) + pre.length) (jq_ts sg n a1).2.2 (jv_up re1 (5 * (6 + k) + pre.length) (jq_sn sg n (jq_sK sg n (jq_su sg n 4 a1 1).2.1))) te5 of5 le5 := by
                          rw [e8]
                          exact ⟨jv_up_s _ _ _, ⟨by rw [mo5.1 _ (by omega)]; exact q3, jq_Me_k q4 i8 (fun j z1 z2 => mo5.2 j (by omega))⟩, q6, q7⟩
                        have hT5 := jq_MT_add hT hq4 muT hN
                        unfold jw_O at o5
                        refine jv_aload_n dX8_readState_157 rfl ?_
                        refine jv_getf dX8_readState_158 jf_X8_31 (by repeat' (first | assumption | exact ⟨_, by assumption⟩ | refine jv_h1 (by decide) ?_ | refine jv_h0 ?_ | refine jv_h1 (by omega) ?_ | refine jv_hs ?_)) (by exact rfl) ?_
                        refine jv_iload_n dX8_readState_161 rfl ?_
                        refine jv_dup2 dX8_readState_162 rfl rfl ?_
                        refine jv_iald dX8_readState_163 (by repeat' (first | assumption | exact ⟨_, by assumption⟩ | refine jv_h1 (by decide) ?_ | refine jv_h0 ?_ | refine jv_h1 (by omega) ?_ | refine jv_hs ?_)) ?_
                        rw [et]
                        refine jv_iconst dX8_readState_164 ?_
                        refine jv_iadd dX8_readState_165 ?_
                        refine jv_iast dX8_readState_166 (by repeat' (first | assumption | exact ⟨_, by assumption⟩ | refine jv_h1 (by decide) ?_ | refine jv_h0 ?_ | refine jv_h1 (by omega) ?_ | refine jv_hs ?_)) ?_
                        refine jv_aload_n dX8_readState_167 rfl ?_
                        refine jv_getf dX8_readState_168 jf_X8_130 (by repeat' (first | assumption | exact ⟨_, by assumption⟩ | refine jv_h1 (by decide) ?_ | refine jv_h0 ?_ | refine jv_h1 (by omega) ?_ | refine jv_hs ?_)) (by exact rfl) ?_
                        refine jv_if_ne 187 dX8_readState_171 (fun c171 => ?_) (fun c171 => ?_)
                        · exact absurd rfl c171
                        · refine jv_aload_n dX8_readState_174 rfl ?_
                          refine jv_cV dX8_readState_175 jm_X8_126 rfl (by repeat' (first | assumption | exact ⟨_, by assumption⟩ | refine jv_h1 (by decide) ?_ | refine jv_h0 ?_ | refine jv_h1 (by omega) ?_ | refine jv_hs ?_)) rfl (ct_X8_look (K + 2) ((by repeat' (first | assumption | exact ⟨_, by assumption⟩ | refine jv_h1 (by decide) ?_ | refine jv_h0 ?_ | refine jv_h1 (by omega) ?_ | refine jv_hs ?_)) : jw_O _ rr lv cu n st (jq_ts sg n a1).2.1 0 da ra wa) (by repeat' (first | assumption | exact ⟨_, by assumption⟩ | refine jv_h1 (by decide) ?_ | refine jv_h0 ?_ | refine jv_h1 (by omega) ?_ | refine jv_hs ?_)) hS tsi (fun h7 o7 fr7 => ?_))
                          have s5 := jv_fs_at (i := 105) fr7 (by decide) ((by repeat' (first | assumption | exact ⟨_, by assumption⟩ | refine jv_h1 (by decide) ?_ | refine jv_h0 ?_ | refine jv_h1 (by omega) ?_ | refine jv_hs ?_)) : _ = some (jv_ai 12 (jv_up ta1 (6 + k) (pre.length + 1))))
                          have s6 := jv_fs_at (i := 106) fr7 (by decide) ((by repeat' (first | assumption | exact ⟨_, by assumption⟩ | refine jv_h1 (by decide) ?_ | refine jv_h0 ?_ | refine jv_h1 (by omega) ?_ | refine jv_hs ?_)) : _ = some (jv_ai 60 (jv_up re1 (5 * (6 + k) + pre.length) (jq_sn sg n (jq_sK sg n (jq_su sg n 4 a1 1).2.1)))))
                          have s7 := jv_fs_at (i := 107) fr7 (by decide) ((by repeat' (first | assumption | exact ⟨_, by assumption⟩ | refine jv_h1 (by decide) ?_ | refine jv_h0 ?_ | refine jv_h1 (by omega) ?_ | refine jv_hs ?_)) : _ = some (jv_ai 120 te5))
                          have s8 := jv_fs_at (i := 108) fr7 (by decide) ((by repeat' (first | assumption | exact ⟨_, by assumption⟩ | refine jv_h1 (by decide) ?_ | refine jv_h0 ?_ | refine jv_h1 (by omega) ?_ | refine jv_hs ?_)) : _ = some (jv_ai 480 of5))
                          have s9 := jv_fs_at (i := 109) fr7 (by decide) ((by repeat' (first | assumption | exact ⟨_, by assumption⟩ | refine jv_h1 (by decide) ?_ | refine jv_h0 ?_ | refine jv_h1 (by omega) ?_ | refine jv_hs ?_)) : _ = some (jv_ai 480 le5))
                          have f7 := jv_fs_tr (jv_fs_set (by decide) f5) (jv_fs_w (Q := [97, 105, 106, 107, 108, 109]) (by decide) fr7)
                          unfold jw_O at o7
                          refine jv_bipush dX8_readState_178 ?_
                          refine jv_icmp_ne 187 dX8_readState_180 (fun c180 => ?_) (fun c180 => ?_)
                          · refine jv_iconst dX8_readState_187 ?_
                            refine jv_istore_n dX8_readState_188 rfl (Nat.le_of_ble_eq_true rfl) ?_
                            refine jv_aload_n dX8_readState_189 rfl ?_
                            refine jv_dup dX8_readState_190 rfl ?_
                            refine jv_getf dX8_readState_191 jf_X8_123 (by repeat' (first | assumption | exact ⟨_, by assumption⟩ | refine jv_h1 (by decide) ?_ | refine jv_h0 ?_ | refine jv_h1 (by omega) ?_ | refine jv_hs ?_)) (by exact rfl) ?_
                            refine jv_iload_n dX8_readState_194 rfl ?_
                            refine jv_if_eq 202 dX8_readState_195 (fun c195 => ?_) (fun c195 => ?_)
                            · refine jv_iconst dX8_readState_202 ?_
                              refine jv_iadd dX8_readState_203 ?_
                              rw [Int.add_zero]
                              refine jv_putf dX8_readState_204 jp_X8_123 (by repeat' (first | assumption | exact ⟨_, by assumption⟩ | refine jv_h1 (by decide) ?_ | refine jv_h0 ?_ | refine jv_h1 (by omega) ?_ | refine jv_hs ?_)) (by exact Nat.le_of_ble_eq_true rfl) ?_
                              refine jv_goto 14 dX8_readState_207 ?_
                              rw [if_neg c180] at hp
                              refine jv_iload_n dX8_readState_14 rfl ?_
                              refine jv_if_eq 210 dX8_readState_15 (fun c15 => ?_) (fun c15 => ?_)
                              · exact jv_vret dX8_readState_210 hq (hp _ _ _ te5 of5 le5 (by repeat' (first | assumption | exact ⟨_, by assumption⟩ | refine jv_h1 (by decide) ?_ | refine jv_h0 ?_ | refine jv_h1 (by omega) ?_ | refine jv_hs ?_)) (by repeat' (first | assumption | exact ⟨_, by assumption⟩ | refine jv_h1 (by decide) ?_ | refine jv_h0 ?_ | refine jv_h1 (by omega) ?_ | refine jv_hs ?_)) (by repeat' (first | assumption | exact ⟨_, by assumption⟩ | refine jv_h1 (by decide) ?_ | refine jv_h0 ?_ | refine jv_h1 (by omega) ?_ | refine jv_hs ?_)) (by repeat' (first | assumption | exact ⟨_, by assumption⟩ | refine jv_h1 (by decide) ?_ | refine jv_h0 ?_ | refine jv_h1 (by omega) ?_ | refine jv_hs ?_)) (by repeat' (first | assumption | exact ⟨_, by assumption⟩ | refine jv_h1 (by decide) ?_ | refine jv_h0 ?_ | refine jv_h1 (by omega) ?_ | refine jv_hs ?_)) (by repeat' (first | assumption | exact ⟨_, by assumption⟩ | refine jv_h1 (by decide) ?_ | refine jv_h0 ?_ | refine jv_h1 (by omega) ?_ | refine jv_hs ?_)) (fun j z => by rw [jv_up_n _ z]; exact ho j z) hM5 (fun _ => ⟨by rw [jv_up_s]; simp, hT5⟩) (jv_fs_set (by decide) f7))
                              · exact absurd rfl c15
                            · exact absurd rfl c195
                          · refine jv_iconst dX8_readState_183 ?_
                            refine jv_goto 188 dX8_readState_184 ?_
                            refine jv_istore_n dX8_readState_188 rfl (Nat.le_of_ble_eq_true rfl) ?_
                            refine jv_aload_n dX8_readState_189 rfl ?_
                            refine jv_dup dX8_readState_190 rfl ?_
                            refine jv_getf dX8_readState_191 jf_X8_123 (by repeat' (first | assumption | exact ⟨_, by assumption⟩ | refine jv_h1 (by decide) ?_ | refine jv_h0 ?_ | refine jv_h1 (by omega) ?_ | refine jv_hs ?_)) (by exact rfl) ?_
                            refine jv_iload_n dX8_readState_194 rfl ?_
                            refine jv_if_eq 202 dX8_readState_195 (fun c195 => ?_) (fun c195 => ?_)
                            · exact absurd c195 (by omega)
                            · refine jv_iconst dX8_readState_198 ?_
                              refine jv_goto 203 dX8_readState_199 ?_
                              refine jv_iadd dX8_readState_203 ?_
                              refine jv_putf dX8_readState_204 jp_X8_123 (by repeat' (first | assumption | exact ⟨_, by assumption⟩ | refine jv_h1 (by decide) ?_ | refine jv_h0 ?_ | refine jv_h1 (by omega) ?_ | refine jv_hs ?_)) (by exact Nat.le_of_ble_eq_true rfl) ?_
                              refine jv_goto 14 dX8_readState_207 ?_
                              rw [if_pos c180] at hp
                              exact jv_les (by repeat' (first | exact True.intro | exact rfl | apply And.intro)) (ih (jq_sK sg n (jq_ts sg n a1).2.1 + 1) _ _ _ te5 of5 le5 (pre ++ [(jq_ts sg n a1).2.2]) (by simp; omega) (by have := j4 (by omega); omega) (by repeat' (first | assumption | exact ⟨_, by assumption⟩ | refine jv_h1 (by decide) ?_ | refine jv_h0 ?_ | refine jv_h1 (by omega) ?_ | refine jv_hs ?_)) (by repeat' (first | assumption | exact ⟨_, by assumption⟩ | refine jv_h1 (by decide) ?_ | refine jv_h0 ?_ | refine jv_h1 (by omega) ?_ | refine jv_hs ?_)) (by repeat' (first | assumption | exact ⟨_, by assumption⟩ | refine jv_h1 (by decide) ?_ | refine jv_h0 ?_ | refine jv_h1 (by omega) ?_ | refine jv_hs ?_)) (by repeat' (first | assumption | exact ⟨_, by assumption⟩ | refine jv_h1 (by decide) ?_ | refine jv_h0 ?_ | refine jv_h1 (by omega) ?_ | refine jv_hs ?_)) (by repeat' (first | assumption | exact ⟨_, by assumption⟩ | refine jv_h1 (by decide) ?_ | refine jv_h0 ?_ | refine jv_h1 (by omega) ?_ | refine jv_hs ?_)) (by repeat' (first | assumption | exact ⟨_, by assumption⟩ | refine jv_h1 (by decide) ?_ | refine jv_h0 ?_ | refine jv_h1 (by omega) ?_ | refine jv_hs ?_)) (by rw [jv_up_s]; simp) (fun j z => by rw [jv_up_n _ z]; exact ho j z) hM5 hT5 (fun T z => by rcases List.mem_append.mp z with y | y; exact hq4 T y; rw [List.mem_singleton.mp y]; exact tsl) (jv_fs_set (by decide) f7) (fun h' ta' re' te' of' le' v1 v2 v3 v4 v5 v6 v7 v8 v9 v10 => hp h' ta' re' te' of' le' v1 v2 v3 v4 v5 v6 v7 v8 (fun z => by have := v9 z; rw [List.append_assoc] at this; exact this) v10))
                      · rw [if_neg g2] at o5
                        have e9 : (jq_su sg n 4 (jq_sK sg n (jq_su sg n 4 a1 1).2.1 + 1) 1).2.1 = (jq_ts sg n a1).2.1 := by rw [e8]
                        rw [e9] at o5
                        rw [if_neg (show ¬ (jq_ts sg n a1).1 = true by rw [e8]; exact g2)] at hp
                        unfold jw_O at o5
                        refine jv_aload_n dX8_readState_157 rfl ?_
                        refine jv_getf dX8_readState_158 jf_X8_31 (by repeat' (first | assumption | exact ⟨_, by assumption⟩ | refine jv_h1 (by decide) ?_ | refine jv_h0 ?_ | refine jv_h1 (by omega) ?_ | refine jv_hs ?_)) (by exact rfl) ?_
                        refine jv_iload_n dX8_readState_161 rfl ?_
                        refine jv_dup2 dX8_readState_162 rfl rfl ?_
                        refine jv_iald dX8_readState_163 (by repeat' (first | assumption | exact ⟨_, by assumption⟩ | refine jv_h1 (by decide) ?_ | refine jv_h0 ?_ | refine jv_h1 (by omega) ?_ | refine jv_hs ?_)) ?_
                        rw [et]
                        refine jv_iconst dX8_readState_164 ?_
                        refine jv_iadd dX8_readState_165 ?_
                        refine jv_iast dX8_readState_166 (by repeat' (first | assumption | exact ⟨_, by assumption⟩ | refine jv_h1 (by decide) ?_ | refine jv_h0 ?_ | refine jv_h1 (by omega) ?_ | refine jv_hs ?_)) ?_
                        refine jv_aload_n dX8_readState_167 rfl ?_
                        refine jv_getf dX8_readState_168 jf_X8_130 (by repeat' (first | assumption | exact ⟨_, by assumption⟩ | refine jv_h1 (by decide) ?_ | refine jv_h0 ?_ | refine jv_h1 (by omega) ?_ | refine jv_hs ?_)) (by exact rfl) ?_
                        refine jv_if_ne 187 dX8_readState_171 (fun c171 => ?_) (fun c171 => ?_)
                        · refine jv_iconst dX8_readState_187 ?_
                          refine jv_istore_n dX8_readState_188 rfl (Nat.le_of_ble_eq_true rfl) ?_
                          refine jv_aload_n dX8_readState_189 rfl ?_
                          refine jv_dup dX8_readState_190 rfl ?_
                          refine jv_getf dX8_readState_191 jf_X8_123 (by repeat' (first | assumption | exact ⟨_, by assumption⟩ | refine jv_h1 (by decide) ?_ | refine jv_h0 ?_ | refine jv_h1 (by omega) ?_ | refine jv_hs ?_)) (by exact rfl) ?_
                          refine jv_iload_n dX8_readState_194 rfl ?_
                          refine jv_if_eq 202 dX8_readState_195 (fun c195 => ?_) (fun c195 => ?_)
                          · refine jv_iconst dX8_readState_202 ?_
                            refine jv_iadd dX8_readState_203 ?_
                            rw [Int.add_zero]
                            refine jv_putf dX8_readState_204 jp_X8_123 (by repeat' (first | assumption | exact ⟨_, by assumption⟩ | refine jv_h1 (by decide) ?_ | refine jv_h0 ?_ | refine jv_h1 (by omega) ?_ | refine jv_hs ?_)) (by exact Nat.le_of_ble_eq_true rfl) ?_
                            refine jv_goto 14 dX8_readState_207 ?_
                            refine jv_iload_n dX8_readState_14 rfl ?_
                            refine jv_if_eq 210 dX8_readState_15 (fun c15 => ?_) (fun c15 => ?_)
                            · exact jv_vret dX8_readState_210 hq (hp _ (jv_up ta1 (6 + k) (pre.length + 1)) (jv_up re1 (5 * (6 + k) + pre.length) (jq_sn sg n (jq_sK sg n (jq_su sg n 4 a1 1).2.1))) te5 of5 le5 (by repeat' (first | assumption | exact ⟨_, by assumption⟩ | refine jv_h1 (by decide) ?_ | refine jv_h0 ?_ | refine jv_h1 (by omega) ?_ | refine jv_hs ?_)) (by repeat' (first | assumption | exact ⟨_, by assumption⟩ | refine jv_h1 (by decide) ?_ | refine jv_h0 ?_ | refine jv_h1 (by omega) ?_ | refine jv_hs ?_)) (by repeat' (first | assumption | exact ⟨_, by assumption⟩ | refine jv_h1 (by decide) ?_ | refine jv_h0 ?_ | refine jv_h1 (by omega) ?_ | refine jv_hs ?_)) (by repeat' (first | assumption | exact ⟨_, by assumption⟩ | refine jv_h1 (by decide) ?_ | refine jv_h0 ?_ | refine jv_h1 (by omega) ?_ | refine jv_hs ?_)) (by repeat' (first | assumption | exact ⟨_, by assumption⟩ | refine jv_h1 (by decide) ?_ | refine jv_h0 ?_ | refine jv_h1 (by omega) ?_ | refine jv_hs ?_)) (by repeat' (first | assumption | exact ⟨_, by assumption⟩ | refine jv_h1 (by decide) ?_ | refine jv_h0 ?_ | refine jv_h1 (by omega) ?_ | refine jv_hs ?_)) (fun j z => by rw [jv_up_n _ z]; exact ho j z) hM5 (fun z => by cases z) (jv_fs_set (by decide) (jv_fs_set (by decide) f5)))
                            · exact absurd rfl c15
                          · exact absurd rfl c195
                        · exact absurd c171 (by omega)
                  · refine jv_iload dX8_readState_99 rfl ?_
                    refine jv_bipush dX8_readState_101 ?_
                    refine jv_icmp_eq 117 dX8_readState_103 (fun c103 => ?_) (fun c103 => ?_)
                    · have hr : jq_sn sg n (jq_sK sg n (jq_su sg n 4 a1 1).2.1) = 60 ∨ jq_sn sg n (jq_sK sg n (jq_su sg n 4 a1 1).2.1) = 62 ∨ jq_sn sg n (jq_sK sg n (jq_su sg n 4 a1 1).2.1) = 61 := by omega
                      refine jv_iconst dX8_readState_117 ?_
                      refine jv_putf dX8_readState_118 jp_X8_130 (by repeat' (first | assumption | exact ⟨_, by assumption⟩ | refine jv_h1 (by decide) ?_ | refine jv_h0 ?_ | refine jv_h1 (by omega) ?_ | refine jv_hs ?_)) (by exact Nat.le_of_ble_eq_true rfl) ?_ (jv_bn (by omega)) (jv_bf (by omega))
                      refine jv_aload_n dX8_readState_121 rfl ?_
                      refine jv_getf dX8_readState_122 jf_X8_130 (by repeat' (first | assumption | exact ⟨_, by assumption⟩ | refine jv_h1 (by decide) ?_ | refine jv_h0 ?_ | refine jv_h1 (by omega) ?_ | refine jv_hs ?_)) (by exact rfl) ?_
                      refine jv_if_ne 167 dX8_readState_125 (fun c125 => ?_) (fun c125 => ?_)
                      · exact absurd rfl c125
                      · refine jv_aload_n dX8_readState_128 rfl ?_
                        refine jv_getf dX8_readState_129 jf_X8_34 (by repeat' (first | assumption | exact ⟨_, by assumption⟩ | refine jv_h1 (by decide) ?_ | refine jv_h0 ?_ | refine jv_h1 (by omega) ?_ | refine jv_hs ?_)) (by exact rfl) ?_
                        refine jv_iload dX8_readState_132 rfl ?_
                        refine jv_iload dX8_readState_134 rfl ?_
                        refine jv_iast dX8_readState_136 (by repeat' (first | assumption | exact ⟨_, by assumption⟩ | refine jv_h1 (by decide) ?_ | refine jv_h0 ?_ | refine jv_h1 (by omega) ?_ | refine jv_hs ?_)) ?_
                        refine jv_aload_n dX8_readState_137 rfl ?_
                        refine jv_dup dX8_readState_138 rfl ?_
                        refine jv_getf dX8_readState_139 jf_X8_123 (by repeat' (first | assumption | exact ⟨_, by assumption⟩ | refine jv_h1 (by decide) ?_ | refine jv_h0 ?_ | refine jv_h1 (by omega) ?_ | refine jv_hs ?_)) (by exact rfl) ?_
                        refine jv_iconst dX8_readState_142 ?_
                        refine jv_iadd dX8_readState_143 ?_
                        refine jv_putf dX8_readState_144 jp_X8_123 (by repeat' (first | assumption | exact ⟨_, by assumption⟩ | refine jv_h1 (by decide) ?_ | refine jv_h0 ?_ | refine jv_h1 (by omega) ?_ | refine jv_hs ?_)) (by exact Nat.le_of_ble_eq_true rfl) ?_
                        refine jv_aload_n dX8_readState_147 rfl ?_
                        refine jv_iconst dX8_readState_148 ?_
                        refine jv_iload dX8_readState_149 rfl ?_
                        refine jv_imul dX8_readState_151 ?_
                        refine jv_iconst dX8_readState_152 ?_
                        refine jv_iadd dX8_readState_153 ?_
                        refine jv_cV dX8_readState_154 jm_X8_142 rfl (by repeat' (first | assumption | exact ⟨_, by assumption⟩ | refine jv_h1 (by decide) ?_ | refine jv_h0 ?_ | refine jv_h1 (by omega) ?_ | refine jv_hs ?_)) rfl (ct_X8_readSum K ((by repeat' (first | assumption | exact ⟨_, by assumption⟩ | refine jv_h1 (by decide) ?_ | refine jv_h0 ?_ | refine jv_h1 (by omega) ?_ | refine jv_hs ?_)) : jw_O _ rr lv cu n st (jq_sK sg n (jq_su sg n 4 a1 1).2.1 + 1) 0 da ra wa) (by repeat' (first | assumption | exact ⟨_, by assumption⟩ | refine jv_h1 (by decide) ?_ | refine jv_h0 ?_ | refine jv_h1 (by omega) ?_ | refine jv_hs ?_)) (by repeat' (first | assumption | exact ⟨_, by assumption⟩ | refine jv_h1 (by decide) ?_ | refine jv_h0 ?_ | refine jv_h1 (by omega) ?_ | refine jv_hs ?_)) (by repeat' (first | assumption | exact ⟨_, by assumption⟩ | refine jv_h1 (by decide) ?_ | refine jv_h0 ?_ | refine jv_h1 (by omega) ?_ | refine jv_hs ?_)) (by repeat' (first | assumption | exact ⟨_, by assumption⟩ | refine jv_h1 (by decide) ?_ | refine jv_h0 ?_ | refine jv_h1 (by omega) ?_ | refine jv_hs ?_)) hS (by have := i4 (by omega); omega) (by omega) (fun h5 te5 of5 le5 o5 u7 u8 u9 mo5 q5 fr5 => ?_))
                        have u5 := jv_fs_at (i := 105) fr5 (by decide) ((by repeat' (first | assumption | exact ⟨_, by assumption⟩ | refine jv_h1 (by decide) ?_ | refine jv_h0 ?_ | refine jv_h1 (by omega) ?_ | refine jv_hs ?_)) : _ = some (jv_ai 12 ta1))
                        have u6 := jv_fs_at (i := 106) fr5 (by decide) ((by repeat' (first | assumption | exact ⟨_, by assumption⟩ | refine jv_h1 (by decide) ?_ | refine jv_h0 ?_ | refine jv_h1 (by omega) ?_ | refine jv_hs ?_)) : _ = some (jv_ai 60 (jv_up re1 (5 * (6 + k) + pre.length) (jq_sn sg n (jq_sK sg n (jq_su sg n 4 a1 1).2.1)))))
                        have f5 := jv_fs_tr (jv_fs_set (by decide) (jv_fs_set (by decide) (jv_fs_set (by decide) f3))) (jv_fs_w (Q := [97, 105, 106, 107, 108, 109]) (by decide) fr5)
                        have x5 := jv_fs_at f5 (by decide) w
                        have e8 : jq_ts sg n a1 = ((jq_su sg n 4 (jq_sK sg n (jq_su sg n 4 a1 1).2.1 + 1) 1).1, (jq_su sg n 4 (jq_sK sg n (jq_su sg n 4 a1 1).2.1 + 1) 1).2.1, (jq_sn sg n (jq_sK sg n (jq_su sg n 4 a1 1).2.1), (jq_su sg n 4 a1 1).2.2, (jq_su sg n 4 (jq_sK sg n (jq_su sg n 4 a1 1).2.1 + 1) 1).2.2)) := by unfold jq_ts; rw [if_pos g1, if_pos hr]
                        have mu5 : jq_Mu (5 * (6 + k) + pre.length) ((5 * (6 + k) + pre.length) + 1) re1 te2 of2 le2 (jv_up re1 (5 * (6 + k) + pre.length) (jq_sn sg n (jq_sK sg n (jq_su sg n 4 a1 1).2.1))) te5 of5 le5 := ⟨fun j z => jv_up_n _ (by omega), (jq_Mu_su (re := re1) mo5 (Or.inr rfl)).2.1, (jq_Mu_su (re := re1) mo5 (Or.inr rfl)).2.2⟩
                        have muT := jq_Mu_tr mu2 mu5 (Int.le_refl _) (Int.le_refl _)
                        have hM5 := jq_Mu_tr hM muT (by omega) (by omega)
                        by_cases g2 : (jq_su sg n 4 (jq_sK sg n (jq_su sg n 4 a1 1).2.1 + 1) 1).1 = true
                        · rw [if_pos g2] at o5
                          have e9 : (jq_su sg n 4 (jq_sK sg n (jq_su sg n 4 a1 1).2.1 + 1) 1).2.1 = (jq_ts sg n a1).2.1 := by rw [e8]
                          rw [e9] at o5
                          rw [if_pos (show (jq_ts sg n a1).1 = true by rw [e8]; exact g2)] at hp
                          obtain ⟨q6, q7⟩ := q5 g2
                          have hN : jq_M1 (5 * (6 + k) + pre.length) (jq_ts sg n a1).2.2 (jv_up re1 (5 * (6 + k) + pre.length) (jq_sn sg n (jq_sK sg n (jq_su sg n 4 a1 1).2.1))) te5 of5 le5 := by
                            rw [e8]
                            exact ⟨jv_up_s _ _ _, ⟨by rw [mo5.1 _ (by omega)]; exact q3, jq_Me_k q4 i8 (fun j z1 z2 => mo5.2 j (by omega))⟩, q6, q7⟩
                          have hT5 := jq_MT_add hT hq4 muT hN
                          unfold jw_O at o5
                          refine jv_aload_n dX8_readState_157 rfl ?_
                          refine jv_getf dX8_readState_158 jf_X8_31 (by repeat' (first | assumption | exact ⟨_, by assumption⟩ | refine jv_h1 (by decide) ?_ | refine jv_h0 ?_ | refine jv_h1 (by omega) ?_ | refine jv_hs ?_)) (by exact rfl) ?_
                          refine jv_iload_n dX8_readState_161 rfl ?_
                          refine jv_dup2 dX8_readState_162 rfl rfl ?_
                          refine jv_iald dX8_readState_163 (by repeat' (first | assumption | exact ⟨_, by assumption⟩ | refine jv_h1 (by decide) ?_ | refine jv_h0 ?_ | refine jv_h1 (by omega) ?_ | refine jv_hs ?_)) ?_
                          rw [et]
                          refine jv_iconst dX8_readState_164 ?_
                          refine jv_iadd dX8_readState_165 ?_
                          refine jv_iast dX8_readState_166 (by repeat' (first | assumption | exact ⟨_, by assumption⟩ | refine jv_h1 (by decide) ?_ | refine jv_h0 ?_ | refine jv_h1 (by omega) ?_ | refine jv_hs ?_)) ?_
                          refine jv_aload_n dX8_readState_167 rfl ?_
                          refine jv_getf dX8_readState_168 jf_X8_130 (by repeat' (first | assumption | exact ⟨_, by assumption⟩ | refine jv_h1 (by decide) ?_ | refine jv_h0 ?_ | refine jv_h1 (by omega) ?_ | refine jv_hs ?_)) (by exact rfl) ?_
                          refine jv_if_ne 187 dX8_readState_171 (fun c171 => ?_) (fun c171 => ?_)
                          · exact absurd rfl c171
                          · refine jv_aload_n dX8_readState_174 rfl ?_
                            refine jv_cV dX8_readState_175 jm_X8_126 rfl (by repeat' (first | assumption | exact ⟨_, by assumption⟩ | refine jv_h1 (by decide) ?_ | refine jv_h0 ?_ | refine jv_h1 (by omega) ?_ | refine jv_hs ?_)) rfl (ct_X8_look (K + 2) ((by repeat' (first | assumption | exact ⟨_, by assumption⟩ | refine jv_h1 (by decide) ?_ | refine jv_h0 ?_ | refine jv_h1 (by omega) ?_ | refine jv_hs ?_)) : jw_O _ rr lv cu n st (jq_ts sg n a1).2.1 0 da ra wa) (by repeat' (first | assumption | exact ⟨_, by assumption⟩ | refine jv_h1 (by decide) ?_ | refine jv_h0 ?_ | refine jv_h1 (by omega) ?_ | refine jv_hs ?_)) hS tsi (fun h7 o7 fr7 => ?_))
                            have s5 := jv_fs_at (i := 105) fr7 (by decide) ((by repeat' (first | assumption | exact ⟨_, by assumption⟩ | refine jv_h1 (by decide) ?_ | refine jv_h0 ?_ | refine jv_h1 (by omega) ?_ | refine jv_hs ?_)) : _ = some (jv_ai 12 (jv_up ta1 (6 + k) (pre.length + 1))))
                            have s6 := jv_fs_at (i := 106) fr7 (by decide) ((by repeat' (first | assumption | exact ⟨_, by assumption⟩ | refine jv_h1 (by decide) ?_ | refine jv_h0 ?_ | refine jv_h1 (by omega) ?_ | refine jv_hs ?_)) : _ = some (jv_ai 60 (jv_up re1 (5 * (6 + k) + pre.length) (jq_sn sg n (jq_sK sg n (jq_su sg n 4 a1 1).2.1)))))
                            have s7 := jv_fs_at (i := 107) fr7 (by decide) ((by repeat' (first | assumption | exact ⟨_, by assumption⟩ | refine jv_h1 (by decide) ?_ | refine jv_h0 ?_ | refine jv_h1 (by omega) ?_ | refine jv_hs ?_)) : _ = some (jv_ai 120 te5))
                            have s8 := jv_fs_at (i := 108) fr7 (by decide) ((by repeat' (first | assumption | exact ⟨_, by assumption⟩ | refine jv_h1 (by decide) ?_ | refine jv_h0 ?_ | refine jv_h1 (by omega) ?_ | refine jv_hs ?_)) : _ = some (jv_ai 480 of5))
                            have s9 := jv_fs_at (i := 109) fr7 (by decide) ((by repeat' (first | assumption | exact ⟨_, by assumption⟩ | refine jv_h1 (by decide) ?_ | refine jv_h0 ?_ | refine jv_h1 (by omega) ?_ | refine jv_hs ?_)) : _ = some (jv_ai 480 le5))
                            have f7 := jv_fs_tr (jv_fs_set (by decide) f5) (jv_fs_w (Q := [97, 105, 106, 107, 108, 109]) (by decide) fr7)
                            unfold jw_O at o7
                            refine jv_bipush dX8_readState_178 ?_
                            refine jv_icmp_ne 187 dX8_readState_180 (fun c180 => ?_) (fun c180 => ?_)
                            · refine jv_iconst dX8_readState_187 ?_
                              refine jv_istore_n dX8_readState_188 rfl (Nat.le_of_ble_eq_true rfl) ?_
                              refine jv_aload_n dX8_readState_189 rfl ?_
                              refine jv_dup dX8_readState_190 rfl ?_
                              refine jv_getf dX8_readState_191 jf_X8_123 (by repeat' (first | assumption | exact ⟨_, by assumption⟩ | refine jv_h1 (by decide) ?_ | refine jv_h0 ?_ | refine jv_h1 (by omega) ?_ | refine jv_hs ?_)) (by exact rfl) ?_
                              refine jv_iload_n dX8_readState_194 rfl ?_
                              refine jv_if_eq 202 dX8_readState_195 (fun c195 => ?_) (fun c195 => ?_)
                              · refine jv_iconst dX8_readState_202 ?_
                                refine jv_iadd dX8_readState_203 ?_
                                rw [Int.add_zero]
                                refine jv_putf dX8_readState_204 jp_X8_123 (by repeat' (first | assumption | exact ⟨_, by assumption⟩ | refine jv_h1 (by decide) ?_ | refine jv_h0 ?_ | refine jv_h1 (by omega) ?_ | refine jv_hs ?_)) (by exact Nat.le_of_ble_eq_true rfl) ?_
                                refine jv_goto 14 dX8_readState_207 ?_
                                rw [if_neg c180] at hp
                                refine jv_iload_n dX8_readState_14 rfl ?_
                                refine jv_if_eq 210 dX8_readState_15 (fun c15 => ?_) (fun c15 => ?_)
                                · exact jv_vret dX8_readState_210 hq (hp _ _ _ te5 of5 le5 (by repeat' (first | assumption | exact ⟨_, by assumption⟩ | refine jv_h1 (by decide) ?_ | refine jv_h0 ?_ | refine jv_h1 (by omega) ?_ | refine jv_hs ?_)) (by repeat' (first | assumption | exact ⟨_, by assumption⟩ | refine jv_h1 (by decide) ?_ | refine jv_h0 ?_ | refine jv_h1 (by omega) ?_ | refine jv_hs ?_)) (by repeat' (first | assumption | exact ⟨_, by assumption⟩ | refine jv_h1 (by decide) ?_ | refine jv_h0 ?_ | refine jv_h1 (by omega) ?_ | refine jv_hs ?_)) (by repeat' (first | assumption | exact ⟨_, by assumption⟩ | refine jv_h1 (by decide) ?_ | refine jv_h0 ?_ | refine jv_h1 (by omega) ?_ | refine jv_hs ?_)) (by repeat' (first | assumption | exact ⟨_, by assumption⟩ | refine jv_h1 (by decide) ?_ | refine jv_h0 ?_ | refine jv_h1 (by omega) ?_ | refine jv_hs ?_)) (by repeat' (first | assumption | exact ⟨_, by assumption⟩ | refine jv_h1 (by decide) ?_ | refine jv_h0 ?_ | refine jv_h1 (by omega) ?_ | refine jv_hs ?_)) (fun j z => by rw [jv_up_n _ z]; exact ho j z) hM5 (fun _ => ⟨by rw [jv_up_s]; simp, hT5⟩) (jv_fs_set (by decide) f7))
                                · exact absurd rfl c15
                              · exact absurd rfl c195
                            · refine jv_iconst dX8_readState_183 ?_
                              refine jv_goto 188 dX8_readState_184 ?_
                              refine jv_istore_n dX8_readState_188 rfl (Nat.le_of_ble_eq_true rfl) ?_
                              refine jv_aload_n dX8_readState_189 rfl ?_
                              refine jv_dup dX8_readState_190 rfl ?_
                              refine jv_getf dX8_readState_191 jf_X8_123 (by repeat' (first | assumption | exact ⟨_, by assumption⟩ | refine jv_h1 (by decide) ?_ | refine jv_h0 ?_ | refine jv_h1 (by omega) ?_ | refine jv_hs ?_)) (by exact rfl) ?_
                              refine jv_iload_n dX8_readState_194 rfl ?_
                              refine jv_if_eq 202 dX8_readState_195 (fun c195 => ?_) (fun c195 => ?_)
                              · exact absurd c195 (by omega)
                              · refine jv_iconst dX8_readState_198 ?_
                                refine jv_goto 203 dX8_readState_199 ?_
                                refine jv_iadd dX8_readState_203 ?_
                                refine jv_putf dX8_readState_204 jp_X8_123 (by repeat' (first | assumption | exact ⟨_, by assumption⟩ | refine jv_h1 (by decide) ?_ | refine jv_h0 ?_ | refine jv_h1 (by omega) ?_ | refine jv_hs ?_)) (by exact Nat.le_of_ble_eq_true rfl) ?_
                                refine jv_goto 14 dX8_readState_207 ?_
                                rw [if_pos c180] at hp
                                exact jv_les (by repeat' (first | exact True.intro | exact rfl | apply And.intro)) (ih (jq_sK sg n (jq_ts sg n a1).2.1 + 1) _ _ _ te5 of5 le5 (pre ++ [(jq_ts sg n a1).2.2]) (by simp; omega) (by have := j4 (by omega); omega) (by repeat' (first | assumption | exact ⟨_, by assumption⟩ | refine jv_h1 (by decide) ?_ | refine jv_h0 ?_ | refine jv_h1 (by omega) ?_ | refine jv_hs ?_)) (by repeat' (first | assumption | exact ⟨_, by assumption⟩ | refine jv_h1 (by decide) ?_ | refine jv_h0 ?_ | refine jv_h1 (by omega) ?_ | refine jv_hs ?_)) (by repeat' (first | assumption | exact ⟨_, by assumption⟩ | refine jv_h1 (by decide) ?_ | refine jv_h0 ?_ | refine jv_h1 (by omega) ?_ | refine jv_hs ?_)) (by repeat' (first | assumption | exact ⟨_, by assumption⟩ | refine jv_h1 (by decide) ?_ | refine jv_h0 ?_ | refine jv_h1 (by omega) ?_ | refine jv_hs ?_)) (by repeat' (first | assumption | exact ⟨_, by assumption⟩ | refine jv_h1 (by decide) ?_ | refine jv_h0 ?_ | refine jv_h1 (by omega) ?_ | refine jv_hs ?_)) (by repeat' (first | assumption | exact ⟨_, by assumption⟩ | refine jv_h1 (by decide) ?_ | refine jv_h0 ?_ | refine jv_h1 (by omega) ?_ | refine jv_hs ?_)) (by rw [jv_up_s]; simp) (fun j z => by rw [jv_up_n _ z]; exact ho j z) hM5 hT5 (fun T z => by rcases List.mem_append.mp z with y | y; exact hq4 T y; rw [List.mem_singleton.mp y]; exact tsl) (jv_fs_set (by decide) f7) (fun h' ta' re' te' of' le' v1 v2 v3 v4 v5 v6 v7 v8 v9 v10 => hp h' ta' re' te' of' le' v1 v2 v3 v4 v5 v6 v7 v8 (fun z => by have := v9 z; rw [List.append_assoc] at this; exact this) v10))
                        · rw [if_neg g2] at o5
                          have e9 : (jq_su sg n 4 (jq_sK sg n (jq_su sg n 4 a1 1).2.1 + 1) 1).2.1 = (jq_ts sg n a1).2.1 := by rw [e8]
                          rw [e9] at o5
                          rw [if_neg (show ¬ (jq_ts sg n a1).1 = true by rw [e8]; exact g2)] at hp
                          unfold jw_O at o5
                          refine jv_aload_n dX8_readState_157 rfl ?_
                          refine jv_getf dX8_readState_158 jf_X8_31 (by repeat' (first | assumption | exact ⟨_, by assumption⟩ | refine jv_h1 (by decide) ?_ | refine jv_h0 ?_ | refine jv_h1 (by omega) ?_ | refine jv_hs ?_)) (by exact rfl) ?_
                          refine jv_iload_n dX8_readState_161 rfl ?_
                          refine jv_dup2 dX8_readState_162 rfl rfl ?_
                          refine jv_iald dX8_readState_163 (by repeat' (first | assumption | exact ⟨_, by assumption⟩ | refine jv_h1 (by decide) ?_ | refine jv_h0 ?_ | refine jv_h1 (by omega) ?_ | refine jv_hs ?_)) ?_
                          rw [et]
                          refine jv_iconst dX8_readState_164 ?_
                          refine jv_iadd dX8_readState_165 ?_
                          refine jv_iast dX8_readState_166 (by repeat' (first | assumption | exact ⟨_, by assumption⟩ | refine jv_h1 (by decide) ?_ | refine jv_h0 ?_ | refine jv_h1 (by omega) ?_ | refine jv_hs ?_)) ?_
                          refine jv_aload_n dX8_readState_167 rfl ?_
                          refine jv_getf dX8_readState_168 jf_X8_130 (by repeat' (first | assumption | exact ⟨_, by assumption⟩ | refine jv_h1 (by decide) ?_ | refine jv_h0 ?_ | refine jv_h1 (by omega) ?_ | refine jv_hs ?_)) (by exact rfl) ?_
                          refine jv_if_ne 187 dX8_readState_171 (fun c171 => ?_) (fun c171 => ?_)
                          · refine jv_iconst dX8_readState_187 ?_
                            refine jv_istore_n dX8_readState_188 rfl (Nat.le_of_ble_eq_true rfl) ?_
                            refine jv_aload_n dX8_readState_189 rfl ?_
                            refine jv_dup dX8_readState_190 rfl ?_
                            refine jv_getf dX8_readState_191 jf_X8_123 (by repeat' (first | assumption | exact ⟨_, by assumption⟩ | refine jv_h1 (by decide) ?_ | refine jv_h0 ?_ | refine jv_h1 (by omega) ?_ | refine jv_hs ?_)) (by exact rfl) ?_
                            refine jv_iload_n dX8_readState_194 rfl ?_
                            refine jv_if_eq 202 dX8_readState_195 (fun c195 => ?_) (fun c195 => ?_)
                            · refine jv_iconst dX8_readState_202 ?_
                              refine jv_iadd dX8_readState_203 ?_
                              rw [Int.add_zero]
                              refine jv_putf dX8_readState_204 jp_X8_123 (by repeat' (first | assumption | exact ⟨_, by assumption⟩ | refine jv_h1 (by decide) ?_ | refine jv_h0 ?_ | refine jv_h1 (by omega) ?_ | refine jv_hs ?_)) (by exact Nat.le_of_ble_eq_true rfl) ?_
                              refine jv_goto 14 dX8_readState_207 ?_
                              refine jv_iload_n dX8_readState_14 rfl ?_
                              refine jv_if_eq 210 dX8_readState_15 (fun c15 => ?_) (fun c15 => ?_)
                              · exact jv_vret dX8_readState_210 hq (hp _ (jv_up ta1 (6 + k) (pre.length + 1)) (jv_up re1 (5 * (6 + k) + pre.length) (jq_sn sg n (jq_sK sg n (jq_su sg n 4 a1 1).2.1))) te5 of5 le5 (by repeat' (first | assumption | exact ⟨_, by assumption⟩ | refine jv_h1 (by decide) ?_ | refine jv_h0 ?_ | refine jv_h1 (by omega) ?_ | refine jv_hs ?_)) (by repeat' (first | assumption | exact ⟨_, by assumption⟩ | refine jv_h1 (by decide) ?_ | refine jv_h0 ?_ | refine jv_h1 (by omega) ?_ | refine jv_hs ?_)) (by repeat' (first | assumption | exact ⟨_, by assumption⟩ | refine jv_h1 (by decide) ?_ | refine jv_h0 ?_ | refine jv_h1 (by omega) ?_ | refine jv_hs ?_)) (by repeat' (first | assumption | exact ⟨_, by assumption⟩ | refine jv_h1 (by decide) ?_ | refine jv_h0 ?_ | refine jv_h1 (by omega) ?_ | refine jv_hs ?_)) (by repeat' (first | assumption | exact ⟨_, by assumption⟩ | refine jv_h1 (by decide) ?_ | refine jv_h0 ?_ | refine jv_h1 (by omega) ?_ | refine jv_hs ?_)) (by repeat' (first | assumption | exact ⟨_, by assumption⟩ | refine jv_h1 (by decide) ?_ | refine jv_h0 ?_ | refine jv_h1 (by omega) ?_ | refine jv_hs ?_)) (fun j z => by rw [jv_up_n _ z]; exact ho j z) hM5 (fun z => by cases z) (jv_fs_set (by decide) (jv_fs_set (by decide) f5)))
                              · exact absurd rfl c15
                            · exact absurd rfl c195
                          · exact absurd c171 (by omega)
                    · refine jv_iload dX8_readState_106 rfl ?_
                      refine jv_bipush dX8_readState_108 ?_
                      refine jv_icmp_eq 117 dX8_readState_110 (fun c110 => ?_) (fun c110 => ?_)
                      · have hr : jq_sn sg n (jq_sK sg n (jq_su sg n 4 a1 1).2.1) = 60 ∨ jq_sn sg n (jq_sK sg n (jq_su sg n 4 a1 1).2.1) = 62 ∨ jq_sn sg n (jq_sK sg n (jq_su sg n 4 a1 1).2.1) = 61 := by omega
                        refine jv_iconst dX8_readState_117 ?_
                        refine jv_putf dX8_readState_118 jp_X8_130 (by repeat' (first | assumption | exact ⟨_, by assumption⟩ | refine jv_h1 (by decide) ?_ | refine jv_h0 ?_ | refine jv_h1 (by omega) ?_ | refine jv_hs ?_)) (by exact Nat.le_of_ble_eq_true rfl) ?_ (jv_bn (by omega)) (jv_bf (by omega))
                        refine jv_aload_n dX8_readState_121 rfl ?_
                        refine jv_getf dX8_readState_122 jf_X8_130 (by repeat' (first | assumption | exact ⟨_, by assumption⟩ | refine jv_h1 (by decide) ?_ | refine jv_h0 ?_ | refine jv_h1 (by omega) ?_ | refine jv_hs ?_)) (by exact rfl) ?_
                        refine jv_if_ne 167 dX8_readState_125 (fun c125 => ?_) (fun c125 => ?_)
                        · exact absurd rfl c125
                        · refine jv_aload_n dX8_readState_128 rfl ?_
                          refine jv_getf dX8_readState_129 jf_X8_34 (by repeat' (first | assumption | exact ⟨_, by assumption⟩ | refine jv_h1 (by decide) ?_ | refine jv_h0 ?_ | refine jv_h1 (by omega) ?_ | refine jv_hs ?_)) (by exact rfl) ?_
                          refine jv_iload dX8_readState_132 rfl ?_
                          refine jv_iload dX8_readState_134 rfl ?_
                          refine jv_iast dX8_readState_136 (by repeat' (first | assumption | exact ⟨_, by assumption⟩ | refine jv_h1 (by decide) ?_ | refine jv_h0 ?_ | refine jv_h1 (by omega) ?_ | refine jv_hs ?_)) ?_
                          refine jv_aload_n dX8_readState_137 rfl ?_
                          refine jv_dup dX8_readState_138 rfl ?_
                          refine jv_getf dX8_readState_139 jf_X8_123 (by repeat' (first | assumption | exact ⟨_, by assumption⟩ | refine jv_h1 (by decide) ?_ | refine jv_h0 ?_ | refine jv_h1 (by omega) ?_ | refine jv_hs ?_)) (by exact rfl) ?_
                          refine jv_iconst dX8_readState_142 ?_
                          refine jv_iadd dX8_readState_143 ?_
                          refine jv_putf dX8_readState_144 jp_X8_123 (by repeat' (first | assumption | exact ⟨_, by assumption⟩ | refine jv_h1 (by decide) ?_ | refine jv_h0 ?_ | refine jv_h1 (by omega) ?_ | refine jv_hs ?_)) (by exact Nat.le_of_ble_eq_true rfl) ?_
                          refine jv_aload_n dX8_readState_147 rfl ?_
                          refine jv_iconst dX8_readState_148 ?_
                          refine jv_iload dX8_readState_149 rfl ?_
                          refine jv_imul dX8_readState_151 ?_
                          refine jv_iconst dX8_readState_152 ?_
                          refine jv_iadd dX8_readState_153 ?_
                          refine jv_cV dX8_readState_154 jm_X8_142 rfl (by repeat' (first | assumption | exact ⟨_, by assumption⟩ | refine jv_h1 (by decide) ?_ | refine jv_h0 ?_ | refine jv_h1 (by omega) ?_ | refine jv_hs ?_)) rfl (ct_X8_readSum K ((by repeat' (first | assumption | exact ⟨_, by assumption⟩ | refine jv_h1 (by decide) ?_ | refine jv_h0 ?_ | refine jv_h1 (by omega) ?_ | refine jv_hs ?_)) : jw_O _ rr lv cu n st (jq_sK sg n (jq_su sg n 4 a1 1).2.1 + 1) 0 da ra wa) (by repeat' (first | assumption | exact ⟨_, by assumption⟩ | refine jv_h1 (by decide) ?_ | refine jv_h0 ?_ | refine jv_h1 (by omega) ?_ | refine jv_hs ?_)) (by repeat' (first | assumption | exact ⟨_, by assumption⟩ | refine jv_h1 (by decide) ?_ | refine jv_h0 ?_ | refine jv_h1 (by omega) ?_ | refine jv_hs ?_)) (by repeat' (first | assumption | exact ⟨_, by assumption⟩ | refine jv_h1 (by decide) ?_ | refine jv_h0 ?_ | refine jv_h1 (by omega) ?_ | refine jv_hs ?_)) (by repeat' (first | assumption | exact ⟨_, by assumption⟩ | refine jv_h1 (by decide) ?_ | refine jv_h0 ?_ | refine jv_h1 (by omega) ?_ | refine jv_hs ?_)) hS (by have := i4 (by omega); omega) (by omega) (fun h5 te5 of5 le5 o5 u7 u8 u9 mo5 q5 fr5 => ?_))
                          have u5 := jv_fs_at (i := 105) fr5 (by decide) ((by repeat' (first | assumption | exact ⟨_, by assumption⟩ | refine jv_h1 (by decide) ?_ | refine jv_h0 ?_ | refine jv_h1 (by omega) ?_ | refine jv_hs ?_)) : _ = some (jv_ai 12 ta1))
                          have u6 := jv_fs_at (i := 106) fr5 (by decide) ((by repeat' (first | assumption | exact ⟨_, by assumption⟩ | refine jv_h1 (by decide) ?_ | refine jv_h0 ?_ | refine jv_h1 (by omega) ?_ | refine jv_hs ?_)) : _ = some (jv_ai 60 (jv_up re1 (5 * (6 + k) + pre.length) (jq_sn sg n (jq_sK sg n (jq_su sg n 4 a1 1).2.1)))))
                          have f5 := jv_fs_tr (jv_fs_set (by decide) (jv_fs_set (by decide) (jv_fs_set (by decide) f3))) (jv_fs_w (Q := [97, 105, 106, 107, 108, 109]) (by decide) fr5)
                          have x5 := jv_fs_at f5 (by decide) w
                          have e8 : jq_ts sg n a1 = ((jq_su sg n 4 (jq_sK sg n (jq_su sg n 4 a1 1).2.1 + 1) 1).1, (jq_su sg n 4 (jq_sK sg n (jq_su sg n 4 a1 1).2.1 + 1) 1).2.1, (jq_sn sg n (jq_sK sg n (jq_su sg n 4 a1 1).2.1), (jq_su sg n 4 a1 1).2.2, (jq_su sg n 4 (jq_sK sg n (jq_su sg n 4 a1 1).2.1 + 1) 1).2.2)) := by unfold jq_ts; rw [if_pos g1, if_pos hr]
                          have mu5 : jq_Mu (5 * (6 + k) + pre.length) ((5 * (6 + k) + pre.length) + 1) re1 te2 of2 le2 (jv_up re1 (5 * (6 + k) + pre.length) (jq_sn sg n (jq_sK sg n (jq_su sg n 4 a1 1).2.1))) te5 of5 le5 := ⟨fun j z => jv_up_n _ (by omega), (jq_Mu_su (re := re1) mo5 (Or.inr rfl)).2.1, (jq_Mu_su (re := re1) mo5 (Or.inr rfl)).2.2⟩
                          have muT := jq_Mu_tr mu2 mu5 (Int.le_refl _) (Int.le_refl _)
                          have hM5 := jq_Mu_tr hM muT (by omega) (by omega)
                          by_cases g2 : (jq_su sg n 4 (jq_sK sg n (jq_su sg n 4 a1 1).2.1 + 1) 1).1 = true
                          · rw [if_pos g2] at o5
                            have e9 : (jq_su sg n 4 (jq_sK sg n (jq_su sg n 4 a1 1).2.1 + 1) 1).2.1 = (jq_ts sg n a1).2.1 := by rw [e8]
                            rw [e9] at o5
                            rw [if_pos (show (jq_ts sg n a1).1 = true by rw [e8]; exact g2)] at hp
                            obtain ⟨q6, q7⟩ := q5 g2
                            have hN : jq_M1 (5 * (6 + k) + pre.length) (jq_ts sg n a1).2.2 (jv_up re1 (5 * (6 + k) + pre.length) (jq_sn sg n (jq_sK sg n (jq_su sg n 4 a1 1).2.1))) te5 of5 le5 := by
                              rw [e8]
                              exact ⟨jv_up_s _ _ _, ⟨by rw [mo5.1 _ (by omega)]; exact q3, jq_Me_k q4 i8 (fun j z1 z2 => mo5.2 j (by omega))⟩, q6, q7⟩
                            have hT5 := jq_MT_add hT hq4 muT hN
                            unfold jw_O at o5
                            refine jv_aload_n dX8_readState_157 rfl ?_
                            refine jv_getf dX8_readState_158 jf_X8_31 (by repeat' (first | assumption | exact ⟨_, by assumption⟩ | refine jv_h1 (by decide) ?_ | refine jv_h0 ?_ | refine jv_h1 (by omega) ?_ | refine jv_hs ?_)) (by exact rfl) ?_
                            refine jv_iload_n dX8_readState_161 rfl ?_
                            refine jv_dup2 dX8_readState_162 rfl rfl ?_
                            refine jv_iald dX8_readState_163 (by repeat' (first | assumption | exact ⟨_, by assumption⟩ | refine jv_h1 (by decide) ?_ | refine jv_h0 ?_ | refine jv_h1 (by omega) ?_ | refine jv_hs ?_)) ?_
                            rw [et]
                            refine jv_iconst dX8_readState_164 ?_
                            refine jv_iadd dX8_readState_165 ?_
                            refine jv_iast dX8_readState_166 (by repeat' (first | assumption | exact ⟨_, by assumption⟩ | refine jv_h1 (by decide) ?_ | refine jv_h0 ?_ | refine jv_h1 (by omega) ?_ | refine jv_hs ?_)) ?_
                            refine jv_aload_n dX8_readState_167 rfl ?_
                            refine jv_getf dX8_readState_168 jf_X8_130 (by repeat' (first | assumption | exact ⟨_, by assumption⟩ | refine jv_h1 (by decide) ?_ | refine jv_h0 ?_ | refine jv_h1 (by omega) ?_ | refine jv_hs ?_)) (by exact rfl) ?_
                            refine jv_if_ne 187 dX8_readState_171 (fun c171 => ?_) (fun c171 => ?_)
                            · exact absurd rfl c171
                            · refine jv_aload_n dX8_readState_174 rfl ?_
                              refine jv_cV dX8_readState_175 jm_X8_126 rfl (by repeat' (first | assumption | exact ⟨_, by assumption⟩ | refine jv_h1 (by decide) ?_ | refine jv_h0 ?_ | refine jv_h1 (by omega) ?_ | refine jv_hs ?_)) rfl (ct_X8_look (K + 2) ((by repeat' (first | assumption | exact ⟨_, by assumption⟩ | refine jv_h1 (by decide) ?_ | refine jv_h0 ?_ | refine jv_h1 (by omega) ?_ | refine jv_hs ?_)) : jw_O _ rr lv cu n st (jq_ts sg n a1).2.1 0 da ra wa) (by repeat' (first | assumption | exact ⟨_, by assumption⟩ | refine jv_h1 (by decide) ?_ | refine jv_h0 ?_ | refine jv_h1 (by omega) ?_ | refine jv_hs ?_)) hS tsi (fun h7 o7 fr7 => ?_))
                              have s5 := jv_fs_at (i := 105) fr7 (by decide) ((by repeat' (first | assumption | exact ⟨_, by assumption⟩ | refine jv_h1 (by decide) ?_ | refine jv_h0 ?_ | refine jv_h1 (by omega) ?_ | refine jv_hs ?_)) : _ = some (jv_ai 12 (jv_up ta1 (6 + k) (pre.length + 1))))
                              have s6 := jv_fs_at (i := 106) fr7 (by decide) ((by repeat' (first | assumption | exact ⟨_, by assumption⟩ | refine jv_h1 (by decide) ?_ | refine jv_h0 ?_ | refine jv_h1 (by omega) ?_ | refine jv_hs ?_)) : _ = some (jv_ai 60 (jv_up re1 (5 * (6 + k) + pre.length) (jq_sn sg n (jq_sK sg n (jq_su sg n 4 a1 1).2.1)))))
                              have s7 := jv_fs_at (i := 107) fr7 (by decide) ((by repeat' (first | assumption | exact ⟨_, by assumption⟩ | refine jv_h1 (by decide) ?_ | refine jv_h0 ?_ | refine jv_h1 (by omega) ?_ | refine jv_hs ?_)) : _ = some (jv_ai 120 te5))
                              have s8 := jv_fs_at (i := 108) fr7 (by decide) ((by repeat' (first | assumption | exact ⟨_, by assumption⟩ | refine jv_h1 (by decide) ?_ | refine jv_h0 ?_ | refine jv_h1 (by omega) ?_ | refine jv_hs ?_)) : _ = some (jv_ai 480 of5))
                              have s9 := jv_fs_at (i := 109) fr7 (by decide) ((by repeat' (first | assumption | exact ⟨_, by assumption⟩ | refine jv_h1 (by decide) ?_ | refine jv_h0 ?_ | refine jv_h1 (by omega) ?_ | refine jv_hs ?_)) : _ = some (jv_ai 480 le5))
                              have f7 := jv_fs_tr (jv_fs_set (by decide) f5) (jv_fs_w (Q := [97, 105, 106, 107, 108, 109]) (by decide) fr7)
                              unfold jw_O at o7
                              refine jv_bipush dX8_readState_178 ?_
                              refine jv_icmp_ne 187 dX8_readState_180 (fun c180 => ?_) (fun c180 => ?_)
                              · refine jv_iconst dX8_readState_187 ?_
                                refine jv_istore_n dX8_readState_188 rfl (Nat.le_of_ble_eq_true rfl) ?_
                                refine jv_aload_n dX8_readState_189 rfl ?_
                                refine jv_dup dX8_readState_190 rfl ?_
                                refine jv_getf dX8_readState_191 jf_X8_123 (by repeat' (first | assumption | exact ⟨_, by assumption⟩ | refine jv_h1 (by decide) ?_ | refine jv_h0 ?_ | refine jv_h1 (by omega) ?_ | refine jv_hs ?_)) (by exact rfl) ?_
                                refine jv_iload_n dX8_readState_194 rfl ?_
                                refine jv_if_eq 202 dX8_readState_195 (fun c195 => ?_) (fun c195 => ?_)
                                · refine jv_iconst dX8_readState_202 ?_
                                  refine jv_iadd dX8_readState_203 ?_
                                  rw [Int.add_zero]
                                  refine jv_putf dX8_readState_204 jp_X8_123 (by repeat' (first | assumption | exact ⟨_, by assumption⟩ | refine jv_h1 (by decide) ?_ | refine jv_h0 ?_ | refine jv_h1 (by omega) ?_ | refine jv_hs ?_)) (by exact Nat.le_of_ble_eq_true rfl) ?_
                                  refine jv_goto 14 dX8_readState_207 ?_
                                  rw [if_neg c180] at hp
                                  refine jv_iload_n dX8_readState_14 rfl ?_
                                  refine jv_if_eq 210 dX8_readState_15 (fun c15 => ?_) (fun c15 => ?_)
                                  · exact jv_vret dX8_readState_210 hq (hp _ _ _ te5 of5 le5 (by repeat' (first | assumption | exact ⟨_, by assumption⟩ | refine jv_h1 (by decide) ?_ | refine jv_h0 ?_ | refine jv_h1 (by omega) ?_ | refine jv_hs ?_)) (by repeat' (first | assumption | exact ⟨_, by assumption⟩ | refine jv_h1 (by decide) ?_ | refine jv_h0 ?_ | refine jv_h1 (by omega) ?_ | refine jv_hs ?_)) (by repeat' (first | assumption | exact ⟨_, by assumption⟩ | refine jv_h1 (by decide) ?_ | refine jv_h0 ?_ | refine jv_h1 (by omega) ?_ | refine jv_hs ?_)) (by repeat' (first | assumption | exact ⟨_, by assumption⟩ | refine jv_h1 (by decide) ?_ | refine jv_h0 ?_ | refine jv_h1 (by omega) ?_ | refine jv_hs ?_)) (by repeat' (first | assumption | exact ⟨_, by assumption⟩ | refine jv_h1 (by decide) ?_ | refine jv_h0 ?_ | refine jv_h1 (by omega) ?_ | refine jv_hs ?_)) (by repeat' (first | assumption | exact ⟨_, by assumption⟩ | refine jv_h1 (by decide) ?_ | refine jv_h0 ?_ | refine jv_h1 (by omega) ?_ | refine jv_hs ?_)) (fun j z => by rw [jv_up_n _ z]; exact ho j z) hM5 (fun _ => ⟨by rw [jv_up_s]; simp, hT5⟩) (jv_fs_set (by decide) f7))
                                  · exact absurd rfl c15
                                · exact absurd rfl c195
                              · refine jv_iconst dX8_readState_183 ?_
                                refine jv_goto 188 dX8_readState_184 ?_
                                refine jv_istore_n dX8_readState_188 rfl (Nat.le_of_ble_eq_true rfl) ?_
                                refine jv_aload_n dX8_readState_189 rfl ?_
                                refine jv_dup dX8_readState_190 rfl ?_
                                refine jv_getf dX8_readState_191 jf_X8_123 (by repeat' (first | assumption | exact ⟨_, by assumption⟩ | refine jv_h1 (by decide) ?_ | refine jv_h0 ?_ | refine jv_h1 (by omega) ?_ | refine jv_hs ?_)) (by exact rfl) ?_
                                refine jv_iload_n dX8_readState_194 rfl ?_
                                refine jv_if_eq 202 dX8_readState_195 (fun c195 => ?_) (fun c195 => ?_)
                                · exact absurd c195 (by omega)
                                · refine jv_iconst dX8_readState_198 ?_
                                  refine jv_goto 203 dX8_readState_199 ?_
                                  refine jv_iadd dX8_readState_203 ?_
                                  refine jv_putf dX8_readState_204 jp_X8_123 (by repeat' (first | assumption | exact ⟨_, by assumption⟩ | refine jv_h1 (by decide) ?_ | refine jv_h0 ?_ | refine jv_h1 (by omega) ?_ | refine jv_hs ?_)) (by exact Nat.le_of_ble_eq_true rfl) ?_
                                  refine jv_goto 14 dX8_readState_207 ?_
                                  rw [if_pos c180] at hp
                                  exact jv_les (by repeat' (first | exact True.intro | exact rfl | apply And.intro)) (ih (jq_sK sg n (jq_ts sg n a1).2.1 + 1) _ _ _ te5 of5 le5 (pre ++ [(jq_ts sg n a1).2.2]) (by simp; omega) (by have := j4 (by omega); omega) (by repeat' (first | assumption | exact ⟨_, by assumption⟩ | refine jv_h1 (by decide) ?_ | refine jv_h0 ?_ | refine jv_h1 (by omega) ?_ | refine jv_hs ?_)) (by repeat' (first | assumption | exact ⟨_, by assumption⟩ | refine jv_h1 (by decide) ?_ | refine jv_h0 ?_ | refine jv_h1 (by omega) ?_ | refine jv_hs ?_)) (by repeat' (first | assumption | exact ⟨_, by assumption⟩ | refine jv_h1 (by decide) ?_ | refine jv_h0 ?_ | refine jv_h1 (by omega) ?_ | refine jv_hs ?_)) (by repeat' (first | assumption | exact ⟨_, by assumption⟩ | refine jv_h1 (by decide) ?_ | refine jv_h0 ?_ | refine jv_h1 (by omega) ?_ | refine jv_hs ?_)) (by repeat' (first | assumption | exact ⟨_, by assumption⟩ | refine jv_h1 (by decide) ?_ | refine jv_h0 ?_ | refine jv_h1 (by omega) ?_ | refine jv_hs ?_)) (by repeat' (first | assumption | exact ⟨_, by assumption⟩ | refine jv_h1 (by decide) ?_ | refine jv_h0 ?_ | refine jv_h1 (by omega) ?_ | refine jv_hs ?_)) (by rw [jv_up_s]; simp) (fun j z => by rw [jv_up_n _ z]; exact ho j z) hM5 hT5 (fun T z => by rcases List.mem_append.mp z with y | y; exact hq4 T y; rw [List.mem_singleton.mp y]; exact tsl) (jv_fs_set (by decide) f7) (fun h' ta' re' te' of' le' v1 v2 v3 v4 v5 v6 v7 v8 v9 v10 => hp h' ta' re' te' of' le' v1 v2 v3 v4 v5 v6 v7 v8 (fun z => by have := v9 z; rw [List.append_assoc] at this; exact this) v10))
                          · rw [if_neg g2] at o5
                            have e9 : (jq_su sg n 4 (jq_sK sg n (jq_su sg n 4 a1 1).2.1 + 1) 1).2.1 = (jq_ts sg n a1).2.1 := by rw [e8]
                            rw [e9] at o5
                            rw [if_neg (show ¬ (jq_ts sg n a1).1 = true by rw [e8]; exact g2)] at hp
                            unfold jw_O at o5
                            refine jv_aload_n dX8_readState_157 rfl ?_
                            refine jv_getf dX8_readState_158 jf_X8_31 (by repeat' (first | assumption | exact ⟨_, by assumption⟩ | refine jv_h1 (by decide) ?_ | refine jv_h0 ?_ | refine jv_h1 (by omega) ?_ | refine jv_hs ?_)) (by exact rfl) ?_
                            refine jv_iload_n dX8_readState_161 rfl ?_
                            refine jv_dup2 dX8_readState_162 rfl rfl ?_
                            refine jv_iald dX8_readState_163 (by repeat' (first | assumption | exact ⟨_, by assumption⟩ | refine jv_h1 (by decide) ?_ | refine jv_h0 ?_ | refine jv_h1 (by omega) ?_ | refine jv_hs ?_)) ?_
                            rw [et]
                            refine jv_iconst dX8_readState_164 ?_
                            refine jv_iadd dX8_readState_165 ?_
                            refine jv_iast dX8_readState_166 (by repeat' (first | assumption | exact ⟨_, by assumption⟩ | refine jv_h1 (by decide) ?_ | refine jv_h0 ?_ | refine jv_h1 (by omega) ?_ | refine jv_hs ?_)) ?_
                            refine jv_aload_n dX8_readState_167 rfl ?_
                            refine jv_getf dX8_readState_168 jf_X8_130 (by repeat' (first | assumption | exact ⟨_, by assumption⟩ | refine jv_h1 (by decide) ?_ | refine jv_h0 ?_ | refine jv_h1 (by omega) ?_ | refine jv_hs ?_)) (by exact rfl) ?_
                            refine jv_if_ne 187 dX8_readState_171 (fun c171 => ?_) (fun c171 => ?_)
                            · refine jv_iconst dX8_readState_187 ?_
                              refine jv_istore_n dX8_readState_188 rfl (Nat.le_of_ble_eq_true rfl) ?_
                              refine jv_aload_n dX8_readState_189 rfl ?_
                              refine jv_dup dX8_readState_190 rfl ?_
                              refine jv_getf dX8_readState_191 jf_X8_123 (by repeat' (first | assumption | exact ⟨_, by assumption⟩ | refine jv_h1 (by decide) ?_ | refine jv_h0 ?_ | refine jv_h1 (by omega) ?_ | refine jv_hs ?_)) (by exact rfl) ?_
                              refine jv_iload_n dX8_readState_194 rfl ?_
                              refine jv_if_eq 202 dX8_readState_195 (fun c195 => ?_) (fun c195 => ?_)
                              · refine jv_iconst dX8_readState_202 ?_
                                refine jv_iadd dX8_readState_203 ?_
                                rw [Int.add_zero]
                                refine jv_putf dX8_readState_204 jp_X8_123 (by repeat' (first | assumption | exact ⟨_, by assumption⟩ | refine jv_h1 (by decide) ?_ | refine jv_h0 ?_ | refine jv_h1 (by omega) ?_ | refine jv_hs ?_)) (by exact Nat.le_of_ble_eq_true rfl) ?_
                                refine jv_goto 14 dX8_readState_207 ?_
                                refine jv_iload_n dX8_readState_14 rfl ?_
                                refine jv_if_eq 210 dX8_readState_15 (fun c15 => ?_) (fun c15 => ?_)
                                · exact jv_vret dX8_readState_210 hq (hp _ (jv_up ta1 (6 + k) (pre.length + 1)) (jv_up re1 (5 * (6 + k) + pre.length) (jq_sn sg n (jq_sK sg n (jq_su sg n 4 a1 1).2.1))) te5 of5 le5 (by repeat' (first | assumption | exact ⟨_, by assumption⟩ | refine jv_h1 (by decide) ?_ | refine jv_h0 ?_ | refine jv_h1 (by omega) ?_ | refine jv_hs ?_)) (by repeat' (first | assumption | exact ⟨_, by assumption⟩ | refine jv_h1 (by decide) ?_ | refine jv_h0 ?_ | refine jv_h1 (by omega) ?_ | refine jv_hs ?_)) (by repeat' (first | assumption | exact ⟨_, by assumption⟩ | refine jv_h1 (by decide) ?_ | refine jv_h0 ?_ | refine jv_h1 (by omega) ?_ | refine jv_hs ?_)) (by repeat' (first | assumption | exact ⟨_, by assumption⟩ | refine jv_h1 (by decide) ?_ | refine jv_h0 ?_ | refine jv_h1 (by omega) ?_ | refine jv_hs ?_)) (by repeat' (first | assumption | exact ⟨_, by assumption⟩ | refine jv_h1 (by decide) ?_ | refine jv_h0 ?_ | refine jv_h1 (by omega) ?_ | refine jv_hs ?_)) (by repeat' (first | assumption | exact ⟨_, by assumption⟩ | refine jv_h1 (by decide) ?_ | refine jv_h0 ?_ | refine jv_h1 (by omega) ?_ | refine jv_hs ?_)) (fun j z => by rw [jv_up_n _ z]; exact ho j z) hM5 (fun z => by cases z) (jv_fs_set (by decide) (jv_fs_set (by decide) f5)))
                                · exact absurd rfl c15
                              · exact absurd rfl c195
                            · exact absurd c171 (by omega)
                      · have e7 : (jq_ts sg n a1).1 = false ∧ (jq_ts sg n a1).2.1 = jq_sK sg n (jq_su sg n 4 a1 1).2.1 := by unfold jq_ts; rw [if_pos g1, if_neg (by omega)]; exact ⟨rfl, rfl⟩
                        rw [if_neg (by rw [e7.1]; decide)] at hp
                        rw [← e7.2] at o4
                        refine jv_iconst dX8_readState_113 ?_
                        refine jv_goto 118 dX8_readState_114 ?_
                        refine jv_putf dX8_readState_118 jp_X8_130 (by repeat' (first | assumption | exact ⟨_, by assumption⟩ | refine jv_h1 (by decide) ?_ | refine jv_h0 ?_ | refine jv_h1 (by omega) ?_ | refine jv_hs ?_)) (by exact Nat.le_of_ble_eq_true rfl) ?_ (jv_bn (by omega)) (jv_bf (by omega))
                        refine jv_aload_n dX8_readState_121 rfl ?_
                        refine jv_getf dX8_readState_122 jf_X8_130 (by repeat' (first | assumption | exact ⟨_, by assumption⟩ | refine jv_h1 (by decide) ?_ | refine jv_h0 ?_ | refine jv_h1 (by omega) ?_ | refine jv_hs ?_)) (by exact rfl) ?_
                        refine jv_if_ne 167 dX8_readState_125 (fun c125 => ?_) (fun c125 => ?_)
                        · refine jv_aload_n dX8_readState_167 rfl ?_
                          refine jv_getf dX8_readState_168 jf_X8_130 (by repeat' (first | assumption | exact ⟨_, by assumption⟩ | refine jv_h1 (by decide) ?_ | refine jv_h0 ?_ | refine jv_h1 (by omega) ?_ | refine jv_hs ?_)) (by exact rfl) ?_
                          refine jv_if_ne 187 dX8_readState_171 (fun c171 => ?_) (fun c171 => ?_)
                          · refine jv_iconst dX8_readState_187 ?_
                            refine jv_istore_n dX8_readState_188 rfl (Nat.le_of_ble_eq_true rfl) ?_
                            refine jv_aload_n dX8_readState_189 rfl ?_
                            refine jv_dup dX8_readState_190 rfl ?_
                            refine jv_getf dX8_readState_191 jf_X8_123 (by repeat' (first | assumption | exact ⟨_, by assumption⟩ | refine jv_h1 (by decide) ?_ | refine jv_h0 ?_ | refine jv_h1 (by omega) ?_ | refine jv_hs ?_)) (by exact rfl) ?_
                            refine jv_iload_n dX8_readState_194 rfl ?_
                            refine jv_if_eq 202 dX8_readState_195 (fun c195 => ?_) (fun c195 => ?_)
                            · refine jv_iconst dX8_readState_202 ?_
                              refine jv_iadd dX8_readState_203 ?_
                              rw [Int.add_zero]
                              refine jv_putf dX8_readState_204 jp_X8_123 (by repeat' (first | assumption | exact ⟨_, by assumption⟩ | refine jv_h1 (by decide) ?_ | refine jv_h0 ?_ | refine jv_h1 (by omega) ?_ | refine jv_hs ?_)) (by exact Nat.le_of_ble_eq_true rfl) ?_
                              refine jv_goto 14 dX8_readState_207 ?_
                              refine jv_iload_n dX8_readState_14 rfl ?_
                              refine jv_if_eq 210 dX8_readState_15 (fun c15 => ?_) (fun c15 => ?_)
                              · exact jv_vret dX8_readState_210 hq (hp _ ta1 re1 te2 of2 le2 (by repeat' (first | assumption | exact ⟨_, by assumption⟩ | refine jv_h1 (by decide) ?_ | refine jv_h0 ?_ | refine jv_h1 (by omega) ?_ | refine jv_hs ?_)) (by repeat' (first | assumption | exact ⟨_, by assumption⟩ | refine jv_h1 (by decide) ?_ | refine jv_h0 ?_ | refine jv_h1 (by omega) ?_ | refine jv_hs ?_)) (by repeat' (first | assumption | exact ⟨_, by assumption⟩ | refine jv_h1 (by decide) ?_ | refine jv_h0 ?_ | refine jv_h1 (by omega) ?_ | refine jv_hs ?_)) (by repeat' (first | assumption | exact ⟨_, by assumption⟩ | refine jv_h1 (by decide) ?_ | refine jv_h0 ?_ | refine jv_h1 (by omega) ?_ | refine jv_hs ?_)) (by repeat' (first | assumption | exact ⟨_, by assumption⟩ | refine jv_h1 (by decide) ?_ | refine jv_h0 ?_ | refine jv_h1 (by omega) ?_ | refine jv_hs ?_)) (by repeat' (first | assumption | exact ⟨_, by assumption⟩ | refine jv_h1 (by decide) ?_ | refine jv_h0 ?_ | refine jv_h1 (by omega) ?_ | refine jv_hs ?_)) ho (jq_Mu_tr hM mu2 (by omega) (by omega)) (fun z => by cases z) (jv_fs_set (by decide) (jv_fs_set (by decide) f3)))
                              · exact absurd rfl c15
                            · exact absurd rfl c195
                          · exact absurd c171 (by omega)
                        · exact absurd c125 (by omega)
              · exact absurd rfl c71
            · rw [if_neg g1] at o2
              have e7 : (jq_ts sg n a1).1 = false ∧ (jq_ts sg n a1).2.1 = (jq_su sg n 4 a1 1).2.1 := by unfold jq_ts; rw [if_neg g1]; exact ⟨rfl, rfl⟩
              rw [if_neg (by rw [e7.1]; decide)] at hp
              rw [← e7.2] at o2
              unfold jw_O at o2
              refine jv_aload_n dX8_readState_67 rfl ?_
              refine jv_getf dX8_readState_68 jf_X8_130 (by repeat' (first | assumption | exact ⟨_, by assumption⟩ | refine jv_h1 (by decide) ?_ | refine jv_h0 ?_ | refine jv_h1 (by omega) ?_ | refine jv_hs ?_)) (by exact rfl) ?_
              refine jv_if_eq 78 dX8_readState_71 (fun c71 => ?_) (fun c71 => ?_)
              · exact absurd c71 (by omega)
              · refine jv_iconst dX8_readState_74 ?_
                refine jv_goto 82 dX8_readState_75 ?_
                refine jv_istore dX8_readState_82 rfl (Nat.le_of_ble_eq_true rfl) ?_
                refine jv_aload_n dX8_readState_84 rfl ?_
                refine jv_aload_n dX8_readState_85 rfl ?_
                refine jv_getf dX8_readState_86 jf_X8_130 (by repeat' (first | assumption | exact ⟨_, by assumption⟩ | refine jv_h1 (by decide) ?_ | refine jv_h0 ?_ | refine jv_h1 (by omega) ?_ | refine jv_hs ?_)) (by exact rfl) ?_
                refine jv_if_ne 113 dX8_readState_89 (fun c89 => ?_) (fun c89 => ?_)
                · refine jv_iconst dX8_readState_113 ?_
                  refine jv_goto 118 dX8_readState_114 ?_
                  refine jv_putf dX8_readState_118 jp_X8_130 (by repeat' (first | assumption | exact ⟨_, by assumption⟩ | refine jv_h1 (by decide) ?_ | refine jv_h0 ?_ | refine jv_h1 (by omega) ?_ | refine jv_hs ?_)) (by exact Nat.le_of_ble_eq_true rfl) ?_ (jv_bn (by omega)) (jv_bf (by omega))
                  refine jv_aload_n dX8_readState_121 rfl ?_
                  refine jv_getf dX8_readState_122 jf_X8_130 (by repeat' (first | assumption | exact ⟨_, by assumption⟩ | refine jv_h1 (by decide) ?_ | refine jv_h0 ?_ | refine jv_h1 (by omega) ?_ | refine jv_hs ?_)) (by exact rfl) ?_
                  refine jv_if_ne 167 dX8_readState_125 (fun c125 => ?_) (fun c125 => ?_)
                  · refine jv_aload_n dX8_readState_167 rfl ?_
                    refine jv_getf dX8_readState_168 jf_X8_130 (by repeat' (first | assumption | exact ⟨_, by assumption⟩ | refine jv_h1 (by decide) ?_ | refine jv_h0 ?_ | refine jv_h1 (by omega) ?_ | refine jv_hs ?_)) (by exact rfl) ?_
                    refine jv_if_ne 187 dX8_readState_171 (fun c171 => ?_) (fun c171 => ?_)
                    · refine jv_iconst dX8_readState_187 ?_
                      refine jv_istore_n dX8_readState_188 rfl (Nat.le_of_ble_eq_true rfl) ?_
                      refine jv_aload_n dX8_readState_189 rfl ?_
                      refine jv_dup dX8_readState_190 rfl ?_
                      refine jv_getf dX8_readState_191 jf_X8_123 (by repeat' (first | assumption | exact ⟨_, by assumption⟩ | refine jv_h1 (by decide) ?_ | refine jv_h0 ?_ | refine jv_h1 (by omega) ?_ | refine jv_hs ?_)) (by exact rfl) ?_
                      refine jv_iload_n dX8_readState_194 rfl ?_
                      refine jv_if_eq 202 dX8_readState_195 (fun c195 => ?_) (fun c195 => ?_)
                      · refine jv_iconst dX8_readState_202 ?_
                        refine jv_iadd dX8_readState_203 ?_
                        rw [Int.add_zero]
                        refine jv_putf dX8_readState_204 jp_X8_123 (by repeat' (first | assumption | exact ⟨_, by assumption⟩ | refine jv_h1 (by decide) ?_ | refine jv_h0 ?_ | refine jv_h1 (by omega) ?_ | refine jv_hs ?_)) (by exact Nat.le_of_ble_eq_true rfl) ?_
                        refine jv_goto 14 dX8_readState_207 ?_
                        refine jv_iload_n dX8_readState_14 rfl ?_
                        refine jv_if_eq 210 dX8_readState_15 (fun c15 => ?_) (fun c15 => ?_)
                        · exact jv_vret dX8_readState_210 hq (hp _ ta1 re1 te2 of2 le2 (by repeat' (first | assumption | exact ⟨_, by assumption⟩ | refine jv_h1 (by decide) ?_ | refine jv_h0 ?_ | refine jv_h1 (by omega) ?_ | refine jv_hs ?_)) (by repeat' (first | assumption | exact ⟨_, by assumption⟩ | refine jv_h1 (by decide) ?_ | refine jv_h0 ?_ | refine jv_h1 (by omega) ?_ | refine jv_hs ?_)) (by repeat' (first | assumption | exact ⟨_, by assumption⟩ | refine jv_h1 (by decide) ?_ | refine jv_h0 ?_ | refine jv_h1 (by omega) ?_ | refine jv_hs ?_)) (by repeat' (first | assumption | exact ⟨_, by assumption⟩ | refine jv_h1 (by decide) ?_ | refine jv_h0 ?_ | refine jv_h1 (by omega) ?_ | refine jv_hs ?_)) (by repeat' (first | assumption | exact ⟨_, by assumption⟩ | refine jv_h1 (by decide) ?_ | refine jv_h0 ?_ | refine jv_h1 (by omega) ?_ | refine jv_hs ?_)) (by repeat' (first | assumption | exact ⟨_, by assumption⟩ | refine jv_h1 (by decide) ?_ | refine jv_h0 ?_ | refine jv_h1 (by omega) ?_ | refine jv_hs ?_)) ho (jq_Mu_tr hM mu2 (by omega) (by omega)) (fun z => by cases z) (jv_fs_set (by decide) (jv_fs_set (by decide) f2)))
                        · exact absurd rfl c15
                      · exact absurd rfl c195
                    · exact absurd c171 (by omega)
                  · exact absurd c125 (by omega)
                · exact absurd c89 (by omega)
          · exact absurd c32 (by omega)
  unfold jw_O at o
  refine jv_bipush dX8_readState_0 ?_
  refine jv_iload_n dX8_readState_2 rfl ?_
  refine jv_iadd dX8_readState_3 ?_
  refine jv_istore_n dX8_readState_4 rfl (Nat.le_of_ble_eq_true rfl) ?_
  refine jv_aload_n dX8_readState_5 rfl ?_
  refine jv_getf dX8_readState_6 jf_X8_31 (by repeat' (first | assumption | exact ⟨_, by assumption⟩ | refine jv_h1 (by decide) ?_ | refine jv_h0 ?_ | refine jv_h1 (by omega) ?_ | refine jv_hs ?_)) (by exact rfl) ?_
  refine jv_iload_n dX8_readState_9 rfl ?_
  refine jv_iconst dX8_readState_10 ?_
  refine jv_iast dX8_readState_11 (by repeat' (first | assumption | exact ⟨_, by assumption⟩ | refine jv_h1 (by decide) ?_ | refine jv_h0 ?_ | refine jv_h1 (by omega) ?_ | refine jv_hs ?_)) ?_
  refine jv_iconst dX8_readState_12 ?_
  refine jv_istore_n dX8_readState_13 rfl (Nat.le_of_ble_eq_true rfl) ?_
  exact jv_les (by repeat' (first | exact True.intro | exact rfl | apply And.intro)) (loop 5 a _ (jv_up ta (6 + k) 0) re te of le [] (by simp) ha (by repeat' (first | assumption | exact ⟨_, by assumption⟩ | refine jv_h1 (by decide) ?_ | refine jv_h0 ?_ | refine jv_h1 (by omega) ?_ | refine jv_hs ?_)) (by repeat' (first | assumption | exact ⟨_, by assumption⟩ | refine jv_h1 (by decide) ?_ | refine jv_h0 ?_ | refine jv_h1 (by omega) ?_ | refine jv_hs ?_)) (by repeat' (first | assumption | exact ⟨_, by assumption⟩ | refine jv_h1 (by decide) ?_ | refine jv_h0 ?_ | refine jv_h1 (by omega) ?_ | refine jv_hs ?_)) (by repeat' (first | assumption | exact ⟨_, by assumption⟩ | refine jv_h1 (by decide) ?_ | refine jv_h0 ?_ | refine jv_h1 (by omega) ?_ | refine jv_hs ?_)) (by repeat' (first | assumption | exact ⟨_, by assumption⟩ | refine jv_h1 (by decide) ?_ | refine jv_h0 ?_ | refine jv_h1 (by omega) ?_ | refine jv_hs ?_)) (by repeat' (first | assumption | exact ⟨_, by assumption⟩ | refine jv_h1 (by decide) ?_ | refine jv_h0 ?_ | refine jv_h1 (by omega) ?_ | refine jv_hs ?_)) (jv_up_s _ _ _) (fun j z => jv_up_n _ z) jq_Mu_rf (fun j q z => by simp at z) (fun T z => by simp at z) (jv_fs_set (by decide) jv_fs_rf) hp)
end MST
