/-! the reference's readSum -/
/-- the terms l lie from place b on -/
def jq_Me (b : Int) (l : List (Int × Int)) (of le : Int → Int) : Prop := ∀ (j : Nat) (q : Int × Int), l[j]? = some q → le (b + j) = q.1 ∧ of (b + j) = q.2
theorem jq_Me_add {b : Int} {l : List (Int × Int)} {of le : Int → Int} (h : jq_Me b l of le) (c v : Int) : jq_Me b (l ++ [(c, v)]) (jv_up of (b + l.length) v) (jv_up le (b + l.length) c) := fun j q hj => by
  by_cases e : j < l.length
  · rw [List.getElem?_append_left e] at hj
    rw [jv_up_n _ (by omega), jv_up_n _ (by omega)]
    exact h j q hj
  · rw [List.getElem?_append_right (by omega)] at hj
    have e2 : j - l.length < 1 := (List.getElem?_eq_some_iff.mp hj).1
    have e3 : j = l.length := by omega
    subst e3
    rw [Nat.sub_self] at hj
    cases hj
    rw [jv_up_s, jv_up_s]
    exact ⟨rfl, rfl⟩
/-- only sum su's places differ -/
def jq_Mo (su : Int) (te of le te' of' le' : Int → Int) : Prop := (∀ j, j ≠ su → te' j = te j) ∧ ∀ j, (j < 4 * su ∨ 4 * su + 4 ≤ j) → of' j = of j ∧ le' j = le j
section MSU
variable {h : List jv_E} {rr lv cu n st a da ra wa : Int} {sg te of le : Int → Int} {post : Option Value → List jv_E → Prop}
theorem ct_X8_readSum {su : Int} (K : Nat) (o : jw_O h rr lv cu n st a 0 da ra wa) (w : h[104]? = some (jv_ai 300 sg)) (w1 : h[107]? = some (jv_ai 120 te)) (w2 : h[108]? = some (jv_ai 480 of)) (w3 : h[109]? = some (jv_ai 480 le)) (hS : jq_S n sg) (ha : 0 ≤ a ∧ a ≤ n) (hsu : 0 ≤ su ∧ su < 120) (hp : ∀ h' te' of' le', jw_O h' rr lv cu n st (jq_su sg n 4 a 1).2.1 (if (jq_su sg n 4 a 1).1 = true then 0 else 1) da ra wa → h'[107]? = some (jv_ai 120 te') → h'[108]? = some (jv_ai 480 of') → h'[109]? = some (jv_ai 480 le') → jq_Mo su te of le te' of' le' → ((jq_su sg n 4 a 1).1 = true → te' su = (jq_su sg n 4 a 1).2.2.length ∧ jq_Me (4 * su) (jq_su sg n 4 a 1).2.2 of' le') → jv_fs [97, 107, 108, 109] h h' → post none h') : jv_Ct yX8_readSum cX8_readSum 5 none (K + 2) [.ref 97, .int (jv_i su)] h post := by
  refine jv_entry (own := RX8) (by decide) rfl (Nat.le_of_ble_eq_true rfl) (fun X hq => ?_)
  have loop : ∀ (f : Nat) (a1 s mi : Int) (h1 : List jv_E) (te1 of1 le1 : Int → Int) (pre : List (Int × Int)), pre.length + f = 4 → (s = 1 ∧ mi = 0 ∨ s = -1 ∧ mi = 1) → 0 ≤ a1 ∧ a1 ≤ n → jw_O h1 rr lv cu n st a1 0 da ra wa → h1[107]? = some (jv_ai 120 te1) → h1[108]? = some (jv_ai 480 of1) → h1[109]? = some (jv_ai 480 le1) → te1 su = pre.length → jq_Me (4 * su) pre of1 le1 → jq_Mo su te of le te1 of1 le1 → jv_fs [97, 107, 108, 109] h h1 → (∀ h' te' of' le', jw_O h' rr lv cu n st (jq_su sg n f a1 s).2.1 (if (jq_su sg n f a1 s).1 = true then 0 else 1) da ra wa → h'[107]? = some (jv_ai 120 te') → h'[108]? = some (jv_ai 480 of') → h'[109]? = some (jv_ai 480 le') → jq_Mo su te of le te' of' le' → ((jq_su sg n f a1 s).1 = true → te' su = (pre ++ (jq_su sg n f a1 s).2.2).length ∧ jq_Me (4 * su) (pre ++ (jq_su sg n f a1 s).2.2) of' le') → jv_fs [97, 107, 108, 109] h h' → post none h') → jv_J X cX8_readSum RX8 (K + 2) 11 [some (.ref 97), some (.int (jv_i su)), some (.int (jv_i 1)), some (.int (jv_i mi)), none] [] h1 := by
    intro f
    induction f with
    | zero =>
      intro a1 s mi h1 te1 of1 le1 pre e hs ha1 o y1 y2 y3 et hM hO fr hp
      have x1 := jv_fs_at fr (by decide) w
      have o9 := o
      unfold jw_O at o
      refine jv_iload_n dX8_readSum_11 rfl ?_
      refine jv_if_eq 142 dX8_readSum_12 (fun c12 => ?_) (fun c12 => ?_)
      · exact absurd c12 (by omega)
      · refine jv_aload_n dX8_readSum_15 rfl ?_
        refine jv_getf dX8_readSum_16 jf_X8_130 (by repeat' (first | assumption | exact ⟨_, by assumption⟩ | refine jv_h1 (by decide) ?_ | refine jv_h0 ?_ | refine jv_h1 (by omega) ?_ | refine jv_hs ?_)) (by exact rfl) ?_
        refine jv_if_ne 142 dX8_readSum_19 (fun c19 => ?_) (fun c19 => ?_)
        · exact absurd rfl c19
        · refine jv_aload_n dX8_readSum_22 rfl ?_
          refine jv_getf dX8_readSum_23 jf_X8_37 (by repeat' (first | assumption | exact ⟨_, by assumption⟩ | refine jv_h1 (by decide) ?_ | refine jv_h0 ?_ | refine jv_h1 (by omega) ?_ | refine jv_hs ?_)) (by exact rfl) ?_
          refine jv_iload_n dX8_readSum_26 rfl ?_
          refine jv_iald dX8_readSum_27 (by repeat' (first | assumption | exact ⟨_, by assumption⟩ | refine jv_h1 (by decide) ?_ | refine jv_h0 ?_ | refine jv_h1 (by omega) ?_ | refine jv_hs ?_)) ?_
          refine jv_iconst dX8_readSum_28 ?_
          rw [et]
          refine jv_icmp_ne 46 dX8_readSum_29 (fun c29 => ?_) (fun c29 => ?_)
          · exact absurd c29 (by omega)
          · refine jv_aload_n dX8_readSum_32 rfl ?_
            refine jv_cV dX8_readSum_33 jm_X8_126 rfl (by repeat' (first | assumption | exact ⟨_, by assumption⟩ | refine jv_h1 (by decide) ?_ | refine jv_h0 ?_ | refine jv_h1 (by omega) ?_ | refine jv_hs ?_)) rfl (ct_X8_look (K + 1) o9 x1 hS ha1 (fun h2 o2 fr2 => ?_))
            have y4 := jv_fs_at fr2 (by decide) y1
            have y5 := jv_fs_at fr2 (by decide) y2
            have y6 := jv_fs_at fr2 (by decide) y3
            have f2 := jv_fs_tr fr (jv_fs_w (by decide) fr2)
            unfold jw_O at o2
            refine jv_istore dX8_readSum_36 rfl (Nat.le_of_ble_eq_true rfl) ?_
            refine jv_aload_n dX8_readSum_38 rfl ?_
            refine jv_iconst dX8_readSum_39 ?_
            refine jv_putf dX8_readSum_40 jp_X8_130 (by repeat' (first | assumption | exact ⟨_, by assumption⟩ | refine jv_h1 (by decide) ?_ | refine jv_h0 ?_ | refine jv_h1 (by omega) ?_ | refine jv_hs ?_)) (by exact Nat.le_of_ble_eq_true rfl) ?_ (jv_bn (by omega)) (jv_bf (by omega))
            refine jv_goto 11 dX8_readSum_43 ?_
            refine jv_iload_n dX8_readSum_11 rfl ?_
            refine jv_if_eq 142 dX8_readSum_12 (fun c12 => ?_) (fun c12 => ?_)
            · exact absurd c12 (by omega)
            · refine jv_aload_n dX8_readSum_15 rfl ?_
              refine jv_getf dX8_readSum_16 jf_X8_130 (by repeat' (first | assumption | exact ⟨_, by assumption⟩ | refine jv_h1 (by decide) ?_ | refine jv_h0 ?_ | refine jv_h1 (by omega) ?_ | refine jv_hs ?_)) (by exact rfl) ?_
              refine jv_if_ne 142 dX8_readSum_19 (fun c19 => ?_) (fun c19 => ?_)
              · exact jv_vret dX8_readSum_142 hq (hp _ te1 of1 le1 (by repeat' (first | assumption | exact ⟨_, by assumption⟩ | refine jv_h1 (by decide) ?_ | refine jv_h0 ?_ | refine jv_h1 (by omega) ?_ | refine jv_hs ?_)) (by repeat' (first | assumption | exact ⟨_, by assumption⟩ | refine jv_h1 (by decide) ?_ | refine jv_h0 ?_ | refine jv_h1 (by omega) ?_ | refine jv_hs ?_)) (by repeat' (first | assumption | exact ⟨_, by assumption⟩ | refine jv_h1 (by decide) ?_ | refine jv_h0 ?_ | refine jv_h1 (by omega) ?_ | refine jv_hs ?_)) (by repeat' (first | assumption | exact ⟨_, by assumption⟩ | refine jv_h1 (by decide) ?_ | refine jv_h0 ?_ | refine jv_h1 (by omega) ?_ | refine jv_hs ?_)) hO (fun z => by cases z) (jv_fs_set (by decide) f2))
              · exact absurd c19 (by omega)
    | succ f ih =>
      intro a1 s mi h1 te1 of1 le1 pre e hs ha1 o y1 y2 y3 et hM hO fr hp
      have x1 := jv_fs_at fr (by decide) w
      have o9 := o
      unfold jw_O at o
      obtain ⟨b1, b2, b3⟩ := jq_sb_in hS ha1
      have b4 := jq_sn_in hS (jq_sb sg n a1)
      have b7 := (jq_t_in hS ha1).2.2.2.2.2
      rw [jq_su] at hp
      refine jv_iload_n dX8_readSum_11 rfl ?_
      refine jv_if_eq 142 dX8_readSum_12 (fun c12 => ?_) (fun c12 => ?_)
      · exact absurd c12 (by omega)
      · refine jv_aload_n dX8_readSum_15 rfl ?_
        refine jv_getf dX8_readSum_16 jf_X8_130 (by repeat' (first | assumption | exact ⟨_, by assumption⟩ | refine jv_h1 (by decide) ?_ | refine jv_h0 ?_ | refine jv_h1 (by omega) ?_ | refine jv_hs ?_)) (by exact rfl) ?_
        refine jv_if_ne 142 dX8_readSum_19 (fun c19 => ?_) (fun c19 => ?_)
        · exact absurd rfl c19
        · refine jv_aload_n dX8_readSum_22 rfl ?_
          refine jv_getf dX8_readSum_23 jf_X8_37 (by repeat' (first | assumption | exact ⟨_, by assumption⟩ | refine jv_h1 (by decide) ?_ | refine jv_h0 ?_ | refine jv_h1 (by omega) ?_ | refine jv_hs ?_)) (by exact rfl) ?_
          refine jv_iload_n dX8_readSum_26 rfl ?_
          refine jv_iald dX8_readSum_27 (by repeat' (first | assumption | exact ⟨_, by assumption⟩ | refine jv_h1 (by decide) ?_ | refine jv_h0 ?_ | refine jv_h1 (by omega) ?_ | refine jv_hs ?_)) ?_
          refine jv_iconst dX8_readSum_28 ?_
          rw [et]
          refine jv_icmp_ne 46 dX8_readSum_29 (fun c29 => ?_) (fun c29 => ?_)
          · refine jv_aload_n dX8_readSum_46 rfl ?_
            refine jv_iconst dX8_readSum_47 ?_
            refine jv_iload_n dX8_readSum_48 rfl ?_
            refine jv_imul dX8_readSum_49 ?_
            refine jv_aload_n dX8_readSum_50 rfl ?_
            refine jv_getf dX8_readSum_51 jf_X8_37 (by repeat' (first | assumption | exact ⟨_, by assumption⟩ | refine jv_h1 (by decide) ?_ | refine jv_h0 ?_ | refine jv_h1 (by omega) ?_ | refine jv_hs ?_)) (by exact rfl) ?_
            refine jv_iload_n dX8_readSum_54 rfl ?_
            refine jv_iald dX8_readSum_55 (by repeat' (first | assumption | exact ⟨_, by assumption⟩ | refine jv_h1 (by decide) ?_ | refine jv_h0 ?_ | refine jv_h1 (by omega) ?_ | refine jv_hs ?_)) ?_
            rw [et]
            refine jv_iadd dX8_readSum_56 ?_
            refine jv_iload_n dX8_readSum_57 rfl ?_
            refine jv_cV dX8_readSum_58 jm_X8_138 rfl (by repeat' (first | assumption | exact ⟨_, by assumption⟩ | refine jv_h1 (by decide) ?_ | refine jv_h0 ?_ | refine jv_h1 (by omega) ?_ | refine jv_hs ?_)) rfl (ct_X8_readTerm K o9 x1 y2 y3 hS ha1 (by omega) (by omega) (fun tk h2 o2 z2 z3 fr2 => ?_) (fun tk h2 le2 o2 z2 z3 z9 fr2 => ?_))
            · rw [if_pos (jq_tB_t tk)] at hp
              rw [show (if mi = 0 then jq_tv sg n a1 else -jq_tv sg n a1) = s * jq_tv sg n a1 by rcases hs with ⟨rfl, rfl⟩ | ⟨rfl, rfl⟩; simp; simp] at z2
              have hM2 := jq_Me_add hM (jq_tl sg n a1) (s * jq_tv sg n a1)
              have hO2 : jq_Mo su te of le (jv_up te1 su (pre.length + 1)) (jv_up of1 (4 * su + pre.length) (s * jq_tv sg n a1)) (jv_up le1 (4 * su + pre.length) (jq_tl sg n a1)) := ⟨fun j z => by rw [jv_up_n _ z]; exact hO.1 j z, fun j z => by rw [jv_up_n _ (by omega), jv_up_n _ (by omega)]; exact hO.2 j z⟩
              have z1 := jv_fs_at fr2 (by decide) y1
              have f2 := jv_fs_tr fr (jv_fs_w (Q := [97, 107, 108, 109]) (by decide) fr2)
              have o3 := o2
              unfold jw_O at o2
              have x2 := jv_fs_at f2 (by decide) w
              refine jv_aload_n dX8_readSum_61 rfl ?_
              refine jv_getf dX8_readSum_62 jf_X8_37 (by repeat' (first | assumption | exact ⟨_, by assumption⟩ | refine jv_h1 (by decide) ?_ | refine jv_h0 ?_ | refine jv_h1 (by omega) ?_ | refine jv_hs ?_)) (by exact rfl) ?_
              refine jv_iload_n dX8_readSum_65 rfl ?_
              refine jv_dup2 dX8_readSum_66 rfl rfl ?_
              refine jv_iald dX8_readSum_67 (by repeat' (first | assumption | exact ⟨_, by assumption⟩ | refine jv_h1 (by decide) ?_ | refine jv_h0 ?_ | refine jv_h1 (by omega) ?_ | refine jv_hs ?_)) ?_
              rw [et]
              refine jv_iconst dX8_readSum_68 ?_
              refine jv_iadd dX8_readSum_69 ?_
              refine jv_iast dX8_readSum_70 (by repeat' (first | assumption | exact ⟨_, by assumption⟩ | refine jv_h1 (by decide) ?_ | refine jv_h0 ?_ | refine jv_h1 (by omega) ?_ | refine jv_hs ?_)) ?_
              refine jv_aload_n dX8_readSum_71 rfl ?_
              refine jv_getf dX8_readSum_72 jf_X8_130 (by repeat' (first | assumption | exact ⟨_, by assumption⟩ | refine jv_h1 (by decide) ?_ | refine jv_h0 ?_ | refine jv_h1 (by omega) ?_ | refine jv_hs ?_)) (by exact rfl) ?_
              refine jv_if_eq 82 dX8_readSum_75 (fun c75 => ?_) (fun c75 => ?_)
              · refine jv_aload_n dX8_readSum_82 rfl ?_
                refine jv_cV dX8_readSum_83 jm_X8_126 rfl (by repeat' (first | assumption | exact ⟨_, by assumption⟩ | refine jv_h1 (by decide) ?_ | refine jv_h0 ?_ | refine jv_h1 (by omega) ?_ | refine jv_hs ?_)) rfl (ct_X8_look (K + 1) ((by repeat' (first | assumption | exact ⟨_, by assumption⟩ | refine jv_h1 (by decide) ?_ | refine jv_h0 ?_ | refine jv_h1 (by omega) ?_ | refine jv_hs ?_)) : jw_O _ rr lv cu n st (jq_tp sg n a1) 0 da ra wa) (by repeat' (first | assumption | exact ⟨_, by assumption⟩ | refine jv_h1 (by decide) ?_ | refine jv_h0 ?_ | refine jv_h1 (by omega) ?_ | refine jv_hs ?_)) hS b7 (fun h3 o4 fr3 => ?_))
                refine jv_ti (b := jq_sn sg n (jq_sb sg n a1)) rfl ?_
                have o5 : jw_O h3 rr lv cu n st (jq_sb sg n a1) 0 da ra wa := o4
                have f3 := jv_fs_tr (jv_fs_set (by decide) f2) (jv_fs_w (Q := [97, 107, 108, 109]) (by decide) fr3)
                have q1 := jv_fs_at (i := 107) fr3 (by decide) ((by repeat' (first | assumption | exact ⟨_, by assumption⟩ | refine jv_h1 (by decide) ?_ | refine jv_h0 ?_ | refine jv_h1 (by omega) ?_ | refine jv_hs ?_)) : _ = some (jv_ai 120 (jv_up te1 su (pre.length + 1))))
                have q2 := jv_fs_at (i := 108) fr3 (by decide) ((by repeat' (first | assumption | exact ⟨_, by assumption⟩ | refine jv_h1 (by decide) ?_ | refine jv_h0 ?_ | refine jv_h1 (by omega) ?_ | refine jv_hs ?_)) : _ = some (jv_ai 480 (jv_up of1 (4 * su + pre.length) (s * jq_tv sg n a1))))
                have q3 := jv_fs_at (i := 109) fr3 (by decide) ((by repeat' (first | assumption | exact ⟨_, by assumption⟩ | refine jv_h1 (by decide) ?_ | refine jv_h0 ?_ | refine jv_h1 (by omega) ?_ | refine jv_hs ?_)) : _ = some (jv_ai 480 (jv_up le1 (4 * su + pre.length) (jq_tl sg n a1))))
                unfold jw_O at o5
                refine jv_istore dX8_readSum_86 rfl (Nat.le_of_ble_eq_true rfl) ?_
                refine jv_iload dX8_readSum_88 rfl ?_
                refine jv_bipush dX8_readSum_90 ?_
                refine jv_icmp_eq 102 dX8_readSum_92 (fun c92 => ?_) (fun c92 => ?_)
                · refine jv_iconst dX8_readSum_102 ?_
                  refine jv_goto 107 dX8_readSum_103 ?_
                  refine jv_istore_n dX8_readSum_107 rfl (Nat.le_of_ble_eq_true rfl) ?_
                  refine jv_iload dX8_readSum_108 rfl ?_
                  refine jv_bipush dX8_readSum_110 ?_
                  refine jv_icmp_ne 119 dX8_readSum_112 (fun c112 => ?_) (fun c112 => ?_)
                  · refine jv_iconst dX8_readSum_119 ?_
                    refine jv_istore_n dX8_readSum_120 rfl (Nat.le_of_ble_eq_true rfl) ?_
                    refine jv_aload_n dX8_readSum_121 rfl ?_
                    refine jv_dup dX8_readSum_122 rfl ?_
                    refine jv_getf dX8_readSum_123 jf_X8_123 (by repeat' (first | assumption | exact ⟨_, by assumption⟩ | refine jv_h1 (by decide) ?_ | refine jv_h0 ?_ | refine jv_h1 (by omega) ?_ | refine jv_hs ?_)) (by exact rfl) ?_
                    refine jv_iload_n dX8_readSum_126 rfl ?_
                    refine jv_if_eq 134 dX8_readSum_127 (fun c127 => ?_) (fun c127 => ?_)
                    · exact absurd c127 (by omega)
                    · refine jv_iconst dX8_readSum_130 ?_
                      refine jv_goto 135 dX8_readSum_131 ?_
                      refine jv_iadd dX8_readSum_135 ?_
                      refine jv_putf dX8_readSum_136 jp_X8_123 (by repeat' (first | assumption | exact ⟨_, by assumption⟩ | refine jv_h1 (by decide) ?_ | refine jv_h0 ?_ | refine jv_h1 (by omega) ?_ | refine jv_hs ?_)) (by exact Nat.le_of_ble_eq_true rfl) ?_
                      refine jv_goto 11 dX8_readSum_139 ?_
                      rw [if_pos c92] at hp
                      exact jv_les (by repeat' (first | exact True.intro | exact rfl | apply And.intro)) (ih (jq_sb sg n a1 + 1) 1 0 _ _ _ _ (pre ++ [(jq_tl sg n a1, s * jq_tv sg n a1)]) (by simp; omega) (by omega) (by have := b3 (by omega); omega) (by repeat' (first | assumption | exact ⟨_, by assumption⟩ | refine jv_h1 (by decide) ?_ | refine jv_h0 ?_ | refine jv_h1 (by omega) ?_ | refine jv_hs ?_)) (by repeat' (first | assumption | exact ⟨_, by assumption⟩ | refine jv_h1 (by decide) ?_ | refine jv_h0 ?_ | refine jv_h1 (by omega) ?_ | refine jv_hs ?_)) (by repeat' (first | assumption | exact ⟨_, by assumption⟩ | refine jv_h1 (by decide) ?_ | refine jv_h0 ?_ | refine jv_h1 (by omega) ?_ | refine jv_hs ?_)) (by repeat' (first | assumption | exact ⟨_, by assumption⟩ | refine jv_h1 (by decide) ?_ | refine jv_h0 ?_ | refine jv_h1 (by omega) ?_ | refine jv_hs ?_)) (by rw [jv_up_s]; simp) hM2 hO2 (jv_fs_set (by decide) f3) (fun h' te' of' le' u1 u2 u3 u4 u5 u6 u7 => hp h' te' of' le' u1 u2 u3 u4 u5 (fun z => by have := u6 z; rw [List.append_assoc] at this; exact this) u7))
                  · exact absurd c92 (by omega)
                · refine jv_iload dX8_readSum_95 rfl ?_
                  refine jv_bipush dX8_readSum_97 ?_
                  refine jv_icmp_ne 106 dX8_readSum_99 (fun c99 => ?_) (fun c99 => ?_)
                  · refine jv_iconst dX8_readSum_106 ?_
                    refine jv_istore_n dX8_readSum_107 rfl (Nat.le_of_ble_eq_true rfl) ?_
                    refine jv_iload dX8_readSum_108 rfl ?_
                    refine jv_bipush dX8_readSum_110 ?_
                    refine jv_icmp_ne 119 dX8_readSum_112 (fun c112 => ?_) (fun c112 => ?_)
                    · refine jv_iconst dX8_readSum_119 ?_
                      refine jv_istore_n dX8_readSum_120 rfl (Nat.le_of_ble_eq_true rfl) ?_
                      refine jv_aload_n dX8_readSum_121 rfl ?_
                      refine jv_dup dX8_readSum_122 rfl ?_
                      refine jv_getf dX8_readSum_123 jf_X8_123 (by repeat' (first | assumption | exact ⟨_, by assumption⟩ | refine jv_h1 (by decide) ?_ | refine jv_h0 ?_ | refine jv_h1 (by omega) ?_ | refine jv_hs ?_)) (by exact rfl) ?_
                      refine jv_iload_n dX8_readSum_126 rfl ?_
                      refine jv_if_eq 134 dX8_readSum_127 (fun c127 => ?_) (fun c127 => ?_)
                      · refine jv_iconst dX8_readSum_134 ?_
                        refine jv_iadd dX8_readSum_135 ?_
                        rw [Int.add_zero]
                        refine jv_putf dX8_readSum_136 jp_X8_123 (by repeat' (first | assumption | exact ⟨_, by assumption⟩ | refine jv_h1 (by decide) ?_ | refine jv_h0 ?_ | refine jv_h1 (by omega) ?_ | refine jv_hs ?_)) (by exact Nat.le_of_ble_eq_true rfl) ?_
                        refine jv_goto 11 dX8_readSum_139 ?_
                        rw [if_neg c92, if_neg c99] at hp
                        refine jv_iload_n dX8_readSum_11 rfl ?_
                        refine jv_if_eq 142 dX8_readSum_12 (fun c12 => ?_) (fun c12 => ?_)
                        · exact jv_vret dX8_readSum_142 hq (hp _ _ _ _ (by repeat' (first | assumption | exact ⟨_, by assumption⟩ | refine jv_h1 (by decide) ?_ | refine jv_h0 ?_ | refine jv_h1 (by omega) ?_ | refine jv_hs ?_)) (by repeat' (first | assumption | exact ⟨_, by assumption⟩ | refine jv_h1 (by decide) ?_ | refine jv_h0 ?_ | refine jv_h1 (by omega) ?_ | refine jv_hs ?_)) (by repeat' (first | assumption | exact ⟨_, by assumption⟩ | refine jv_h1 (by decide) ?_ | refine jv_h0 ?_ | refine jv_h1 (by omega) ?_ | refine jv_hs ?_)) (by repeat' (first | assumption | exact ⟨_, by assumption⟩ | refine jv_h1 (by decide) ?_ | refine jv_h0 ?_ | refine jv_h1 (by omega) ?_ | refine jv_hs ?_)) hO2 (fun _ => ⟨by rw [jv_up_s]; simp, hM2⟩) (jv_fs_set (by decide) f3))
                        · exact absurd rfl c12
                      · exact absurd rfl c127
                    · exact absurd c112 (by omega)
                  · refine jv_iconst dX8_readSum_102 ?_
                    refine jv_goto 107 dX8_readSum_103 ?_
                    refine jv_istore_n dX8_readSum_107 rfl (Nat.le_of_ble_eq_true rfl) ?_
                    refine jv_iload dX8_readSum_108 rfl ?_
                    refine jv_bipush dX8_readSum_110 ?_
                    refine jv_icmp_ne 119 dX8_readSum_112 (fun c112 => ?_) (fun c112 => ?_)
                    · exact absurd c99 (by omega)
                    · refine jv_iconst dX8_readSum_115 ?_
                      refine jv_goto 120 dX8_readSum_116 ?_
                      refine jv_istore_n dX8_readSum_120 rfl (Nat.le_of_ble_eq_true rfl) ?_
                      refine jv_aload_n dX8_readSum_121 rfl ?_
                      refine jv_dup dX8_readSum_122 rfl ?_
                      refine jv_getf dX8_readSum_123 jf_X8_123 (by repeat' (first | assumption | exact ⟨_, by assumption⟩ | refine jv_h1 (by decide) ?_ | refine jv_h0 ?_ | refine jv_h1 (by omega) ?_ | refine jv_hs ?_)) (by exact rfl) ?_
                      refine jv_iload_n dX8_readSum_126 rfl ?_
                      refine jv_if_eq 134 dX8_readSum_127 (fun c127 => ?_) (fun c127 => ?_)
                      · exact absurd c127 (by omega)
                      · refine jv_iconst dX8_readSum_130 ?_
                        refine jv_goto 135 dX8_readSum_131 ?_
                        refine jv_iadd dX8_readSum_135 ?_
                        refine jv_putf dX8_readSum_136 jp_X8_123 (by repeat' (first | assumption | exact ⟨_, by assumption⟩ | refine jv_h1 (by decide) ?_ | refine jv_h0 ?_ | refine jv_h1 (by omega) ?_ | refine jv_hs ?_)) (by exact Nat.le_of_ble_eq_true rfl) ?_
                        refine jv_goto 11 dX8_readSum_139 ?_
                        rw [if_neg c92, if_pos c99] at hp
                        exact jv_les (by repeat' (first | exact True.intro | exact rfl | apply And.intro)) (ih (jq_sb sg n a1 + 1) (-1) 1 _ _ _ _ (pre ++ [(jq_tl sg n a1, s * jq_tv sg n a1)]) (by simp; omega) (by omega) (by have := b3 (by omega); omega) (by repeat' (first | assumption | exact ⟨_, by assumption⟩ | refine jv_h1 (by decide) ?_ | refine jv_h0 ?_ | refine jv_h1 (by omega) ?_ | refine jv_hs ?_)) (by repeat' (first | assumption | exact ⟨_, by assumption⟩ | refine jv_h1 (by decide) ?_ | refine jv_h0 ?_ | refine jv_h1 (by omega) ?_ | refine jv_hs ?_)) (by repeat' (first | assumption | exact ⟨_, by assumption⟩ | refine jv_h1 (by decide) ?_ | refine jv_h0 ?_ | refine jv_h1 (by omega) ?_ | refine jv_hs ?_)) (by repeat' (first | assumption | exact ⟨_, by assumption⟩ | refine jv_h1 (by decide) ?_ | refine jv_h0 ?_ | refine jv_h1 (by omega) ?_ | refine jv_hs ?_)) (by rw [jv_up_s]; simp) hM2 hO2 (jv_fs_set (by decide) f3) (fun h' te' of' le' u1 u2 u3 u4 u5 u6 u7 => hp h' te' of' le' u1 u2 u3 u4 u5 (fun z => by have := u6 z; rw [List.append_assoc] at this; exact this) u7))
              · exact absurd rfl c75
            · rw [if_neg (by rw [jq_tB_f tk]; decide)] at hp
              have hO2 : jq_Mo su te of le (jv_up te1 su (pre.length + 1)) of1 le2 := ⟨fun j z => by rw [jv_up_n _ z]; exact hO.1 j z, fun j z => by rw [z9 j (by omega)]; exact hO.2 j z⟩
              have z1 := jv_fs_at fr2 (by decide) y1
              have f2 := jv_fs_tr fr (jv_fs_w (Q := [97, 107, 108, 109]) (by decide) fr2)
              unfold jw_O at o2
              refine jv_aload_n dX8_readSum_61 rfl ?_
              refine jv_getf dX8_readSum_62 jf_X8_37 (by repeat' (first | assumption | exact ⟨_, by assumption⟩ | refine jv_h1 (by decide) ?_ | refine jv_h0 ?_ | refine jv_h1 (by omega) ?_ | refine jv_hs ?_)) (by exact rfl) ?_
              refine jv_iload_n dX8_readSum_65 rfl ?_
              refine jv_dup2 dX8_readSum_66 rfl rfl ?_
              refine jv_iald dX8_readSum_67 (by repeat' (first | assumption | exact ⟨_, by assumption⟩ | refine jv_h1 (by decide) ?_ | refine jv_h0 ?_ | refine jv_h1 (by omega) ?_ | refine jv_hs ?_)) ?_
              rw [et]
              refine jv_iconst dX8_readSum_68 ?_
              refine jv_iadd dX8_readSum_69 ?_
              refine jv_iast dX8_readSum_70 (by repeat' (first | assumption | exact ⟨_, by assumption⟩ | refine jv_h1 (by decide) ?_ | refine jv_h0 ?_ | refine jv_h1 (by omega) ?_ | refine jv_hs ?_)) ?_
              refine jv_aload_n dX8_readSum_71 rfl ?_
              refine jv_getf dX8_readSum_72 jf_X8_130 (by repeat' (first | assumption | exact ⟨_, by assumption⟩ | refine jv_h1 (by decide) ?_ | refine jv_h0 ?_ | refine jv_h1 (by omega) ?_ | refine jv_hs ?_)) (by exact rfl) ?_
              refine jv_if_eq 82 dX8_readSum_75 (fun c75 => ?_) (fun c75 => ?_)
              · exact absurd c75 (by omega)
              · refine jv_iconst dX8_readSum_78 ?_
                refine jv_goto 86 dX8_readSum_79 ?_
                refine jv_istore dX8_readSum_86 rfl (Nat.le_of_ble_eq_true rfl) ?_
                refine jv_iload dX8_readSum_88 rfl ?_
                refine jv_bipush dX8_readSum_90 ?_
                refine jv_icmp_eq 102 dX8_readSum_92 (fun c92 => ?_) (fun c92 => ?_)
                · exact absurd c92 (by omega)
                · refine jv_iload dX8_readSum_95 rfl ?_
                  refine jv_bipush dX8_readSum_97 ?_
                  refine jv_icmp_ne 106 dX8_readSum_99 (fun c99 => ?_) (fun c99 => ?_)
                  · refine jv_iconst dX8_readSum_106 ?_
                    refine jv_istore_n dX8_readSum_107 rfl (Nat.le_of_ble_eq_true rfl) ?_
                    refine jv_iload dX8_readSum_108 rfl ?_
                    refine jv_bipush dX8_readSum_110 ?_
                    refine jv_icmp_ne 119 dX8_readSum_112 (fun c112 => ?_) (fun c112 => ?_)
                    · refine jv_iconst dX8_readSum_119 ?_
                      refine jv_istore_n dX8_readSum_120 rfl (Nat.le_of_ble_eq_true rfl) ?_
                      refine jv_aload_n dX8_readSum_121 rfl ?_
                      refine jv_dup dX8_readSum_122 rfl ?_
                      refine jv_getf dX8_readSum_123 jf_X8_123 (by repeat' (first | assumption | exact ⟨_, by assumption⟩ | refine jv_h1 (by decide) ?_ | refine jv_h0 ?_ | refine jv_h1 (by omega) ?_ | refine jv_hs ?_)) (by exact rfl) ?_
                      refine jv_iload_n dX8_readSum_126 rfl ?_
                      refine jv_if_eq 134 dX8_readSum_127 (fun c127 => ?_) (fun c127 => ?_)
                      · refine jv_iconst dX8_readSum_134 ?_
                        refine jv_iadd dX8_readSum_135 ?_
                        rw [Int.add_zero]
                        refine jv_putf dX8_readSum_136 jp_X8_123 (by repeat' (first | assumption | exact ⟨_, by assumption⟩ | refine jv_h1 (by decide) ?_ | refine jv_h0 ?_ | refine jv_h1 (by omega) ?_ | refine jv_hs ?_)) (by exact Nat.le_of_ble_eq_true rfl) ?_
                        refine jv_goto 11 dX8_readSum_139 ?_
                        refine jv_iload_n dX8_readSum_11 rfl ?_
                        refine jv_if_eq 142 dX8_readSum_12 (fun c12 => ?_) (fun c12 => ?_)
                        · exact jv_vret dX8_readSum_142 hq (hp _ _ of1 le2 (by repeat' (first | assumption | exact ⟨_, by assumption⟩ | refine jv_h1 (by decide) ?_ | refine jv_h0 ?_ | refine jv_h1 (by omega) ?_ | refine jv_hs ?_)) (by repeat' (first | assumption | exact ⟨_, by assumption⟩ | refine jv_h1 (by decide) ?_ | refine jv_h0 ?_ | refine jv_h1 (by omega) ?_ | refine jv_hs ?_)) (by repeat' (first | assumption | exact ⟨_, by assumption⟩ | refine jv_h1 (by decide) ?_ | refine jv_h0 ?_ | refine jv_h1 (by omega) ?_ | refine jv_hs ?_)) (by repeat' (first | assumption | exact ⟨_, by assumption⟩ | refine jv_h1 (by decide) ?_ | refine jv_h0 ?_ | refine jv_h1 (by omega) ?_ | refine jv_hs ?_)) hO2 (fun z => by cases z) (jv_fs_set (by decide) (jv_fs_set (by decide) f2)))
                        · exact absurd rfl c12
                      · exact absurd rfl c127
                    · exact absurd c112 (by omega)
                  · exact absurd c99 (by omega)
          · exact absurd c29 (by omega)
  unfold jw_O at o
  refine jv_aload_n dX8_readSum_0 rfl ?_
  refine jv_getf dX8_readSum_1 jf_X8_37 (by repeat' (first | assumption | exact ⟨_, by assumption⟩ | refine jv_h1 (by decide) ?_ | refine jv_h0 ?_ | refine jv_h1 (by omega) ?_ | refine jv_hs ?_)) (by exact rfl) ?_
  refine jv_iload_n dX8_readSum_4 rfl ?_
  refine jv_iconst dX8_readSum_5 ?_
  refine jv_iast dX8_readSum_6 (by repeat' (first | assumption | exact ⟨_, by assumption⟩ | refine jv_h1 (by decide) ?_ | refine jv_h0 ?_ | refine jv_h1 (by omega) ?_ | refine jv_hs ?_)) ?_
  refine jv_iconst dX8_readSum_7 ?_
  refine jv_istore_n dX8_readSum_8 rfl (Nat.le_of_ble_eq_true rfl) ?_
  refine jv_iconst dX8_readSum_9 ?_
  refine jv_istore_n dX8_readSum_10 rfl (Nat.le_of_ble_eq_true rfl) ?_
  exact jv_les (by repeat' (first | exact True.intro | exact rfl | apply And.intro)) (loop 4 a 1 0 _ (jv_up te su 0) of le [] (by simp) (by omega) ha (by repeat' (first | assumption | exact ⟨_, by assumption⟩ | refine jv_h1 (by decide) ?_ | refine jv_h0 ?_ | refine jv_h1 (by omega) ?_ | refine jv_hs ?_)) (by repeat' (first | assumption | exact ⟨_, by assumption⟩ | refine jv_h1 (by decide) ?_ | refine jv_h0 ?_ | refine jv_h1 (by omega) ?_ | refine jv_hs ?_)) (by repeat' (first | assumption | exact ⟨_, by assumption⟩ | refine jv_h1 (by decide) ?_ | refine jv_h0 ?_ | refine jv_h1 (by omega) ?_ | refine jv_hs ?_)) (by repeat' (first | assumption | exact ⟨_, by assumption⟩ | refine jv_h1 (by decide) ?_ | refine jv_h0 ?_ | refine jv_h1 (by omega) ?_ | refine jv_hs ?_)) (jv_up_s _ _ _) (fun j q z => by simp at z) ⟨fun j z => jv_up_n _ z, fun j z => ⟨rfl, rfl⟩⟩ (jv_fs_set (by decide) jv_fs_rf) hp)
end MSU
