/-! the reference's states, main -/
/-- what lies below, the states told, is the same -/
def jq_Lo (ta re te of le ta' re' te' of' le' : Int → Int) : Prop := (∀ j, j < 6 → ta' j = ta j) ∧ (∀ j, j < 30 → re' j = re j) ∧ (∀ j, j < 60 → te' j = te j) ∧ ∀ j, j < 240 → of' j = of j ∧ le' j = le j
theorem jq_Lo_tr {ta re te of le ta1 re1 te1 of1 le1 ta2 re2 te2 of2 le2 : Int → Int} {k : Int} (h : jq_Lo ta re te of le ta1 re1 te1 of1 le1) (hk : 0 ≤ k) (ht : ∀ j, j ≠ 6 + k → ta2 j = ta1 j) (hu : jq_Mu (5 * (6 + k)) (5 * (6 + k) + 5) re1 te1 of1 le1 re2 te2 of2 le2) : jq_Lo ta re te of le ta2 re2 te2 of2 le2 :=
  ⟨fun j z => (ht j (by omega)).trans (h.1 j z), fun j z => (hu.1 j (by omega)).trans (h.2.1 j z), fun j z => (hu.2.1 j (by omega)).trans (h.2.2.1 j z), fun j z => ⟨(hu.2.2 j (by omega)).1.trans (h.2.2.2 j z).1, (hu.2.2 j (by omega)).2.trans (h.2.2.2 j z).2⟩⟩
theorem jq_MS_add {R : List (List (Int × List (Int × Int) × List (Int × Int)))} {l : List (Int × List (Int × Int) × List (Int × Int))} {ta re te of le ta2 re2 te2 of2 le2 : Int → Int} (h : jq_MS 6 R ta re te of le) (hR : ∀ l ∈ R, l.length ≤ 5 ∧ ∀ T ∈ l, T.2.1.length ≤ 4 ∧ T.2.2.length ≤ 4) (ht : ∀ j : Int, j ≠ 6 + R.length → ta2 j = ta j) (hu : jq_Mu (5 * (6 + R.length)) (5 * (6 + R.length) + 5) re te of le re2 te2 of2 le2) (hl : ta2 (6 + R.length) = l.length ∧ jq_MT (5 * (6 + R.length)) l re2 te2 of2 le2) : jq_MS 6 (R ++ [l]) ta2 re2 te2 of2 le2 := fun s q z => by
  by_cases e : s < R.length
  · rw [List.getElem?_append_left e] at z
    obtain ⟨h1, h2⟩ := h s q z
    have hm := hR q (List.mem_of_getElem? z)
    refine ⟨by rw [ht _ (by omega)]; exact h1, fun j T y => ?_⟩
    have hj := (List.getElem?_eq_some_iff.mp y).1
    exact jq_M1_k (h2 j T y) (hm.2 T (List.mem_of_getElem? y)) hu (by omega)
  · rw [List.getElem?_append_right (by omega)] at z
    have e2 : s - R.length < 1 := (List.getElem?_eq_some_iff.mp z).1
    have e3 : s = R.length := by omega
    subst e3
    rw [Nat.sub_self] at z
    cases z
    exact hl
section MS2
variable {h : List jv_E} {rr lv cu n st a wr da ra wa : Int} {sg ta re te of le : Int → Int} {post : Option Value → List jv_E → Prop}
theorem ct_X8_states (K : Nat) (o : jw_O h rr lv cu n st a wr da ra wa) (w : h[104]? = some (jv_ai 300 sg)) (w5 : h[105]? = some (jv_ai 12 ta)) (w6 : h[106]? = some (jv_ai 60 re)) (w7 : h[107]? = some (jv_ai 120 te)) (w8 : h[108]? = some (jv_ai 480 of)) (w9 : h[109]? = some (jv_ai 480 le)) (hS : jq_S n sg) (hp1 : (jq_ss sg n 6 0).1 = true → ∀ h' a' ta' re' te' of' le', jw_O h' rr lv cu 0 (jq_ss sg n 6 0).2.2.length a' 0 da ra wa → h'[105]? = some (jv_ai 12 ta') → h'[106]? = some (jv_ai 60 re') → h'[107]? = some (jv_ai 120 te') → h'[108]? = some (jv_ai 480 of') → h'[109]? = some (jv_ai 480 le') → jq_MS 0 (jq_ss sg n 6 0).2.2 ta' re' te' of' le' → jv_fs [97, 105, 106, 107, 108, 109] h h' → post (some (.int (jv_i (jq_ss sg n 6 0).2.2.length))) h') (hp2 : (jq_ss sg n 6 0).1 = false → ∀ h' a' ta' re' te' of' le', jw_O h' rr lv cu 0 st a' 1 da ra wa → h'[105]? = some (jv_ai 12 ta') → h'[106]? = some (jv_ai 60 re') → h'[107]? = some (jv_ai 120 te') → h'[108]? = some (jv_ai 480 of') → h'[109]? = some (jv_ai 480 le') → jq_Lo ta re te of le ta' re' te' of' le' → jv_fs [97, 105, 106, 107, 108, 109] h h' → post (some (.int (jv_i (-1 - (jq_ss sg n 6 0).2.1)))) h') : jv_Ct yX8_states cX8_states 4 (some .int) (K + 4) [.ref 97] h post := by
  have hn := hS.1
  obtain ⟨sm0, sm1, sm2⟩ := jq_ss_sm hS 6 0 (by omega)
  obtain ⟨R0, hR0⟩ : ∃ R0, jq_ss sg n 6 0 = R0 := ⟨_, rfl⟩
  rw [hR0] at hp1 hp2 sm0 sm1 sm2
  refine jv_entry (own := RX8) (by decide) rfl (Nat.le_of_ble_eq_true rfl) (fun X hq => ?_)
  have bad : ∀ (m mo : Int) (x : Option Value) (h1 : List jv_E) (ta1 re1 te1 of1 le1 : Int → Int), R0.1 = false → jw_O h1 rr lv cu n st R0.2.1 1 da ra wa → h1[105]? = some (jv_ai 12 ta1) → h1[106]? = some (jv_ai 60 re1) → h1[107]? = some (jv_ai 120 te1) → h1[108]? = some (jv_ai 480 of1) → h1[109]? = some (jv_ai 480 le1) → jq_Lo ta re te of le ta1 re1 te1 of1 le1 → jv_fs [97, 105, 106, 107, 108, 109] h h1 → jv_J X cX8_states RX8 (K + 4) 134 [some (.ref 97), some (.int (jv_i m)), some (.int (jv_i mo)), x] [] h1 := by
    intro m mo x h1 ta1 re1 te1 of1 le1 g o y5 y6 y7 y8 y9 lo fr
    have hp2 := hp2 g
    unfold jw_O at o
    refine jv_aload_n dX8_states_134 rfl ?_
    refine jv_iconst dX8_states_135 ?_
    refine jv_putf dX8_states_136 jp_X8_120 (by repeat' (first | assumption | exact ⟨_, by assumption⟩ | refine jv_h1 (by decide) ?_ | refine jv_h0 ?_ | refine jv_h1 (by omega) ?_ | refine jv_hs ?_)) (by exact Nat.le_of_ble_eq_true rfl) ?_
    refine jv_aload_n dX8_states_139 rfl ?_
    refine jv_getf dX8_states_140 jf_X8_130 (by repeat' (first | assumption | exact ⟨_, by assumption⟩ | refine jv_h1 (by decide) ?_ | refine jv_h0 ?_ | refine jv_h1 (by omega) ?_ | refine jv_hs ?_)) (by exact rfl) ?_
    refine jv_if_eq 153 dX8_states_143 (fun c143 => ?_) (fun c143 => ?_)
    · exact absurd c143 (by omega)
    · refine jv_iconst dX8_states_146 ?_
      refine jv_aload_n dX8_states_147 rfl ?_
      refine jv_getf dX8_states_148 jf_X8_123 (by repeat' (first | assumption | exact ⟨_, by assumption⟩ | refine jv_h1 (by decide) ?_ | refine jv_h0 ?_ | refine jv_h1 (by omega) ?_ | refine jv_hs ?_)) (by exact rfl) ?_
      refine jv_isub dX8_states_151 ?_
      exact jv_iret dX8_states_152 hq (hp2 _ _ ta1 re1 te1 of1 le1 (by repeat' (first | assumption | exact ⟨_, by assumption⟩ | refine jv_h1 (by decide) ?_ | refine jv_h0 ?_ | refine jv_h1 (by omega) ?_ | refine jv_hs ?_)) (by repeat' (first | assumption | exact ⟨_, by assumption⟩ | refine jv_h1 (by decide) ?_ | refine jv_h0 ?_ | refine jv_h1 (by omega) ?_ | refine jv_hs ?_)) (by repeat' (first | assumption | exact ⟨_, by assumption⟩ | refine jv_h1 (by decide) ?_ | refine jv_h0 ?_ | refine jv_h1 (by omega) ?_ | refine jv_hs ?_)) (by repeat' (first | assumption | exact ⟨_, by assumption⟩ | refine jv_h1 (by decide) ?_ | refine jv_h0 ?_ | refine jv_h1 (by omega) ?_ | refine jv_hs ?_)) (by repeat' (first | assumption | exact ⟨_, by assumption⟩ | refine jv_h1 (by decide) ?_ | refine jv_h0 ?_ | refine jv_h1 (by omega) ?_ | refine jv_hs ?_)) (by repeat' (first | assumption | exact ⟨_, by assumption⟩ | refine jv_h1 (by decide) ?_ | refine jv_h0 ?_ | refine jv_h1 (by omega) ?_ | refine jv_hs ?_)) lo (jv_fs_set (by decide) fr)) (by first | rfl | decide)
  have good : ∀ (mo a1 : Int) (x : Option Value) (h1 : List jv_E) (ta1 re1 te1 of1 le1 : Int → Int), R0.1 = true → jw_O h1 rr lv cu n st a1 0 da ra wa → h1[105]? = some (jv_ai 12 ta1) → h1[106]? = some (jv_ai 60 re1) → h1[107]? = some (jv_ai 120 te1) → h1[108]? = some (jv_ai 480 of1) → h1[109]? = some (jv_ai 480 le1) → jq_MS 6 R0.2.2 ta1 re1 te1 of1 le1 → jv_fs [97, 105, 106, 107, 108, 109] h h1 → jv_J X cX8_states RX8 (K + 4) 134 [some (.ref 97), some (.int (jv_i R0.2.2.length)), some (.int (jv_i mo)), x] [] h1 := by
    intro mo a1 x h1 ta1 re1 te1 of1 le1 g o y5 y6 y7 y8 y9 ms fr
    have hp1 := hp1 g
    unfold jw_O at o
    refine jv_aload_n dX8_states_134 rfl ?_
    refine jv_iconst dX8_states_135 ?_
    refine jv_putf dX8_states_136 jp_X8_120 (by repeat' (first | assumption | exact ⟨_, by assumption⟩ | refine jv_h1 (by decide) ?_ | refine jv_h0 ?_ | refine jv_h1 (by omega) ?_ | refine jv_hs ?_)) (by exact Nat.le_of_ble_eq_true rfl) ?_
    refine jv_aload_n dX8_states_139 rfl ?_
    refine jv_getf dX8_states_140 jf_X8_130 (by repeat' (first | assumption | exact ⟨_, by assumption⟩ | refine jv_h1 (by decide) ?_ | refine jv_h0 ?_ | refine jv_h1 (by omega) ?_ | refine jv_hs ?_)) (by exact rfl) ?_
    refine jv_if_eq 153 dX8_states_143 (fun c143 => ?_) (fun c143 => ?_)
    · refine jv_aload_n dX8_states_153 rfl ?_
      refine jv_iload_n dX8_states_154 rfl ?_
      refine jv_putf dX8_states_155 jp_X8_149 (by repeat' (first | assumption | exact ⟨_, by assumption⟩ | refine jv_h1 (by decide) ?_ | refine jv_h0 ?_ | refine jv_h1 (by omega) ?_ | refine jv_hs ?_)) (by exact Nat.le_of_ble_eq_true rfl) ?_
      exact jv_les (by repeat' (first | exact True.intro | exact rfl | apply And.intro)) (jt_copy (rr := rr) (lv := lv) (cu := cu) (n := 0) (st := R0.2.2.length) (wr := 0) (da := da) (ra := ra) (wa := wa) (ta := ta1) (re := re1) (te := te1) (of := of1) (le := le1) (m := R0.2.2.length) (mo := mo) (a := a1) K hq (by omega) (by repeat' (first | assumption | exact ⟨_, by assumption⟩ | refine jv_h1 (by decide) ?_ | refine jv_h0 ?_ | refine jv_h1 (by omega) ?_ | refine jv_hs ?_)) (by repeat' (first | assumption | exact ⟨_, by assumption⟩ | refine jv_h1 (by decide) ?_ | refine jv_h0 ?_ | refine jv_h1 (by omega) ?_ | refine jv_hs ?_)) (by repeat' (first | assumption | exact ⟨_, by assumption⟩ | refine jv_h1 (by decide) ?_ | refine jv_h0 ?_ | refine jv_h1 (by omega) ?_ | refine jv_hs ?_)) (by repeat' (first | assumption | exact ⟨_, by assumption⟩ | refine jv_h1 (by decide) ?_ | refine jv_h0 ?_ | refine jv_h1 (by omega) ?_ | refine jv_hs ?_)) (by repeat' (first | assumption | exact ⟨_, by assumption⟩ | refine jv_h1 (by decide) ?_ | refine jv_h0 ?_ | refine jv_h1 (by omega) ?_ | refine jv_hs ?_)) (by repeat' (first | assumption | exact ⟨_, by assumption⟩ | refine jv_h1 (by decide) ?_ | refine jv_h0 ?_ | refine jv_h1 (by omega) ?_ | refine jv_hs ?_)) (fun h' o' v5 v6 v7 v8 v9 fr' => hp1 h' a1 _ _ _ _ _ o' v5 v6 v7 v8 v9 (jq_MS_cp ms ⟨sm1, sm2⟩) (jv_fs_tr (jv_fs_set (by decide) (jv_fs_set (by decide) fr)) fr')))
    · exact absurd rfl c143
  have loop : ∀ (f : Nat) (a1 : Int) (h1 : List jv_E) (ta1 re1 te1 of1 le1 : Int → Int) (R : List (List (Int × List (Int × Int) × List (Int × Int)))), R.length + f = 6 → 0 ≤ a1 ∧ a1 ≤ n → jw_O h1 rr lv cu n st a1 0 da ra wa → h1[105]? = some (jv_ai 12 ta1) → h1[106]? = some (jv_ai 60 re1) → h1[107]? = some (jv_ai 120 te1) → h1[108]? = some (jv_ai 480 of1) → h1[109]? = some (jv_ai 480 le1) → jq_MS 6 R ta1 re1 te1 of1 le1 → (∀ l ∈ R, l.length ≤ 5 ∧ ∀ T ∈ l, T.2.1.length ≤ 4 ∧ T.2.2.length ≤ 4) → jq_Lo ta re te of le ta1 re1 te1 of1 le1 → jv_fs [97, 105, 106, 107, 108, 109] h h1 → R0.1 = (jq_ss sg n f a1).1 → R0.2.1 = (jq_ss sg n f a1).2.1 → ((jq_ss sg n f a1).1 = true → R0.2.2 = R ++ (jq_ss sg n f a1).2.2) → jv_J X cX8_states RX8 (K + 4) 14 [some (.ref 97), some (.int (jv_i R.length)), some (.int (jv_i 1)), none] [] h1 := by
    intro f
    induction f with
    | zero =>
      intro a1 h1 ta1 re1 te1 of1 le1 R e ha1 o y5 y6 y7 y8 y9 ms sz lo fr e1 e2 e3
      have x1 := jv_fs_at fr (by decide) w
      have o9 := o
      unfold jw_O at o
      refine jv_iload_n dX8_states_14 rfl ?_
      refine jv_if_eq 134 dX8_states_15 (fun c15 => ?_) (fun c15 => ?_)
      · exact absurd c15 (by omega)
      · refine jv_aload_n dX8_states_18 rfl ?_
        refine jv_getf dX8_states_19 jf_X8_130 (by repeat' (first | assumption | exact ⟨_, by assumption⟩ | refine jv_h1 (by decide) ?_ | refine jv_h0 ?_ | refine jv_h1 (by omega) ?_ | refine jv_hs ?_)) (by exact rfl) ?_
        refine jv_if_ne 134 dX8_states_22 (fun c22 => ?_) (fun c22 => ?_)
        · exact absurd rfl c22
        · refine jv_iload_n dX8_states_25 rfl ?_
          refine jv_bipush dX8_states_26 ?_
          refine jv_icmp_ne 44 dX8_states_28 (fun c28 => ?_) (fun c28 => ?_)
          · exact absurd c28 (by omega)
          · refine jv_aload_n dX8_states_31 rfl ?_
            refine jv_cV dX8_states_32 jm_X8_126 rfl (by repeat' (first | assumption | exact ⟨_, by assumption⟩ | refine jv_h1 (by decide) ?_ | refine jv_h0 ?_ | refine jv_h1 (by omega) ?_ | refine jv_hs ?_)) rfl (ct_X8_look (K + 3) o9 x1 hS ha1 (fun h2 o2 fr2 => ?_))
            have z5 := jv_fs_at fr2 (by decide) y5
            have z6 := jv_fs_at fr2 (by decide) y6
            have z7 := jv_fs_at fr2 (by decide) y7
            have z8 := jv_fs_at fr2 (by decide) y8
            have z9 := jv_fs_at fr2 (by decide) y9
            have f2 := jv_fs_tr fr (jv_fs_w (Q := [97, 105, 106, 107, 108, 109]) (by decide) fr2)
            have e4 : jq_sK sg n a1 = R0.2.1 := by rw [e2]; rfl
            rw [e4] at o2
            unfold jw_O at o2
            refine jv_istore_n dX8_states_35 rfl (Nat.le_of_ble_eq_true rfl) ?_
            refine jv_aload_n dX8_states_36 rfl ?_
            refine jv_iconst dX8_states_37 ?_
            refine jv_putf dX8_states_38 jp_X8_130 (by repeat' (first | assumption | exact ⟨_, by assumption⟩ | refine jv_h1 (by decide) ?_ | refine jv_h0 ?_ | refine jv_h1 (by omega) ?_ | refine jv_hs ?_)) (by exact Nat.le_of_ble_eq_true rfl) ?_ (jv_bn (by omega)) (jv_bf (by omega))
            refine jv_goto 14 dX8_states_41 ?_
            refine jv_iload_n dX8_states_14 rfl ?_
            refine jv_if_eq 134 dX8_states_15 (fun c15 => ?_) (fun c15 => ?_)
            · exact absurd c15 (by omega)
            · refine jv_aload_n dX8_states_18 rfl ?_
              refine jv_getf dX8_states_19 jf_X8_130 (by repeat' (first | assumption | exact ⟨_, by assumption⟩ | refine jv_h1 (by decide) ?_ | refine jv_h0 ?_ | refine jv_h1 (by omega) ?_ | refine jv_hs ?_)) (by exact rfl) ?_
              refine jv_if_ne 134 dX8_states_22 (fun c22 => ?_) (fun c22 => ?_)
              · exact bad _ _ _ _ ta1 re1 te1 of1 le1 e1 (by repeat' (first | assumption | exact ⟨_, by assumption⟩ | refine jv_h1 (by decide) ?_ | refine jv_h0 ?_ | refine jv_h1 (by omega) ?_ | refine jv_hs ?_)) (by repeat' (first | assumption | exact ⟨_, by assumption⟩ | refine jv_h1 (by decide) ?_ | refine jv_h0 ?_ | refine jv_h1 (by omega) ?_ | refine jv_hs ?_)) (by repeat' (first | assumption | exact ⟨_, by assumption⟩ | refine jv_h1 (by decide) ?_ | refine jv_h0 ?_ | refine jv_h1 (by omega) ?_ | refine jv_hs ?_)) (by repeat' (first | assumption | exact ⟨_, by assumption⟩ | refine jv_h1 (by decide) ?_ | refine jv_h0 ?_ | refine jv_h1 (by omega) ?_ | refine jv_hs ?_)) (by repeat' (first | assumption | exact ⟨_, by assumption⟩ | refine jv_h1 (by decide) ?_ | refine jv_h0 ?_ | refine jv_h1 (by omega) ?_ | refine jv_hs ?_)) (by repeat' (first | assumption | exact ⟨_, by assumption⟩ | refine jv_h1 (by decide) ?_ | refine jv_h0 ?_ | refine jv_h1 (by omega) ?_ | refine jv_hs ?_)) lo (jv_fs_set (by decide) f2)
              · exact absurd c22 (by omega)
    | succ f ih =>
      intro a1 h1 ta1 re1 te1 of1 le1 R e ha1 o y5 y6 y7 y8 y9 ms sz lo fr e1 e2 e3
      have x1 := jv_fs_at fr (by decide) w
      have o9 := o
      unfold jw_O at o
      obtain ⟨i1, i8⟩ := jq_tt_in hS 5 a1 ha1
      have i9 := jq_tt_sm hS 5 a1 ha1
      obtain ⟨i2, i3, i4⟩ := jq_sK_in (sg := sg) i1
      have i5 := jq_sn_in hS (jq_sK sg n (jq_tt sg n 5 a1).2.1)
      rw [jq_ss] at e1 e2 e3
      refine jv_iload_n dX8_states_14 rfl ?_
      refine jv_if_eq 134 dX8_states_15 (fun c15 => ?_) (fun c15 => ?_)
      · exact absurd c15 (by omega)
      · refine jv_aload_n dX8_states_18 rfl ?_
        refine jv_getf dX8_states_19 jf_X8_130 (by repeat' (first | assumption | exact ⟨_, by assumption⟩ | refine jv_h1 (by decide) ?_ | refine jv_h0 ?_ | refine jv_h1 (by omega) ?_ | refine jv_hs ?_)) (by exact rfl) ?_
        refine jv_if_ne 134 dX8_states_22 (fun c22 => ?_) (fun c22 => ?_)
        · exact absurd rfl c22
        · refine jv_iload_n dX8_states_25 rfl ?_
          refine jv_bipush dX8_states_26 ?_
          refine jv_icmp_ne 44 dX8_states_28 (fun c28 => ?_) (fun c28 => ?_)
          · refine jv_aload_n dX8_states_44 rfl ?_
            refine jv_iload_n dX8_states_45 rfl ?_
            refine jv_cV dX8_states_46 jm_X8_146 rfl (by repeat' (first | assumption | exact ⟨_, by assumption⟩ | refine jv_h1 (by decide) ?_ | refine jv_h0 ?_ | refine jv_h1 (by omega) ?_ | refine jv_hs ?_)) rfl (ct_X8_readState K o9 x1 y5 y6 y7 y8 y9 hS ha1 (by omega) (fun h2 ta2 re2 te2 of2 le2 o2 z5 z6 z7 z8 z9 ht2 hu2 hm2 fr2 => ?_))
            have f2 := jv_fs_tr fr fr2
            have x2 := jv_fs_at f2 (by decide) w
            have lo2 := jq_Lo_tr lo (by omega) ht2 hu2
            by_cases g1 : (jq_tt sg n 5 a1).1 = true
            · rw [if_pos g1] at o2 e1 e2 e3
              have ms2 := jq_MS_add ms sz ht2 hu2 (hm2 g1)
              have sz2 : ∀ l ∈ R ++ [(jq_tt sg n 5 a1).2.2], l.length ≤ 5 ∧ ∀ T ∈ l, T.2.1.length ≤ 4 ∧ T.2.2.length ≤ 4 := fun l z => by rcases List.mem_append.mp z with y | y; exact sz l y; rw [List.mem_singleton.mp y]; exact i9
              have o3 := o2
              unfold jw_O at o2
              refine jv_iinc dX8_states_49 rfl rfl ?_
              refine jv_aload_n dX8_states_52 rfl ?_
              refine jv_getf dX8_states_53 jf_X8_130 (by repeat' (first | assumption | exact ⟨_, by assumption⟩ | refine jv_h1 (by decide) ?_ | refine jv_h0 ?_ | refine jv_h1 (by omega) ?_ | refine jv_hs ?_)) (by exact rfl) ?_
              refine jv_if_eq 63 dX8_states_56 (fun c56 => ?_) (fun c56 => ?_)
              · refine jv_aload_n dX8_states_63 rfl ?_
                refine jv_cV dX8_states_64 jm_X8_126 rfl (by repeat' (first | assumption | exact ⟨_, by assumption⟩ | refine jv_h1 (by decide) ?_ | refine jv_h0 ?_ | refine jv_h1 (by omega) ?_ | refine jv_hs ?_)) rfl (ct_X8_look (K + 3) o3 x2 hS i1 (fun h3 o4 fr3 => ?_))
                have z5 := jv_fs_at fr3 (by decide) z5
                have z6 := jv_fs_at fr3 (by decide) z6
                have z7 := jv_fs_at fr3 (by decide) z7
                have z8 := jv_fs_at fr3 (by decide) z8
                have z9 := jv_fs_at fr3 (by decide) z9
                have f3 := jv_fs_tr f2 (jv_fs_w (Q := [97, 105, 106, 107, 108, 109]) (by decide) fr3)
                by_cases g3 : jq_sn sg n (jq_sK sg n (jq_tt sg n 5 a1).2.1) = 0
                · rw [if_pos g3] at e1 e2 e3
                  have e5 := e3 rfl
                  unfold jw_O at o4
                  rw [g3]
                  refine jv_istore_n dX8_states_67 rfl (Nat.le_of_ble_eq_true rfl) ?_
                  refine jv_aload_n dX8_states_68 rfl ?_
                  refine jv_aload_n dX8_states_69 rfl ?_
                  refine jv_getf dX8_states_70 jf_X8_130 (by repeat' (first | assumption | exact ⟨_, by assumption⟩ | refine jv_h1 (by decide) ?_ | refine jv_h0 ?_ | refine jv_h1 (by omega) ?_ | refine jv_hs ?_)) (by exact rfl) ?_
                  refine jv_if_ne 86 dX8_states_73 (fun c73 => ?_) (fun c73 => ?_)
                  · exact absurd rfl c73
                  · refine jv_iload_n dX8_states_76 rfl ?_
                    refine jv_if_eq 90 dX8_states_77 (fun c77 => ?_) (fun c77 => ?_)
                    · refine jv_iconst dX8_states_90 ?_
                      refine jv_putf dX8_states_91 jp_X8_130 (by repeat' (first | assumption | exact ⟨_, by assumption⟩ | refine jv_h1 (by decide) ?_ | refine jv_h0 ?_ | refine jv_h1 (by omega) ?_ | refine jv_hs ?_)) (by exact Nat.le_of_ble_eq_true rfl) ?_ (jv_bn (by omega)) (jv_bf (by omega))
                      refine jv_aload_n dX8_states_94 rfl ?_
                      refine jv_getf dX8_states_95 jf_X8_130 (by repeat' (first | assumption | exact ⟨_, by assumption⟩ | refine jv_h1 (by decide) ?_ | refine jv_h0 ?_ | refine jv_h1 (by omega) ?_ | refine jv_hs ?_)) (by exact rfl) ?_
                      refine jv_if_ne 111 dX8_states_98 (fun c98 => ?_) (fun c98 => ?_)
                      · exact absurd rfl c98
                      · refine jv_iload_n dX8_states_101 rfl ?_
                        refine jv_bipush dX8_states_102 ?_
                        refine jv_icmp_ne 111 dX8_states_104 (fun c104 => ?_) (fun c104 => ?_)
                        · refine jv_iconst dX8_states_111 ?_
                          refine jv_istore_n dX8_states_112 rfl (Nat.le_of_ble_eq_true rfl) ?_
                          refine jv_aload_n dX8_states_113 rfl ?_
                          refine jv_dup dX8_states_114 rfl ?_
                          refine jv_getf dX8_states_115 jf_X8_123 (by repeat' (first | assumption | exact ⟨_, by assumption⟩ | refine jv_h1 (by decide) ?_ | refine jv_h0 ?_ | refine jv_h1 (by omega) ?_ | refine jv_hs ?_)) (by exact rfl) ?_
                          refine jv_iload_n dX8_states_118 rfl ?_
                          refine jv_if_eq 126 dX8_states_119 (fun c119 => ?_) (fun c119 => ?_)
                          · refine jv_iconst dX8_states_126 ?_
                            refine jv_iadd dX8_states_127 ?_
                            rw [Int.add_zero]
                            refine jv_putf dX8_states_128 jp_X8_123 (by repeat' (first | assumption | exact ⟨_, by assumption⟩ | refine jv_h1 (by decide) ?_ | refine jv_h0 ?_ | refine jv_h1 (by omega) ?_ | refine jv_hs ?_)) (by exact Nat.le_of_ble_eq_true rfl) ?_
                            refine jv_goto 14 dX8_states_131 ?_
                            refine jv_iload_n dX8_states_14 rfl ?_
                            refine jv_if_eq 134 dX8_states_15 (fun c15 => ?_) (fun c15 => ?_)
                            · have gg := fun h1 o y5 y6 y7 y8 y9 fr => good 0 (jq_sK sg n (jq_tt sg n 5 a1).2.1) (some (.int (jv_i 0))) h1 ta2 re2 te2 of2 le2 e1 o y5 y6 y7 y8 y9 (by rw [e5]; exact ms2) fr
                              rw [show (R0.2.2.length : Int) = (R.length : Int) + 1 by rw [e5]; simp] at gg
                              exact gg _ (by repeat' (first | assumption | exact ⟨_, by assumption⟩ | refine jv_h1 (by decide) ?_ | refine jv_h0 ?_ | refine jv_h1 (by omega) ?_ | refine jv_hs ?_)) (by repeat' (first | assumption | exact ⟨_, by assumption⟩ | refine jv_h1 (by decide) ?_ | refine jv_h0 ?_ | refine jv_h1 (by omega) ?_ | refine jv_hs ?_)) (by repeat' (first | assumption | exact ⟨_, by assumption⟩ | refine jv_h1 (by decide) ?_ | refine jv_h0 ?_ | refine jv_h1 (by omega) ?_ | refine jv_hs ?_)) (by repeat' (first | assumption | exact ⟨_, by assumption⟩ | refine jv_h1 (by decide) ?_ | refine jv_h0 ?_ | refine jv_h1 (by omega) ?_ | refine jv_hs ?_)) (by repeat' (first | assumption | exact ⟨_, by assumption⟩ | refine jv_h1 (by decide) ?_ | refine jv_h0 ?_ | refine jv_h1 (by omega) ?_ | refine jv_hs ?_)) (by repeat' (first | assumption | exact ⟨_, by assumption⟩ | refine jv_h1 (by decide) ?_ | refine jv_h0 ?_ | refine jv_h1 (by omega) ?_ | refine jv_hs ?_)) (jv_fs_set (by decide) (jv_fs_set (by decide) f3))
                            · exact absurd rfl c15
                          · exact absurd rfl c119
                        · exact absurd c104 (by omega)
                    · exact absurd rfl c77
                rw [if_neg g3] at e1 e2 e3
                by_cases g4 : jq_sn sg n (jq_sK sg n (jq_tt sg n 5 a1).2.1) = 59
                · rw [if_pos g4] at e1 e2 e3
                  unfold jw_O at o4
                  rw [g4]
                  refine jv_istore_n dX8_states_67 rfl (Nat.le_of_ble_eq_true rfl) ?_
                  refine jv_aload_n dX8_states_68 rfl ?_
                  refine jv_aload_n dX8_states_69 rfl ?_
                  refine jv_getf dX8_states_70 jf_X8_130 (by repeat' (first | assumption | exact ⟨_, by assumption⟩ | refine jv_h1 (by decide) ?_ | refine jv_h0 ?_ | refine jv_h1 (by omega) ?_ | refine jv_hs ?_)) (by exact rfl) ?_
                  refine jv_if_ne 86 dX8_states_73 (fun c73 => ?_) (fun c73 => ?_)
                  · exact absurd rfl c73
                  · refine jv_iload_n dX8_states_76 rfl ?_
                    refine jv_if_eq 90 dX8_states_77 (fun c77 => ?_) (fun c77 => ?_)
                    · exact absurd c77 (by omega)
                    · refine jv_iload_n dX8_states_80 rfl ?_
                      refine jv_bipush dX8_states_81 ?_
                      refine jv_icmp_eq 90 dX8_states_83 (fun c83 => ?_) (fun c83 => ?_)
                      · refine jv_iconst dX8_states_90 ?_
                        refine jv_putf dX8_states_91 jp_X8_130 (by repeat' (first | assumption | exact ⟨_, by assumption⟩ | refine jv_h1 (by decide) ?_ | refine jv_h0 ?_ | refine jv_h1 (by omega) ?_ | refine jv_hs ?_)) (by exact Nat.le_of_ble_eq_true rfl) ?_ (jv_bn (by omega)) (jv_bf (by omega))
                        refine jv_aload_n dX8_states_94 rfl ?_
                        refine jv_getf dX8_states_95 jf_X8_130 (by repeat' (first | assumption | exact ⟨_, by assumption⟩ | refine jv_h1 (by decide) ?_ | refine jv_h0 ?_ | refine jv_h1 (by omega) ?_ | refine jv_hs ?_)) (by exact rfl) ?_
                        refine jv_if_ne 111 dX8_states_98 (fun c98 => ?_) (fun c98 => ?_)
                        · exact absurd rfl c98
                        · refine jv_iload_n dX8_states_101 rfl ?_
                          refine jv_bipush dX8_states_102 ?_
                          refine jv_icmp_ne 111 dX8_states_104 (fun c104 => ?_) (fun c104 => ?_)
                          · exact absurd rfl c104
                          · refine jv_iconst dX8_states_107 ?_
                            refine jv_goto 112 dX8_states_108 ?_
                            refine jv_istore_n dX8_states_112 rfl (Nat.le_of_ble_eq_true rfl) ?_
                            refine jv_aload_n dX8_states_113 rfl ?_
                            refine jv_dup dX8_states_114 rfl ?_
                            refine jv_getf dX8_states_115 jf_X8_123 (by repeat' (first | assumption | exact ⟨_, by assumption⟩ | refine jv_h1 (by decide) ?_ | refine jv_h0 ?_ | refine jv_h1 (by omega) ?_ | refine jv_hs ?_)) (by exact rfl) ?_
                            refine jv_iload_n dX8_states_118 rfl ?_
                            refine jv_if_eq 126 dX8_states_119 (fun c119 => ?_) (fun c119 => ?_)
                            · exact absurd c119 (by omega)
                            · refine jv_iconst dX8_states_122 ?_
                              refine jv_goto 127 dX8_states_123 ?_
                              refine jv_iadd dX8_states_127 ?_
                              refine jv_putf dX8_states_128 jp_X8_123 (by repeat' (first | assumption | exact ⟨_, by assumption⟩ | refine jv_h1 (by decide) ?_ | refine jv_h0 ?_ | refine jv_h1 (by omega) ?_ | refine jv_hs ?_)) (by exact Nat.le_of_ble_eq_true rfl) ?_
                              refine jv_goto 14 dX8_states_131 ?_
                              have nx := fun h1 o y5 y6 y7 y8 y9 fr => ih (jq_sK sg n (jq_tt sg n 5 a1).2.1 + 1) h1 ta2 re2 te2 of2 le2 (R ++ [(jq_tt sg n 5 a1).2.2]) (by simp; omega) (by have := i4 (by omega); omega) o y5 y6 y7 y8 y9 ms2 sz2 lo2 fr e1 e2 (fun z => by rw [List.append_assoc]; exact e3 z)
                              rw [show ((R ++ [(jq_tt sg n 5 a1).2.2]).length : Int) = (R.length : Int) + 1 by simp] at nx
                              exact jv_les (by repeat' (first | exact True.intro | exact rfl | apply And.intro)) (nx _ (by repeat' (first | assumption | exact ⟨_, by assumption⟩ | refine jv_h1 (by decide) ?_ | refine jv_h0 ?_ | refine jv_h1 (by omega) ?_ | refine jv_hs ?_)) (by repeat' (first | assumption | exact ⟨_, by assumption⟩ | refine jv_h1 (by decide) ?_ | refine jv_h0 ?_ | refine jv_h1 (by omega) ?_ | refine jv_hs ?_)) (by repeat' (first | assumption | exact ⟨_, by assumption⟩ | refine jv_h1 (by decide) ?_ | refine jv_h0 ?_ | refine jv_h1 (by omega) ?_ | refine jv_hs ?_)) (by repeat' (first | assumption | exact ⟨_, by assumption⟩ | refine jv_h1 (by decide) ?_ | refine jv_h0 ?_ | refine jv_h1 (by omega) ?_ | refine jv_hs ?_)) (by repeat' (first | assumption | exact ⟨_, by assumption⟩ | refine jv_h1 (by decide) ?_ | refine jv_h0 ?_ | refine jv_h1 (by omega) ?_ | refine jv_hs ?_)) (by repeat' (first | assumption | exact ⟨_, by assumption⟩ | refine jv_h1 (by decide) ?_ | refine jv_h0 ?_ | refine jv_h1 (by omega) ?_ | refine jv_hs ?_)) (jv_fs_set (by decide) (jv_fs_set (by decide) f3)))
                      · exact absurd rfl c83
                · rw [if_neg g4] at e1 e2
                  have e4 : jq_sK sg n (jq_tt sg n 5 a1).2.1 = R0.2.1 := by rw [e2]
                  rw [e4] at o4
                  unfold jw_O at o4
                  refine jv_istore_n dX8_states_67 rfl (Nat.le_of_ble_eq_true rfl) ?_
                  refine jv_aload_n dX8_states_68 rfl ?_
                  refine jv_aload_n dX8_states_69 rfl ?_
                  refine jv_getf dX8_states_70 jf_X8_130 (by repeat' (first | assumption | exact ⟨_, by assumption⟩ | refine jv_h1 (by decide) ?_ | refine jv_h0 ?_ | refine jv_h1 (by omega) ?_ | refine jv_hs ?_)) (by exact rfl) ?_
                  refine jv_if_ne 86 dX8_states_73 (fun c73 => ?_) (fun c73 => ?_)
                  · exact absurd rfl c73
                  · refine jv_iload_n dX8_states_76 rfl ?_
                    refine jv_if_eq 90 dX8_states_77 (fun c77 => ?_) (fun c77 => ?_)
                    · exact absurd c77 g3
                    · refine jv_iload_n dX8_states_80 rfl ?_
                      refine jv_bipush dX8_states_81 ?_
                      refine jv_icmp_eq 90 dX8_states_83 (fun c83 => ?_) (fun c83 => ?_)
                      · exact absurd c83 g4
                      · refine jv_iconst dX8_states_86 ?_
                        refine jv_goto 91 dX8_states_87 ?_
                        refine jv_putf dX8_states_91 jp_X8_130 (by repeat' (first | assumption | exact ⟨_, by assumption⟩ | refine jv_h1 (by decide) ?_ | refine jv_h0 ?_ | refine jv_h1 (by omega) ?_ | refine jv_hs ?_)) (by exact Nat.le_of_ble_eq_true rfl) ?_ (jv_bn (by omega)) (jv_bf (by omega))
                        refine jv_aload_n dX8_states_94 rfl ?_
                        refine jv_getf dX8_states_95 jf_X8_130 (by repeat' (first | assumption | exact ⟨_, by assumption⟩ | refine jv_h1 (by decide) ?_ | refine jv_h0 ?_ | refine jv_h1 (by omega) ?_ | refine jv_hs ?_)) (by exact rfl) ?_
                        refine jv_if_ne 111 dX8_states_98 (fun c98 => ?_) (fun c98 => ?_)
                        · refine jv_iconst dX8_states_111 ?_
                          refine jv_istore_n dX8_states_112 rfl (Nat.le_of_ble_eq_true rfl) ?_
                          refine jv_aload_n dX8_states_113 rfl ?_
                          refine jv_dup dX8_states_114 rfl ?_
                          refine jv_getf dX8_states_115 jf_X8_123 (by repeat' (first | assumption | exact ⟨_, by assumption⟩ | refine jv_h1 (by decide) ?_ | refine jv_h0 ?_ | refine jv_h1 (by omega) ?_ | refine jv_hs ?_)) (by exact rfl) ?_
                          refine jv_iload_n dX8_states_118 rfl ?_
                          refine jv_if_eq 126 dX8_states_119 (fun c119 => ?_) (fun c119 => ?_)
                          · refine jv_iconst dX8_states_126 ?_
                            refine jv_iadd dX8_states_127 ?_
                            rw [Int.add_zero]
                            refine jv_putf dX8_states_128 jp_X8_123 (by repeat' (first | assumption | exact ⟨_, by assumption⟩ | refine jv_h1 (by decide) ?_ | refine jv_h0 ?_ | refine jv_h1 (by omega) ?_ | refine jv_hs ?_)) (by exact Nat.le_of_ble_eq_true rfl) ?_
                            refine jv_goto 14 dX8_states_131 ?_
                            refine jv_iload_n dX8_states_14 rfl ?_
                            refine jv_if_eq 134 dX8_states_15 (fun c15 => ?_) (fun c15 => ?_)
                            · exact bad _ _ _ _ ta2 re2 te2 of2 le2 e1 (by repeat' (first | assumption | exact ⟨_, by assumption⟩ | refine jv_h1 (by decide) ?_ | refine jv_h0 ?_ | refine jv_h1 (by omega) ?_ | refine jv_hs ?_)) (by repeat' (first | assumption | exact ⟨_, by assumption⟩ | refine jv_h1 (by decide) ?_ | refine jv_h0 ?_ | refine jv_h1 (by omega) ?_ | refine jv_hs ?_)) (by repeat' (first | assumption | exact ⟨_, by assumption⟩ | refine jv_h1 (by decide) ?_ | refine jv_h0 ?_ | refine jv_h1 (by omega) ?_ | refine jv_hs ?_)) (by repeat' (first | assumption | exact ⟨_, by assumption⟩ | refine jv_h1 (by decide) ?_ | refine jv_h0 ?_ | refine jv_h1 (by omega) ?_ | refine jv_hs ?_)) (by repeat' (first | assumption | exact ⟨_, by assumption⟩ | refine jv_h1 (by decide) ?_ | refine jv_h0 ?_ | refine jv_h1 (by omega) ?_ | refine jv_hs ?_)) (by repeat' (first | assumption | exact ⟨_, by assumption⟩ | refine jv_h1 (by decide) ?_ | refine jv_h0 ?_ | refine jv_h1 (by omega) ?_ | refine jv_hs ?_)) lo2 (jv_fs_set (by decide) (jv_fs_set (by decide) f3))
                            · exact absurd rfl c15
                          · exact absurd rfl c119
                        · exact absurd c98 (by omega)
              · exact absurd rfl c56
            · rw [if_neg g1] at o2 e1 e2
              have e4 : (jq_tt sg n 5 a1).2.1 = R0.2.1 := by rw [e2]
              rw [e4] at o2
              unfold jw_O at o2
              refine jv_iinc dX8_states_49 rfl rfl ?_
              refine jv_aload_n dX8_states_52 rfl ?_
              refine jv_getf dX8_states_53 jf_X8_130 (by repeat' (first | assumption | exact ⟨_, by assumption⟩ | refine jv_h1 (by decide) ?_ | refine jv_h0 ?_ | refine jv_h1 (by omega) ?_ | refine jv_hs ?_)) (by exact rfl) ?_
              refine jv_if_eq 63 dX8_states_56 (fun c56 => ?_) (fun c56 => ?_)
              · exact absurd c56 (by omega)
              · refine jv_iconst dX8_states_59 ?_
                refine jv_goto 67 dX8_states_60 ?_
                refine jv_istore_n dX8_states_67 rfl (Nat.le_of_ble_eq_true rfl) ?_
                refine jv_aload_n dX8_states_68 rfl ?_
                refine jv_aload_n dX8_states_69 rfl ?_
                refine jv_getf dX8_states_70 jf_X8_130 (by repeat' (first | assumption | exact ⟨_, by assumption⟩ | refine jv_h1 (by decide) ?_ | refine jv_h0 ?_ | refine jv_h1 (by omega) ?_ | refine jv_hs ?_)) (by exact rfl) ?_
                refine jv_if_ne 86 dX8_states_73 (fun c73 => ?_) (fun c73 => ?_)
                · refine jv_iconst dX8_states_86 ?_
                  refine jv_goto 91 dX8_states_87 ?_
                  refine jv_putf dX8_states_91 jp_X8_130 (by repeat' (first | assumption | exact ⟨_, by assumption⟩ | refine jv_h1 (by decide) ?_ | refine jv_h0 ?_ | refine jv_h1 (by omega) ?_ | refine jv_hs ?_)) (by exact Nat.le_of_ble_eq_true rfl) ?_ (jv_bn (by omega)) (jv_bf (by omega))
                  refine jv_aload_n dX8_states_94 rfl ?_
                  refine jv_getf dX8_states_95 jf_X8_130 (by repeat' (first | assumption | exact ⟨_, by assumption⟩ | refine jv_h1 (by decide) ?_ | refine jv_h0 ?_ | refine jv_h1 (by omega) ?_ | refine jv_hs ?_)) (by exact rfl) ?_
                  refine jv_if_ne 111 dX8_states_98 (fun c98 => ?_) (fun c98 => ?_)
                  · refine jv_iconst dX8_states_111 ?_
                    refine jv_istore_n dX8_states_112 rfl (Nat.le_of_ble_eq_true rfl) ?_
                    refine jv_aload_n dX8_states_113 rfl ?_
                    refine jv_dup dX8_states_114 rfl ?_
                    refine jv_getf dX8_states_115 jf_X8_123 (by repeat' (first | assumption | exact ⟨_, by assumption⟩ | refine jv_h1 (by decide) ?_ | refine jv_h0 ?_ | refine jv_h1 (by omega) ?_ | refine jv_hs ?_)) (by exact rfl) ?_
                    refine jv_iload_n dX8_states_118 rfl ?_
                    refine jv_if_eq 126 dX8_states_119 (fun c119 => ?_) (fun c119 => ?_)
                    · refine jv_iconst dX8_states_126 ?_
                      refine jv_iadd dX8_states_127 ?_
                      rw [Int.add_zero]
                      refine jv_putf dX8_states_128 jp_X8_123 (by repeat' (first | assumption | exact ⟨_, by assumption⟩ | refine jv_h1 (by decide) ?_ | refine jv_h0 ?_ | refine jv_h1 (by omega) ?_ | refine jv_hs ?_)) (by exact Nat.le_of_ble_eq_true rfl) ?_
                      refine jv_goto 14 dX8_states_131 ?_
                      refine jv_iload_n dX8_states_14 rfl ?_
                      refine jv_if_eq 134 dX8_states_15 (fun c15 => ?_) (fun c15 => ?_)
                      · exact bad _ _ _ _ ta2 re2 te2 of2 le2 e1 (by repeat' (first | assumption | exact ⟨_, by assumption⟩ | refine jv_h1 (by decide) ?_ | refine jv_h0 ?_ | refine jv_h1 (by omega) ?_ | refine jv_hs ?_)) (by repeat' (first | assumption | exact ⟨_, by assumption⟩ | refine jv_h1 (by decide) ?_ | refine jv_h0 ?_ | refine jv_h1 (by omega) ?_ | refine jv_hs ?_)) (by repeat' (first | assumption | exact ⟨_, by assumption⟩ | refine jv_h1 (by decide) ?_ | refine jv_h0 ?_ | refine jv_h1 (by omega) ?_ | refine jv_hs ?_)) (by repeat' (first | assumption | exact ⟨_, by assumption⟩ | refine jv_h1 (by decide) ?_ | refine jv_h0 ?_ | refine jv_h1 (by omega) ?_ | refine jv_hs ?_)) (by repeat' (first | assumption | exact ⟨_, by assumption⟩ | refine jv_h1 (by decide) ?_ | refine jv_h0 ?_ | refine jv_h1 (by omega) ?_ | refine jv_hs ?_)) (by repeat' (first | assumption | exact ⟨_, by assumption⟩ | refine jv_h1 (by decide) ?_ | refine jv_h0 ?_ | refine jv_h1 (by omega) ?_ | refine jv_hs ?_)) lo2 (jv_fs_set (by decide) (jv_fs_set (by decide) f2))
                      · exact absurd rfl c15
                    · exact absurd rfl c119
                  · exact absurd c98 (by omega)
                · exact absurd c73 (by omega)
          · exact absurd c28 (by omega)
  unfold jw_O at o
  refine jv_aload_n dX8_states_0 rfl ?_
  refine jv_iconst dX8_states_1 ?_
  refine jv_putf dX8_states_2 jp_X8_123 (by repeat' (first | assumption | exact ⟨_, by assumption⟩ | refine jv_h1 (by decide) ?_ | refine jv_h0 ?_ | refine jv_h1 (by omega) ?_ | refine jv_hs ?_)) (by exact Nat.le_of_ble_eq_true rfl) ?_
  refine jv_aload_n dX8_states_5 rfl ?_
  refine jv_iconst dX8_states_6 ?_
  refine jv_putf dX8_states_7 jp_X8_130 (by repeat' (first | assumption | exact ⟨_, by assumption⟩ | refine jv_h1 (by decide) ?_ | refine jv_h0 ?_ | refine jv_h1 (by omega) ?_ | refine jv_hs ?_)) (by exact Nat.le_of_ble_eq_true rfl) ?_ (jv_bn (by omega)) (jv_bf (by omega))
  refine jv_iconst dX8_states_10 ?_
  refine jv_istore_n dX8_states_11 rfl (Nat.le_of_ble_eq_true rfl) ?_
  refine jv_iconst dX8_states_12 ?_
  refine jv_istore_n dX8_states_13 rfl (Nat.le_of_ble_eq_true rfl) ?_
  exact jv_les (by repeat' (first | exact True.intro | exact rfl | apply And.intro)) (loop 6 0 _ ta re te of le [] (by simp) (by omega) (by repeat' (first | assumption | exact ⟨_, by assumption⟩ | refine jv_h1 (by decide) ?_ | refine jv_h0 ?_ | refine jv_h1 (by omega) ?_ | refine jv_hs ?_)) (by repeat' (first | assumption | exact ⟨_, by assumption⟩ | refine jv_h1 (by decide) ?_ | refine jv_h0 ?_ | refine jv_h1 (by omega) ?_ | refine jv_hs ?_)) (by repeat' (first | assumption | exact ⟨_, by assumption⟩ | refine jv_h1 (by decide) ?_ | refine jv_h0 ?_ | refine jv_h1 (by omega) ?_ | refine jv_hs ?_)) (by repeat' (first | assumption | exact ⟨_, by assumption⟩ | refine jv_h1 (by decide) ?_ | refine jv_h0 ?_ | refine jv_h1 (by omega) ?_ | refine jv_hs ?_)) (by repeat' (first | assumption | exact ⟨_, by assumption⟩ | refine jv_h1 (by decide) ?_ | refine jv_h0 ?_ | refine jv_h1 (by omega) ?_ | refine jv_hs ?_)) (by repeat' (first | assumption | exact ⟨_, by assumption⟩ | refine jv_h1 (by decide) ?_ | refine jv_h0 ?_ | refine jv_h1 (by omega) ?_ | refine jv_hs ?_)) (fun s l z => by simp at z) (fun l z => by simp at z) ⟨fun _ _ => rfl, fun _ _ => rfl, fun _ _ => rfl, fun _ _ => ⟨rfl, rfl⟩⟩ (jv_fs_set (by decide) (jv_fs_set (by decide) jv_fs_rf)) (by rw [hR0]) (by rw [hR0]) (fun _ => by rw [hR0]; rfl))
end MS2
