/-! the reference's readTerm -/
theorem jv_up_u (f : Int → Int) (k x y : Int) : jv_up (jv_up f k x) k y = jv_up f k y := by
  funext j
  by_cases e : j = k <;> simp [jv_up, e]
theorem jv_fs_at {P : List Nat} {h h' : List jv_E} {i : Nat} {c : jv_E} (f : jv_fs P h h') (hi : i ∉ P) (w : h[i]? = some c) : h'[i]? = some c := by rw [f i hi]; exact w
theorem jv_fs_w {P Q : List Nat} {h h' : List jv_E} (hPQ : ∀ i ∈ P, i ∈ Q) (f : jv_fs P h h') : jv_fs Q h h' := fun i hi => f i (fun z => hi (hPQ i z))
section MT
variable {h : List jv_E} {rr lv cu n st a da ra wa : Int} {sg of le : Int → Int} {post : Option Value → List jv_E → Prop}
theorem ct_X8_readTerm {pl mi : Int} (K : Nat) (o : jw_O h rr lv cu n st a 0 da ra wa) (w : h[104]? = some (jv_ai 300 sg)) (w2 : h[108]? = some (jv_ai 480 of)) (w3 : h[109]? = some (jv_ai 480 le)) (hS : jq_S n sg) (ha : 0 ≤ a ∧ a ≤ n) (hpl : 0 ≤ pl ∧ pl < 480) (hmi : mi = 0 ∨ mi = 1) (hp1 : jq_tk sg n a → ∀ h', jw_O h' rr lv cu n st (jq_tp sg n a) 0 da ra wa → h'[108]? = some (jv_ai 480 (jv_up of pl (if mi = 0 then jq_tv sg n a else -jq_tv sg n a))) → h'[109]? = some (jv_ai 480 (jv_up le pl (jq_tl sg n a))) → jv_fs [97, 108, 109] h h' → post none h') (hp2 : ¬ jq_tk sg n a → ∀ h' le', jw_O h' rr lv cu n st (jq_tp sg n a) 1 da ra wa → h'[108]? = some (jv_ai 480 of) → h'[109]? = some (jv_ai 480 le') → (∀ j, j ≠ pl → le' j = le j) → jv_fs [97, 108, 109] h h' → post none h') : jv_Ct yX8_readTerm cX8_readTerm 8 none (K + 1) [.ref 97, .int (jv_i pl), .int (jv_i mi)] h post := by
  have hn := hS.1
  obtain ⟨i1, i2, i3, i4, i5, i6⟩ := jq_t_in hS ha
  have ic := jq_lc_il (jq_tc sg n a)
  have ir := jq_nr_in (sg := sg) (n := n) (b := jq_tb sg n a) (by omega)
  have er : jq_tv sg n a = jq_nr sg n (jq_tb sg n a) := rfl
  unfold jq_tk at hp1 hp2
  unfold jq_tp at hp1 hp2
  unfold jq_tl at hp1
  refine jv_entry (own := RX8) (by decide) rfl (Nat.le_of_ble_eq_true rfl) (fun X hq => ?_)
  have fin : ∀ (h1 : List jv_E), jq_tv sg n a ≠ -1 → jw_O h1 rr lv cu n st (jq_tb sg n a + jq_DC sg n (jq_tb sg n a)) 0 da ra wa → jv_fs [97] h h1 → jv_J X cX8_readTerm RX8 (K + 1) 148 [some (.ref 97), some (.int (jv_i pl)), some (.int (jv_i mi)), none, some (.int (jv_i (jq_tb sg n a))), some (.int (jv_i (jq_DC sg n (jq_tb sg n a)))), some (.int (jv_i (jq_tv sg n a))), none] [] h1 := by
    intro h1 hv o fr
    have x1 := jv_fs_at fr (by decide) w
    have o9 := o
    unfold jw_O at o
    refine jv_aload_n dX8_readTerm_148 rfl ?_
    refine jv_cV dX8_readTerm_149 jm_X8_126 rfl (by repeat' (first | assumption | exact ⟨_, by assumption⟩ | refine jv_h1 (by decide) ?_ | refine jv_h0 ?_ | refine jv_h1 (by omega) ?_ | refine jv_hs ?_)) rfl (ct_X8_look K o9 x1 hS (by omega) (fun h2 o2 fr2 => ?_))
    refine jv_ti (b := jq_tc sg n a) rfl ?_
    have fr := jv_fs_w (Q := [97, 108, 109]) (by decide) (jv_fs_tr fr fr2)
    have z2 := jv_fs_at (jv_fs_tr ‹jv_fs [97] h h1› fr2) (by decide) w2
    have z3 := jv_fs_at (jv_fs_tr ‹jv_fs [97] h h1› fr2) (by decide) w3
    rw [show jq_sK sg n (jq_tb sg n a + jq_DC sg n (jq_tb sg n a)) = jq_te sg n a from rfl] at o2
    unfold jw_O at o2
    refine jv_istore dX8_readTerm_152 rfl (Nat.le_of_ble_eq_true rfl) ?_
    refine jv_aload_n dX8_readTerm_154 rfl ?_
    refine jv_getf dX8_readTerm_155 jf_X8_43 (by repeat' (first | assumption | exact ⟨_, by assumption⟩ | refine jv_h1 (by decide) ?_ | refine jv_h0 ?_ | refine jv_h1 (by omega) ?_ | refine jv_hs ?_)) (by exact rfl) ?_
    refine jv_iload_n dX8_readTerm_158 rfl ?_
    refine jv_iconst dX8_readTerm_159 ?_
    refine jv_iast dX8_readTerm_160 (by repeat' (first | assumption | exact ⟨_, by assumption⟩ | refine jv_h1 (by decide) ?_ | refine jv_h0 ?_ | refine jv_h1 (by omega) ?_ | refine jv_hs ?_)) ?_
    refine jv_iload dX8_readTerm_161 rfl ?_
    refine jv_cS dX8_readTerm_163 jm_X8_134 (ct_X8_isLetter K (by omega) (fun r q1 q2 q3 => ?_))
    refine jv_if_eq 207 dX8_readTerm_166 (fun c166 => ?_) (fun c166 => ?_)
    · have l0 : ¬ 0 ≤ jq_lc (jq_tc sg n a) := fun z => by have := q1 (ic.1.mpr z); omega
      refine jv_iload dX8_readTerm_207 rfl ?_
      refine jv_if_ne 218 dX8_readTerm_209 (fun c209 => ?_) (fun c209 => ?_)
      · refine jv_aload_n dX8_readTerm_218 rfl ?_
        refine jv_getf dX8_readTerm_219 jf_X8_40 (by repeat' (first | assumption | exact ⟨_, by assumption⟩ | refine jv_h1 (by decide) ?_ | refine jv_h0 ?_ | refine jv_h1 (by omega) ?_ | refine jv_hs ?_)) (by exact rfl) ?_
        refine jv_iload_n dX8_readTerm_222 rfl ?_
        refine jv_iload_n dX8_readTerm_223 rfl ?_
        refine jv_if_eq 233 dX8_readTerm_224 (fun c224 => ?_) (fun c224 => ?_)
        · refine jv_iload dX8_readTerm_233 rfl ?_
          refine jv_iast dX8_readTerm_235 (by repeat' (first | assumption | exact ⟨_, by assumption⟩ | refine jv_h1 (by decide) ?_ | refine jv_h0 ?_ | refine jv_h1 (by omega) ?_ | refine jv_hs ?_)) ?_
          have hp1 := hp1 (by omega)
          rw [if_pos (by omega), if_neg l0, if_neg l0, if_pos c224] at hp1
          exact jv_vret dX8_readTerm_236 hq (hp1 _ (by repeat' (first | assumption | exact ⟨_, by assumption⟩ | refine jv_h1 (by decide) ?_ | refine jv_h0 ?_ | refine jv_h1 (by omega) ?_ | refine jv_hs ?_)) (by repeat' (first | assumption | exact ⟨_, by assumption⟩ | refine jv_h1 (by decide) ?_ | refine jv_h0 ?_ | refine jv_h1 (by omega) ?_ | refine jv_hs ?_)) (by repeat' (first | assumption | exact ⟨_, by assumption⟩ | refine jv_h1 (by decide) ?_ | refine jv_h0 ?_ | refine jv_h1 (by omega) ?_ | refine jv_hs ?_)) (jv_fs_set (by decide) (jv_fs_set (by decide) fr)))
        · refine jv_iload dX8_readTerm_227 rfl ?_
          refine jv_ineg dX8_readTerm_229 ?_
          refine jv_goto 235 dX8_readTerm_230 ?_
          refine jv_iast dX8_readTerm_235 (by repeat' (first | assumption | exact ⟨_, by assumption⟩ | refine jv_h1 (by decide) ?_ | refine jv_h0 ?_ | refine jv_h1 (by omega) ?_ | refine jv_hs ?_)) ?_
          have hp1 := hp1 (by omega)
          rw [if_pos (by omega), if_neg l0, if_neg l0, if_neg c224] at hp1
          exact jv_vret dX8_readTerm_236 hq (hp1 _ (by repeat' (first | assumption | exact ⟨_, by assumption⟩ | refine jv_h1 (by decide) ?_ | refine jv_h0 ?_ | refine jv_h1 (by omega) ?_ | refine jv_hs ?_)) (by repeat' (first | assumption | exact ⟨_, by assumption⟩ | refine jv_h1 (by decide) ?_ | refine jv_h0 ?_ | refine jv_h1 (by omega) ?_ | refine jv_hs ?_)) (by repeat' (first | assumption | exact ⟨_, by assumption⟩ | refine jv_h1 (by decide) ?_ | refine jv_h0 ?_ | refine jv_h1 (by omega) ?_ | refine jv_hs ?_)) (jv_fs_set (by decide) (jv_fs_set (by decide) fr)))
      · refine jv_aload_n dX8_readTerm_212 rfl ?_
        refine jv_iconst dX8_readTerm_213 ?_
        refine jv_putf dX8_readTerm_214 jp_X8_130 (by repeat' (first | assumption | exact ⟨_, by assumption⟩ | refine jv_h1 (by decide) ?_ | refine jv_h0 ?_ | refine jv_h1 (by omega) ?_ | refine jv_hs ?_)) (by exact Nat.le_of_ble_eq_true rfl) ?_ (jv_bn (by omega)) (jv_bf (by omega))
        have hp2 := hp2 (by omega)
        rw [if_neg (by omega), if_pos (by omega)] at hp2
        exact jv_vret dX8_readTerm_217 hq (hp2 _ _ (by repeat' (first | assumption | exact ⟨_, by assumption⟩ | refine jv_h1 (by decide) ?_ | refine jv_h0 ?_ | refine jv_h1 (by omega) ?_ | refine jv_hs ?_)) (by repeat' (first | assumption | exact ⟨_, by assumption⟩ | refine jv_h1 (by decide) ?_ | refine jv_h0 ?_ | refine jv_h1 (by omega) ?_ | refine jv_hs ?_)) (by repeat' (first | assumption | exact ⟨_, by assumption⟩ | refine jv_h1 (by decide) ?_ | refine jv_h0 ?_ | refine jv_h1 (by omega) ?_ | refine jv_hs ?_)) (by intro j z; first | rfl | exact jv_up_n _ z) (jv_fs_set (by decide) (jv_fs_set (by decide) fr)))
    · have l0 : 0 ≤ jq_lc (jq_tc sg n a) := ic.1.mp (Classical.byContradiction (fun z => c166 (q2 z)))
      refine jv_iload dX8_readTerm_169 rfl ?_
      refine jv_if_ne 186 dX8_readTerm_171 (fun c171 => ?_) (fun c171 => ?_)
      · refine jv_aload_n dX8_readTerm_186 rfl ?_
        refine jv_getf dX8_readTerm_187 jf_X8_43 (by repeat' (first | assumption | exact ⟨_, by assumption⟩ | refine jv_h1 (by decide) ?_ | refine jv_h0 ?_ | refine jv_h1 (by omega) ?_ | refine jv_hs ?_)) (by exact rfl) ?_
        refine jv_iload_n dX8_readTerm_190 rfl ?_
        refine jv_iload dX8_readTerm_191 rfl ?_
        refine jv_iast dX8_readTerm_193 (by repeat' (first | assumption | exact ⟨_, by assumption⟩ | refine jv_h1 (by decide) ?_ | refine jv_h0 ?_ | refine jv_h1 (by omega) ?_ | refine jv_hs ?_)) ?_
        refine jv_aload_n dX8_readTerm_194 rfl ?_
        refine jv_dup dX8_readTerm_195 rfl ?_
        refine jv_getf dX8_readTerm_196 jf_X8_123 (by repeat' (first | assumption | exact ⟨_, by assumption⟩ | refine jv_h1 (by decide) ?_ | refine jv_h0 ?_ | refine jv_h1 (by omega) ?_ | refine jv_hs ?_)) (by exact rfl) ?_
        refine jv_iconst dX8_readTerm_199 ?_
        refine jv_iadd dX8_readTerm_200 ?_
        refine jv_putf dX8_readTerm_201 jp_X8_123 (by repeat' (first | assumption | exact ⟨_, by assumption⟩ | refine jv_h1 (by decide) ?_ | refine jv_h0 ?_ | refine jv_h1 (by omega) ?_ | refine jv_hs ?_)) (by exact Nat.le_of_ble_eq_true rfl) ?_
        refine jv_goto 218 dX8_readTerm_204 ?_
        refine jv_aload_n dX8_readTerm_218 rfl ?_
        refine jv_getf dX8_readTerm_219 jf_X8_40 (by repeat' (first | assumption | exact ⟨_, by assumption⟩ | refine jv_h1 (by decide) ?_ | refine jv_h0 ?_ | refine jv_h1 (by omega) ?_ | refine jv_hs ?_)) (by exact rfl) ?_
        refine jv_iload_n dX8_readTerm_222 rfl ?_
        refine jv_iload_n dX8_readTerm_223 rfl ?_
        refine jv_if_eq 233 dX8_readTerm_224 (fun c224 => ?_) (fun c224 => ?_)
        · refine jv_iload dX8_readTerm_233 rfl ?_
          refine jv_iast dX8_readTerm_235 (by repeat' (first | assumption | exact ⟨_, by assumption⟩ | refine jv_h1 (by decide) ?_ | refine jv_h0 ?_ | refine jv_h1 (by omega) ?_ | refine jv_hs ?_)) ?_
          have hp1 := hp1 (by omega)
          rw [if_pos (by omega), if_pos l0, if_pos l0, if_pos c224, ← jv_up_u le pl 0] at hp1
          exact jv_vret dX8_readTerm_236 hq (hp1 _ (by repeat' (first | assumption | exact ⟨_, by assumption⟩ | refine jv_h1 (by decide) ?_ | refine jv_h0 ?_ | refine jv_h1 (by omega) ?_ | refine jv_hs ?_)) (by repeat' (first | assumption | exact ⟨_, by assumption⟩ | refine jv_h1 (by decide) ?_ | refine jv_h0 ?_ | refine jv_h1 (by omega) ?_ | refine jv_hs ?_)) (by repeat' (first | assumption | exact ⟨_, by assumption⟩ | refine jv_h1 (by decide) ?_ | refine jv_h0 ?_ | refine jv_h1 (by omega) ?_ | refine jv_hs ?_)) (jv_fs_set (by decide) (jv_fs_set (by decide) (jv_fs_set (by decide) (jv_fs_set (by decide) fr)))))
        · refine jv_iload dX8_readTerm_227 rfl ?_
          refine jv_ineg dX8_readTerm_229 ?_
          refine jv_goto 235 dX8_readTerm_230 ?_
          refine jv_iast dX8_readTerm_235 (by repeat' (first | assumption | exact ⟨_, by assumption⟩ | refine jv_h1 (by decide) ?_ | refine jv_h0 ?_ | refine jv_h1 (by omega) ?_ | refine jv_hs ?_)) ?_
          have hp1 := hp1 (by omega)
          rw [if_pos (by omega), if_pos l0, if_pos l0, if_neg c224, ← jv_up_u le pl 0] at hp1
          exact jv_vret dX8_readTerm_236 hq (hp1 _ (by repeat' (first | assumption | exact ⟨_, by assumption⟩ | refine jv_h1 (by decide) ?_ | refine jv_h0 ?_ | refine jv_h1 (by omega) ?_ | refine jv_hs ?_)) (by repeat' (first | assumption | exact ⟨_, by assumption⟩ | refine jv_h1 (by decide) ?_ | refine jv_h0 ?_ | refine jv_h1 (by omega) ?_ | refine jv_hs ?_)) (by repeat' (first | assumption | exact ⟨_, by assumption⟩ | refine jv_h1 (by decide) ?_ | refine jv_h0 ?_ | refine jv_h1 (by omega) ?_ | refine jv_hs ?_)) (jv_fs_set (by decide) (jv_fs_set (by decide) (jv_fs_set (by decide) (jv_fs_set (by decide) fr)))))
      · refine jv_aload_n dX8_readTerm_174 rfl ?_
        refine jv_iload dX8_readTerm_175 rfl ?_
        refine jv_putf dX8_readTerm_177 jp_X8_123 (by repeat' (first | assumption | exact ⟨_, by assumption⟩ | refine jv_h1 (by decide) ?_ | refine jv_h0 ?_ | refine jv_h1 (by omega) ?_ | refine jv_hs ?_)) (by exact Nat.le_of_ble_eq_true rfl) ?_
        refine jv_aload_n dX8_readTerm_180 rfl ?_
        refine jv_iconst dX8_readTerm_181 ?_
        refine jv_putf dX8_readTerm_182 jp_X8_130 (by repeat' (first | assumption | exact ⟨_, by assumption⟩ | refine jv_h1 (by decide) ?_ | refine jv_h0 ?_ | refine jv_h1 (by omega) ?_ | refine jv_hs ?_)) (by exact Nat.le_of_ble_eq_true rfl) ?_ (jv_bn (by omega)) (jv_bf (by omega))
        have hp2 := hp2 (by omega)
        rw [if_neg (by omega), if_neg (by have := ir; unfold jq_nr at er; split at er <;> omega)] at hp2
        exact jv_vret dX8_readTerm_185 hq (hp2 _ _ (by repeat' (first | assumption | exact ⟨_, by assumption⟩ | refine jv_h1 (by decide) ?_ | refine jv_h0 ?_ | refine jv_h1 (by omega) ?_ | refine jv_hs ?_)) (by repeat' (first | assumption | exact ⟨_, by assumption⟩ | refine jv_h1 (by decide) ?_ | refine jv_h0 ?_ | refine jv_h1 (by omega) ?_ | refine jv_hs ?_)) (by repeat' (first | assumption | exact ⟨_, by assumption⟩ | refine jv_h1 (by decide) ?_ | refine jv_h0 ?_ | refine jv_h1 (by omega) ?_ | refine jv_hs ?_)) (by intro j z; first | rfl | exact jv_up_n _ z) (jv_fs_set (by decide) (jv_fs_set (by decide) (jv_fs_set (by decide) fr))))
  have mid : ∀ (k : Nat) (h1 : List jv_E), jq_DC sg n (jq_tb sg n a) = k → jw_O h1 rr lv cu n st (jq_tb sg n a + k) 0 da ra wa → jv_fs [97] h h1 → jv_J X cX8_readTerm RX8 (K + 1) 104 [some (.ref 97), some (.int (jv_i pl)), some (.int (jv_i mi)), none, some (.int (jv_i (jq_tb sg n a))), some (.int (jv_i k)), some (.int (jv_i (jq_vl sg (jq_tb sg n a) (min k 6)))), none] [] h1 := by
    intro k h1 e o fr
    have x1 := jv_fs_at fr (by decide) w
    have z2 := jv_fs_at fr (by decide) w2
    have z3 := jv_fs_at fr (by decide) w3
    have sb := hS.2 (jq_tb sg n a)
    have ff := fun hv => fin h1 hv (by rw [e]; exact o) fr
    have fr := jv_fs_w (Q := [97, 108, 109]) (by decide) fr
    unfold jq_nr at er
    rw [e] at er ff
    unfold jw_O at o
    refine jv_iload dX8_readTerm_104 rfl ?_
    refine jv_if_ne 112 dX8_readTerm_106 (fun c106 => ?_) (fun c106 => ?_)
    · refine jv_iload dX8_readTerm_112 rfl ?_
      refine jv_iconst dX8_readTerm_114 ?_
      refine jv_icmp_gt 136 dX8_readTerm_115 (fun c115 => ?_) (fun c115 => ?_)
      · refine jv_aload_n dX8_readTerm_136 rfl ?_
        refine jv_iload dX8_readTerm_137 rfl ?_
        refine jv_putf dX8_readTerm_139 jp_X8_123 (by repeat' (first | assumption | exact ⟨_, by assumption⟩ | refine jv_h1 (by decide) ?_ | refine jv_h0 ?_ | refine jv_h1 (by omega) ?_ | refine jv_hs ?_)) (by exact Nat.le_of_ble_eq_true rfl) ?_
        refine jv_aload_n dX8_readTerm_142 rfl ?_
        refine jv_iconst dX8_readTerm_143 ?_
        refine jv_putf dX8_readTerm_144 jp_X8_130 (by repeat' (first | assumption | exact ⟨_, by assumption⟩ | refine jv_h1 (by decide) ?_ | refine jv_h0 ?_ | refine jv_h1 (by omega) ?_ | refine jv_hs ?_)) (by exact Nat.le_of_ble_eq_true rfl) ?_ (jv_bn (by omega)) (jv_bf (by omega))
        have e2 : jq_tv sg n a = -1 := by rw [er, if_neg (by omega), if_pos (by omega)]
        have hp2 := hp2 (by omega)
        rw [if_neg (by omega), if_neg (by omega)] at hp2
        exact jv_vret dX8_readTerm_147 hq (hp2 _ _ (by repeat' (first | assumption | exact ⟨_, by assumption⟩ | refine jv_h1 (by decide) ?_ | refine jv_h0 ?_ | refine jv_h1 (by omega) ?_ | refine jv_hs ?_)) (by repeat' (first | assumption | exact ⟨_, by assumption⟩ | refine jv_h1 (by decide) ?_ | refine jv_h0 ?_ | refine jv_h1 (by omega) ?_ | refine jv_hs ?_)) (by repeat' (first | assumption | exact ⟨_, by assumption⟩ | refine jv_h1 (by decide) ?_ | refine jv_h0 ?_ | refine jv_h1 (by omega) ?_ | refine jv_hs ?_)) (by intro j z; first | rfl | exact jv_up_n _ z) (jv_fs_set (by decide) (jv_fs_set (by decide) fr)))
      · refine jv_iload dX8_readTerm_118 rfl ?_
        refine jv_iconst dX8_readTerm_120 ?_
        refine jv_icmp_le 148 dX8_readTerm_121 (fun c121 => ?_) (fun c121 => ?_)
        · have e2 : jq_tv sg n a = jq_vl sg (jq_tb sg n a) (min k 6) := by rw [er, if_neg (by omega), if_neg (by omega)]; congr 1; omega
          rw [← e2]
          exact ff (by rw [er, if_neg (by omega), if_neg (by omega)]; have := (jq_vl_in sg (jq_tb sg n a) (k : Int).toNat (fun j z1 z2 => (jq_dc_in sg n 300 (jq_tb sg n a) (by omega)).2 j z1 (by have : jq_DC sg n (jq_tb sg n a) = jq_dc sg n 300 (jq_tb sg n a) := rfl; omega))).1; omega)
        · refine jv_aload_n dX8_readTerm_124 rfl ?_
          refine jv_getf dX8_readTerm_125 jf_X8_28 (by repeat' (first | assumption | exact ⟨_, by assumption⟩ | refine jv_h1 (by decide) ?_ | refine jv_h0 ?_ | refine jv_h1 (by omega) ?_ | refine jv_hs ?_)) (by exact rfl) ?_
          refine jv_iload dX8_readTerm_128 rfl ?_
          refine jv_iald dX8_readTerm_130 (by repeat' (first | assumption | exact ⟨_, by assumption⟩ | refine jv_h1 (by decide) ?_ | refine jv_h0 ?_ | refine jv_h1 (by omega) ?_ | refine jv_hs ?_)) ?_
          refine jv_bipush dX8_readTerm_131 ?_
          refine jv_icmp_ne 148 dX8_readTerm_133 (fun c133 => ?_) (fun c133 => ?_)
          · have e2 : jq_tv sg n a = jq_vl sg (jq_tb sg n a) (min k 6) := by rw [er, if_neg (by omega), if_neg (by omega)]; congr 1; omega
            rw [← e2]
            exact ff (by rw [er, if_neg (by omega), if_neg (by omega)]; have := (jq_vl_in sg (jq_tb sg n a) (k : Int).toNat (fun j z1 z2 => (jq_dc_in sg n 300 (jq_tb sg n a) (by omega)).2 j z1 (by have : jq_DC sg n (jq_tb sg n a) = jq_dc sg n 300 (jq_tb sg n a) := rfl; omega))).1; omega)
          · refine jv_aload_n dX8_readTerm_136 rfl ?_
            refine jv_iload dX8_readTerm_137 rfl ?_
            refine jv_putf dX8_readTerm_139 jp_X8_123 (by repeat' (first | assumption | exact ⟨_, by assumption⟩ | refine jv_h1 (by decide) ?_ | refine jv_h0 ?_ | refine jv_h1 (by omega) ?_ | refine jv_hs ?_)) (by exact Nat.le_of_ble_eq_true rfl) ?_
            refine jv_aload_n dX8_readTerm_142 rfl ?_
            refine jv_iconst dX8_readTerm_143 ?_
            refine jv_putf dX8_readTerm_144 jp_X8_130 (by repeat' (first | assumption | exact ⟨_, by assumption⟩ | refine jv_h1 (by decide) ?_ | refine jv_h0 ?_ | refine jv_h1 (by omega) ?_ | refine jv_hs ?_)) (by exact Nat.le_of_ble_eq_true rfl) ?_ (jv_bn (by omega)) (jv_bf (by omega))
            have e2 : jq_tv sg n a = -1 := by rw [er, if_neg (by omega), if_pos (by omega)]
            have hp2 := hp2 (by omega)
            rw [if_neg (by omega), if_neg (by omega)] at hp2
            exact jv_vret dX8_readTerm_147 hq (hp2 _ _ (by repeat' (first | assumption | exact ⟨_, by assumption⟩ | refine jv_h1 (by decide) ?_ | refine jv_h0 ?_ | refine jv_h1 (by omega) ?_ | refine jv_hs ?_)) (by repeat' (first | assumption | exact ⟨_, by assumption⟩ | refine jv_h1 (by decide) ?_ | refine jv_h0 ?_ | refine jv_h1 (by omega) ?_ | refine jv_hs ?_)) (by repeat' (first | assumption | exact ⟨_, by assumption⟩ | refine jv_h1 (by decide) ?_ | refine jv_h0 ?_ | refine jv_h1 (by omega) ?_ | refine jv_hs ?_)) (by intro j z; first | rfl | exact jv_up_n _ z) (jv_fs_set (by decide) (jv_fs_set (by decide) fr)))
    · refine jv_iconst dX8_readTerm_109 ?_
      refine jv_istore dX8_readTerm_110 rfl (Nat.le_of_ble_eq_true rfl) ?_
      refine jv_iload dX8_readTerm_112 rfl ?_
      refine jv_iconst dX8_readTerm_114 ?_
      refine jv_icmp_gt 136 dX8_readTerm_115 (fun c115 => ?_) (fun c115 => ?_)
      · refine jv_aload_n dX8_readTerm_136 rfl ?_
        refine jv_iload dX8_readTerm_137 rfl ?_
        refine jv_putf dX8_readTerm_139 jp_X8_123 (by repeat' (first | assumption | exact ⟨_, by assumption⟩ | refine jv_h1 (by decide) ?_ | refine jv_h0 ?_ | refine jv_h1 (by omega) ?_ | refine jv_hs ?_)) (by exact Nat.le_of_ble_eq_true rfl) ?_
        refine jv_aload_n dX8_readTerm_142 rfl ?_
        refine jv_iconst dX8_readTerm_143 ?_
        refine jv_putf dX8_readTerm_144 jp_X8_130 (by repeat' (first | assumption | exact ⟨_, by assumption⟩ | refine jv_h1 (by decide) ?_ | refine jv_h0 ?_ | refine jv_h1 (by omega) ?_ | refine jv_hs ?_)) (by exact Nat.le_of_ble_eq_true rfl) ?_ (jv_bn (by omega)) (jv_bf (by omega))
        have e2 : jq_tv sg n a = -1 := by rw [er, if_neg (by omega), if_pos (by omega)]
        have hp2 := hp2 (by omega)
        rw [if_neg (by omega), if_neg (by omega)] at hp2
        exact jv_vret dX8_readTerm_147 hq (hp2 _ _ (by repeat' (first | assumption | exact ⟨_, by assumption⟩ | refine jv_h1 (by decide) ?_ | refine jv_h0 ?_ | refine jv_h1 (by omega) ?_ | refine jv_hs ?_)) (by repeat' (first | assumption | exact ⟨_, by assumption⟩ | refine jv_h1 (by decide) ?_ | refine jv_h0 ?_ | refine jv_h1 (by omega) ?_ | refine jv_hs ?_)) (by repeat' (first | assumption | exact ⟨_, by assumption⟩ | refine jv_h1 (by decide) ?_ | refine jv_h0 ?_ | refine jv_h1 (by omega) ?_ | refine jv_hs ?_)) (by intro j z; first | rfl | exact jv_up_n _ z) (jv_fs_set (by decide) (jv_fs_set (by decide) fr)))
      · refine jv_iload dX8_readTerm_118 rfl ?_
        refine jv_iconst dX8_readTerm_120 ?_
        refine jv_icmp_le 148 dX8_readTerm_121 (fun c121 => ?_) (fun c121 => ?_)
        · have e2 : jq_tv sg n a = 1 := by rw [er, if_pos (by omega)]
          rw [e2] at ff
          exact ff (by omega)
        · refine jv_aload_n dX8_readTerm_124 rfl ?_
          refine jv_getf dX8_readTerm_125 jf_X8_28 (by repeat' (first | assumption | exact ⟨_, by assumption⟩ | refine jv_h1 (by decide) ?_ | refine jv_h0 ?_ | refine jv_h1 (by omega) ?_ | refine jv_hs ?_)) (by exact rfl) ?_
          refine jv_iload dX8_readTerm_128 rfl ?_
          refine jv_iald dX8_readTerm_130 (by repeat' (first | assumption | exact ⟨_, by assumption⟩ | refine jv_h1 (by decide) ?_ | refine jv_h0 ?_ | refine jv_h1 (by omega) ?_ | refine jv_hs ?_)) ?_
          refine jv_bipush dX8_readTerm_131 ?_
          refine jv_icmp_ne 148 dX8_readTerm_133 (fun c133 => ?_) (fun c133 => ?_)
          · have e2 : jq_tv sg n a = 1 := by rw [er, if_pos (by omega)]
            rw [e2] at ff
            exact ff (by omega)
          · refine jv_aload_n dX8_readTerm_136 rfl ?_
            refine jv_iload dX8_readTerm_137 rfl ?_
            refine jv_putf dX8_readTerm_139 jp_X8_123 (by repeat' (first | assumption | exact ⟨_, by assumption⟩ | refine jv_h1 (by decide) ?_ | refine jv_h0 ?_ | refine jv_h1 (by omega) ?_ | refine jv_hs ?_)) (by exact Nat.le_of_ble_eq_true rfl) ?_
            refine jv_aload_n dX8_readTerm_142 rfl ?_
            refine jv_iconst dX8_readTerm_143 ?_
            refine jv_putf dX8_readTerm_144 jp_X8_130 (by repeat' (first | assumption | exact ⟨_, by assumption⟩ | refine jv_h1 (by decide) ?_ | refine jv_h0 ?_ | refine jv_h1 (by omega) ?_ | refine jv_hs ?_)) (by exact Nat.le_of_ble_eq_true rfl) ?_ (jv_bn (by omega)) (jv_bf (by omega))
            have e2 : jq_tv sg n a = -1 := by rw [er, if_neg (by omega), if_pos (by omega)]
            have hp2 := hp2 (by omega)
            rw [if_neg (by omega), if_neg (by omega)] at hp2
            exact jv_vret dX8_readTerm_147 hq (hp2 _ _ (by repeat' (first | assumption | exact ⟨_, by assumption⟩ | refine jv_h1 (by decide) ?_ | refine jv_h0 ?_ | refine jv_h1 (by omega) ?_ | refine jv_hs ?_)) (by repeat' (first | assumption | exact ⟨_, by assumption⟩ | refine jv_h1 (by decide) ?_ | refine jv_h0 ?_ | refine jv_h1 (by omega) ?_ | refine jv_hs ?_)) (by repeat' (first | assumption | exact ⟨_, by assumption⟩ | refine jv_h1 (by decide) ?_ | refine jv_h0 ?_ | refine jv_h1 (by omega) ?_ | refine jv_hs ?_)) (by intro j z; first | rfl | exact jv_up_n _ z) (jv_fs_set (by decide) (jv_fs_set (by decide) fr)))
  have loop : ∀ (f k : Nat) (h1 : List jv_E), n ≤ jq_tb sg n a + k + f → jq_tb sg n a + k ≤ n → jq_DC sg n (jq_tb sg n a) = k + jq_dc sg n f (jq_tb sg n a + k) → jw_O h1 rr lv cu n st (jq_tb sg n a + k) 0 da ra wa → jv_fs [97] h h1 → jv_J X cX8_readTerm RX8 (K + 1) 17 [some (.ref 97), some (.int (jv_i pl)), some (.int (jv_i mi)), none, some (.int (jv_i (jq_tb sg n a))), some (.int (jv_i k)), some (.int (jv_i (jq_vl sg (jq_tb sg n a) (min k 6)))), none] [] h1 := by
    intro f
    induction f with
    | zero =>
      intro k h1 e1 e2 e3 o fr
      have ff := mid k h1 (by rw [e3, jq_dc]; omega) o fr
      unfold jw_O at o
      refine jv_aload_n dX8_readTerm_17 rfl ?_
      refine jv_getf dX8_readTerm_18 jf_X8_123 (by repeat' (first | assumption | exact ⟨_, by assumption⟩ | refine jv_h1 (by decide) ?_ | refine jv_h0 ?_ | refine jv_h1 (by omega) ?_ | refine jv_hs ?_)) (by exact rfl) ?_
      refine jv_aload_n dX8_readTerm_21 rfl ?_
      refine jv_getf dX8_readTerm_22 jf_X8_120 (by repeat' (first | assumption | exact ⟨_, by assumption⟩ | refine jv_h1 (by decide) ?_ | refine jv_h0 ?_ | refine jv_h1 (by omega) ?_ | refine jv_hs ?_)) (by exact rfl) ?_
      refine jv_icmp_ge 104 dX8_readTerm_25 (fun c25 => ?_) (fun c25 => ?_)
      · exact ff
      · exact absurd c25 (by omega)
    | succ f ih =>
      intro k h1 e1 e2 e3 o fr
      have ff := fun e => mid k h1 e o fr
      rw [jq_dc] at e3
      have x1 := jv_fs_at fr (by decide) w
      unfold jw_O at o
      have s1 := hS.2 (jq_tb sg n a + k)
      have nx := fun (z : jq_tb sg n a + k < n) h1 o fr e => ih (k + 1) h1 (by omega) (by omega) e o fr
      rw [show jq_tb sg n a + ((k + 1 : Nat) : Int) = jq_tb sg n a + k + 1 by omega] at nx
      refine jv_aload_n dX8_readTerm_17 rfl ?_
      refine jv_getf dX8_readTerm_18 jf_X8_123 (by repeat' (first | assumption | exact ⟨_, by assumption⟩ | refine jv_h1 (by decide) ?_ | refine jv_h0 ?_ | refine jv_h1 (by omega) ?_ | refine jv_hs ?_)) (by exact rfl) ?_
      refine jv_aload_n dX8_readTerm_21 rfl ?_
      refine jv_getf dX8_readTerm_22 jf_X8_120 (by repeat' (first | assumption | exact ⟨_, by assumption⟩ | refine jv_h1 (by decide) ?_ | refine jv_h0 ?_ | refine jv_h1 (by omega) ?_ | refine jv_hs ?_)) (by exact rfl) ?_
      refine jv_icmp_ge 104 dX8_readTerm_25 (fun c25 => ?_) (fun c25 => ?_)
      · exact ff (by rw [if_neg (by omega)] at e3; omega)
      · refine jv_aload_n dX8_readTerm_28 rfl ?_
        refine jv_getf dX8_readTerm_29 jf_X8_28 (by repeat' (first | assumption | exact ⟨_, by assumption⟩ | refine jv_h1 (by decide) ?_ | refine jv_h0 ?_ | refine jv_h1 (by omega) ?_ | refine jv_hs ?_)) (by exact rfl) ?_
        refine jv_aload_n dX8_readTerm_32 rfl ?_
        refine jv_getf dX8_readTerm_33 jf_X8_123 (by repeat' (first | assumption | exact ⟨_, by assumption⟩ | refine jv_h1 (by decide) ?_ | refine jv_h0 ?_ | refine jv_h1 (by omega) ?_ | refine jv_hs ?_)) (by exact rfl) ?_
        refine jv_iald dX8_readTerm_36 (by repeat' (first | assumption | exact ⟨_, by assumption⟩ | refine jv_h1 (by decide) ?_ | refine jv_h0 ?_ | refine jv_h1 (by omega) ?_ | refine jv_hs ?_)) ?_
        refine jv_bipush dX8_readTerm_37 ?_
        refine jv_icmp_lt 104 dX8_readTerm_39 (fun c39 => ?_) (fun c39 => ?_)
        · exact ff (by rw [if_neg (by omega)] at e3; omega)
        · refine jv_aload_n dX8_readTerm_42 rfl ?_
          refine jv_getf dX8_readTerm_43 jf_X8_28 (by repeat' (first | assumption | exact ⟨_, by assumption⟩ | refine jv_h1 (by decide) ?_ | refine jv_h0 ?_ | refine jv_h1 (by omega) ?_ | refine jv_hs ?_)) (by exact rfl) ?_
          refine jv_aload_n dX8_readTerm_46 rfl ?_
          refine jv_getf dX8_readTerm_47 jf_X8_123 (by repeat' (first | assumption | exact ⟨_, by assumption⟩ | refine jv_h1 (by decide) ?_ | refine jv_h0 ?_ | refine jv_h1 (by omega) ?_ | refine jv_hs ?_)) (by exact rfl) ?_
          refine jv_iald dX8_readTerm_50 (by repeat' (first | assumption | exact ⟨_, by assumption⟩ | refine jv_h1 (by decide) ?_ | refine jv_h0 ?_ | refine jv_h1 (by omega) ?_ | refine jv_hs ?_)) ?_
          refine jv_bipush dX8_readTerm_51 ?_
          refine jv_icmp_gt 104 dX8_readTerm_53 (fun c53 => ?_) (fun c53 => ?_)
          · exact ff (by rw [if_neg (by omega)] at e3; omega)
          · refine jv_iload dX8_readTerm_56 rfl ?_
            refine jv_bipush dX8_readTerm_58 ?_
            refine jv_icmp_ge 84 dX8_readTerm_60 (fun c60 => ?_) (fun c60 => ?_)
            · refine jv_iload dX8_readTerm_84 rfl ?_
              refine jv_istore dX8_readTerm_86 rfl (Nat.le_of_ble_eq_true rfl) ?_
              refine jv_iinc dX8_readTerm_88 rfl rfl ?_
              refine jv_aload_n dX8_readTerm_91 rfl ?_
              refine jv_dup dX8_readTerm_92 rfl ?_
              refine jv_getf dX8_readTerm_93 jf_X8_123 (by repeat' (first | assumption | exact ⟨_, by assumption⟩ | refine jv_h1 (by decide) ?_ | refine jv_h0 ?_ | refine jv_h1 (by omega) ?_ | refine jv_hs ?_)) (by exact rfl) ?_
              refine jv_iconst dX8_readTerm_96 ?_
              refine jv_iadd dX8_readTerm_97 ?_
              refine jv_putf dX8_readTerm_98 jp_X8_123 (by repeat' (first | assumption | exact ⟨_, by assumption⟩ | refine jv_h1 (by decide) ?_ | refine jv_h0 ?_ | refine jv_h1 (by omega) ?_ | refine jv_hs ?_)) (by exact Nat.le_of_ble_eq_true rfl) ?_
              refine jv_goto 17 dX8_readTerm_101 ?_
              rw [show min (k + 1) 6 = min k 6 by omega] at nx
              exact nx (by omega) _ (by repeat' (first | assumption | exact ⟨_, by assumption⟩ | refine jv_h1 (by decide) ?_ | refine jv_h0 ?_ | refine jv_h1 (by omega) ?_ | refine jv_hs ?_)) (jv_fs_set (by decide) fr) (by rw [if_pos (by omega)] at e3; omega)
            · refine jv_bipush dX8_readTerm_63 ?_
              refine jv_iload dX8_readTerm_65 rfl ?_
              refine jv_imul dX8_readTerm_67 ?_
              refine jv_aload_n dX8_readTerm_68 rfl ?_
              refine jv_getf dX8_readTerm_69 jf_X8_28 (by repeat' (first | assumption | exact ⟨_, by assumption⟩ | refine jv_h1 (by decide) ?_ | refine jv_h0 ?_ | refine jv_h1 (by omega) ?_ | refine jv_hs ?_)) (by exact rfl) ?_
              refine jv_aload_n dX8_readTerm_72 rfl ?_
              refine jv_getf dX8_readTerm_73 jf_X8_123 (by repeat' (first | assumption | exact ⟨_, by assumption⟩ | refine jv_h1 (by decide) ?_ | refine jv_h0 ?_ | refine jv_h1 (by omega) ?_ | refine jv_hs ?_)) (by exact rfl) ?_
              refine jv_iald dX8_readTerm_76 (by repeat' (first | assumption | exact ⟨_, by assumption⟩ | refine jv_h1 (by decide) ?_ | refine jv_h0 ?_ | refine jv_h1 (by omega) ?_ | refine jv_hs ?_)) ?_
              refine jv_iadd dX8_readTerm_77 ?_
              refine jv_bipush dX8_readTerm_78 ?_
              refine jv_isub dX8_readTerm_80 ?_
              refine jv_ti (b := 10 * jq_vl sg (jq_tb sg n a) (min k 6) + (sg (jq_tb sg n a + k) - 48)) (by omega) ?_
              refine jv_goto 86 dX8_readTerm_81 ?_
              refine jv_istore dX8_readTerm_86 rfl (Nat.le_of_ble_eq_true rfl) ?_
              refine jv_iinc dX8_readTerm_88 rfl rfl ?_
              refine jv_aload_n dX8_readTerm_91 rfl ?_
              refine jv_dup dX8_readTerm_92 rfl ?_
              refine jv_getf dX8_readTerm_93 jf_X8_123 (by repeat' (first | assumption | exact ⟨_, by assumption⟩ | refine jv_h1 (by decide) ?_ | refine jv_h0 ?_ | refine jv_h1 (by omega) ?_ | refine jv_hs ?_)) (by exact rfl) ?_
              refine jv_iconst dX8_readTerm_96 ?_
              refine jv_iadd dX8_readTerm_97 ?_
              refine jv_putf dX8_readTerm_98 jp_X8_123 (by repeat' (first | assumption | exact ⟨_, by assumption⟩ | refine jv_h1 (by decide) ?_ | refine jv_h0 ?_ | refine jv_h1 (by omega) ?_ | refine jv_hs ?_)) (by exact Nat.le_of_ble_eq_true rfl) ?_
              refine jv_goto 17 dX8_readTerm_101 ?_
              rw [show min (k + 1) 6 = k + 1 by omega, jq_vl] at nx
              rw [show min k 6 = k by omega]
              exact nx (by omega) _ (by repeat' (first | assumption | exact ⟨_, by assumption⟩ | refine jv_h1 (by decide) ?_ | refine jv_h0 ?_ | refine jv_h1 (by omega) ?_ | refine jv_hs ?_)) (jv_fs_set (by decide) fr) (by rw [if_pos (by omega)] at e3; omega)
  have o9 := o
  unfold jw_O at o
  refine jv_aload_n dX8_readTerm_0 rfl ?_
  refine jv_cV dX8_readTerm_1 jm_X8_126 rfl (by repeat' (first | assumption | exact ⟨_, by assumption⟩ | refine jv_h1 (by decide) ?_ | refine jv_h0 ?_ | refine jv_h1 (by omega) ?_ | refine jv_hs ?_)) rfl (ct_X8_look K o9 w hS ha (fun h2 o2 fr2 => ?_))
  have o3 := o2
  unfold jw_O at o2
  refine jv_istore_n dX8_readTerm_4 rfl (Nat.le_of_ble_eq_true rfl) ?_
  refine jv_aload_n dX8_readTerm_5 rfl ?_
  refine jv_getf dX8_readTerm_6 jf_X8_123 (by repeat' (first | assumption | exact ⟨_, by assumption⟩ | refine jv_h1 (by decide) ?_ | refine jv_h0 ?_ | refine jv_h1 (by omega) ?_ | refine jv_hs ?_)) (by exact rfl) ?_
  refine jv_istore dX8_readTerm_9 rfl (Nat.le_of_ble_eq_true rfl) ?_
  refine jv_iconst dX8_readTerm_11 ?_
  refine jv_istore dX8_readTerm_12 rfl (Nat.le_of_ble_eq_true rfl) ?_
  refine jv_iconst dX8_readTerm_14 ?_
  refine jv_istore dX8_readTerm_15 rfl (Nat.le_of_ble_eq_true rfl) ?_
  exact jv_les (by repeat' (first | exact True.intro | exact rfl | apply And.intro)) (loop 300 0 h2 (by omega) (by omega) (by rw [show jq_tb sg n a + ((0 : Nat) : Int) = jq_tb sg n a by simp]; simp; rfl) (by rw [show jq_tb sg n a + ((0 : Nat) : Int) = jq_sK sg n a by simp; rfl]; exact o3) fr2)
end MT
