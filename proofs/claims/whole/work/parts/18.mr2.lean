/-! the reference's rain and outflow -/
section MR2
variable {h : List jv_E} {n : Nat} {lv cu si st at_ wr da ra wa : Int} {ys ms ds : Int → Int} {post : Option Value → List jv_E → Prop}
theorem ct_X8_rain {y mi de : Int} (K : Nat) (o : jw_O h n lv cu si st at_ wr da ra wa) (w : jw_MR h ys ms ds) (hR : jq_R n ys ms ds) (hy : jq_rg y) (hm : jq_rg mi) (hd : jq_rg de) (hp1 : jq_okR n ys ms ds y mi de → ∀ h', jw_O h' (n + 1) lv cu si st at_ wr da ra wa → jw_MR h' (jv_up ys n y) (jv_up ms n mi) (jv_up ds n de) → jv_fs [97, 98, 99, 100] h h' → post (some (.int (jv_i (jq_cnt ys y n + 1)))) h') (hp2 : ¬ jq_okR n ys ms ds y mi de → post (some (.int (jv_i (-1)))) h) : jv_Ct yX8_rain cX8_rain 7 (some .int) (K + 1) [.ref 97, .int (jv_i y), .int (jv_i mi), .int (jv_i de)] h post := by
  unfold jw_O at o
  obtain ⟨w1, w2, w3⟩ := w
  have hn := hR.1
  unfold jq_rg at hy hm hd
  unfold jq_okR jq_ok at hp1 hp2
  refine jv_entry (own := RX8) (by decide) rfl (Nat.le_of_ble_eq_true rfl) (fun X hq => ?_)
  have fin : n < 40 → (1 ≤ y ∧ y ≤ 1000) → (1 ≤ mi ∧ mi ≤ 10000) → (1 ≤ de ∧ de ≤ 100000) → jv_J X cX8_rain RX8 (K + 1) 89 [some (.ref 97), some (.int (jv_i y)), some (.int (jv_i mi)), some (.int (jv_i de)), some (.int (jv_i (jq_cnt ys y n))), some (.int (jv_i (jq_lst ys y n))), some (.int (jv_i n))] [] h := by
    intro hn4 g1 g2 g3
    have r1 := jq_lst_in ys y n
    have r2 := jq_cnt_in ys y n
    generalize jq_lst ys y n = la at *
    generalize jq_cnt ys y n = ct at *
    have tail : (la = -1 ∨ (ms la < mi ∧ ds la < de ∧ de * ms la ≤ ds la * mi)) → jv_J X cX8_rain RX8 (K + 1) 144 [some (.ref 97), some (.int (jv_i y)), some (.int (jv_i mi)), some (.int (jv_i de)), some (.int (jv_i ct)), some (.int (jv_i la)), some (.int (jv_i n))] [] h := by
      intro hok
      refine jv_aload_n dX8_rain_144 rfl ?_
      refine jv_getf dX8_rain_145 jf_X8_7 (by repeat' (first | assumption | exact ⟨_, by assumption⟩ | refine jv_h1 (by omega) ?_ | refine jv_h0 ?_ | refine jv_hs ?_)) (by exact rfl) ?_
      refine jv_aload_n dX8_rain_148 rfl ?_
      refine jv_getf dX8_rain_149 jf_X8_72 (by repeat' (first | assumption | exact ⟨_, by assumption⟩ | refine jv_h1 (by omega) ?_ | refine jv_h0 ?_ | refine jv_hs ?_)) (by exact rfl) ?_
      refine jv_iload_n dX8_rain_152 rfl ?_
      refine jv_iast dX8_rain_153 (by repeat' (first | assumption | exact ⟨_, by assumption⟩ | refine jv_h1 (by omega) ?_ | refine jv_h0 ?_ | refine jv_hs ?_)) ?_
      refine jv_aload_n dX8_rain_154 rfl ?_
      refine jv_getf dX8_rain_155 jf_X8_13 (by repeat' (first | assumption | exact ⟨_, by assumption⟩ | refine jv_h1 (by omega) ?_ | refine jv_h0 ?_ | refine jv_hs ?_)) (by exact rfl) ?_
      refine jv_aload_n dX8_rain_158 rfl ?_
      refine jv_getf dX8_rain_159 jf_X8_72 (by repeat' (first | assumption | exact ⟨_, by assumption⟩ | refine jv_h1 (by omega) ?_ | refine jv_h0 ?_ | refine jv_hs ?_)) (by exact rfl) ?_
      refine jv_iload_n dX8_rain_162 rfl ?_
      refine jv_iast dX8_rain_163 (by repeat' (first | assumption | exact ⟨_, by assumption⟩ | refine jv_h1 (by omega) ?_ | refine jv_h0 ?_ | refine jv_hs ?_)) ?_
      refine jv_aload_n dX8_rain_164 rfl ?_
      refine jv_getf dX8_rain_165 jf_X8_16 (by repeat' (first | assumption | exact ⟨_, by assumption⟩ | refine jv_h1 (by omega) ?_ | refine jv_h0 ?_ | refine jv_hs ?_)) (by exact rfl) ?_
      refine jv_aload_n dX8_rain_168 rfl ?_
      refine jv_getf dX8_rain_169 jf_X8_72 (by repeat' (first | assumption | exact ⟨_, by assumption⟩ | refine jv_h1 (by omega) ?_ | refine jv_h0 ?_ | refine jv_hs ?_)) (by exact rfl) ?_
      refine jv_iload_n dX8_rain_172 rfl ?_
      refine jv_iast dX8_rain_173 (by repeat' (first | assumption | exact ⟨_, by assumption⟩ | refine jv_h1 (by omega) ?_ | refine jv_h0 ?_ | refine jv_hs ?_)) ?_
      refine jv_aload_n dX8_rain_174 rfl ?_
      refine jv_dup dX8_rain_175 rfl ?_
      refine jv_getf dX8_rain_176 jf_X8_72 (by repeat' (first | assumption | exact ⟨_, by assumption⟩ | refine jv_h1 (by omega) ?_ | refine jv_h0 ?_ | refine jv_hs ?_)) (by exact rfl) ?_
      refine jv_iconst dX8_rain_179 ?_
      refine jv_iadd dX8_rain_180 ?_
      refine jv_putf dX8_rain_181 jp_X8_72 (by repeat' (first | assumption | exact ⟨_, by assumption⟩ | refine jv_h1 (by omega) ?_ | refine jv_h0 ?_ | refine jv_hs ?_)) (by exact Nat.le_of_ble_eq_true rfl) ?_
      refine jv_iload dX8_rain_184 rfl ?_
      refine jv_iconst dX8_rain_186 ?_
      refine jv_iadd dX8_rain_187 ?_
      exact jv_iret dX8_rain_188 hq (hp1 ⟨g1, g2, g3, hn4, hok⟩ _ (by repeat' (first | assumption | exact ⟨_, by assumption⟩ | refine jv_h1 (by omega) ?_ | refine jv_h0 ?_ | refine jv_hs ?_)) ⟨(by repeat' (first | assumption | exact ⟨_, by assumption⟩ | refine jv_h1 (by omega) ?_ | refine jv_h0 ?_ | refine jv_hs ?_)), (by repeat' (first | assumption | exact ⟨_, by assumption⟩ | refine jv_h1 (by omega) ?_ | refine jv_h0 ?_ | refine jv_hs ?_)), (by repeat' (first | assumption | exact ⟨_, by assumption⟩ | refine jv_h1 (by omega) ?_ | refine jv_h0 ?_ | refine jv_hs ?_))⟩ (jv_fs_set (by decide) (jv_fs_set (by decide) (jv_fs_set (by decide) (jv_fs_set (by decide) jv_fs_rf))))) (by first | rfl | decide)
    have s1 := (hR.2 la).2.1
    have s2 := (hR.2 la).2.2
    have m1 := jq_mul (a := de) (b := ms la) (A := 100000) (B := 10000) (by omega) s1
    have m2 := jq_mul (a := ds la) (b := mi) (A := 100000) (B := 10000) s2 (by omega)
    generalize e1 : de * ms la = u1 at *
    generalize e2 : ds la * mi = u2 at *
    refine jv_iload dX8_rain_89 rfl ?_
    refine jv_if_lt 144 dX8_rain_91 (fun c91 => ?_) (fun c91 => ?_)
    · exact tail (by omega)
    · refine jv_iload_n dX8_rain_94 rfl ?_
      refine jv_aload_n dX8_rain_95 rfl ?_
      refine jv_getf dX8_rain_96 jf_X8_13 (by repeat' (first | assumption | exact ⟨_, by assumption⟩ | refine jv_h1 (by omega) ?_ | refine jv_h0 ?_ | refine jv_hs ?_)) (by exact rfl) ?_
      refine jv_iload dX8_rain_99 rfl ?_
      refine jv_iald dX8_rain_101 (by repeat' (first | assumption | exact ⟨_, by assumption⟩ | refine jv_h1 (by omega) ?_ | refine jv_h0 ?_ | refine jv_hs ?_)) ?_
      refine jv_icmp_le 142 dX8_rain_102 (fun c102 => ?_) (fun c102 => ?_)
      · refine jv_iconst dX8_rain_142 ?_
        exact jv_iret dX8_rain_143 hq (hp2 (fun z => by have := z.2.2.2.2; omega))
      · refine jv_iload_n dX8_rain_105 rfl ?_
        refine jv_aload_n dX8_rain_106 rfl ?_
        refine jv_getf dX8_rain_107 jf_X8_16 (by repeat' (first | assumption | exact ⟨_, by assumption⟩ | refine jv_h1 (by omega) ?_ | refine jv_h0 ?_ | refine jv_hs ?_)) (by exact rfl) ?_
        refine jv_iload dX8_rain_110 rfl ?_
        refine jv_iald dX8_rain_112 (by repeat' (first | assumption | exact ⟨_, by assumption⟩ | refine jv_h1 (by omega) ?_ | refine jv_h0 ?_ | refine jv_hs ?_)) ?_
        refine jv_icmp_le 142 dX8_rain_113 (fun c113 => ?_) (fun c113 => ?_)
        · refine jv_iconst dX8_rain_142 ?_
          exact jv_iret dX8_rain_143 hq (hp2 (fun z => by have := z.2.2.2.2; omega))
        · refine jv_iload_n dX8_rain_116 rfl ?_
          refine jv_i2l dX8_rain_117 ?_
          refine jv_aload_n dX8_rain_118 rfl ?_
          refine jv_getf dX8_rain_119 jf_X8_13 (by repeat' (first | assumption | exact ⟨_, by assumption⟩ | refine jv_h1 (by omega) ?_ | refine jv_h0 ?_ | refine jv_hs ?_)) (by exact rfl) ?_
          refine jv_iload dX8_rain_122 rfl ?_
          refine jv_iald dX8_rain_124 (by repeat' (first | assumption | exact ⟨_, by assumption⟩ | refine jv_h1 (by omega) ?_ | refine jv_h0 ?_ | refine jv_hs ?_)) ?_
          refine jv_i2l dX8_rain_125 ?_
          refine jv_lmul dX8_rain_126 ?_
          refine jv_aload_n dX8_rain_127 rfl ?_
          refine jv_getf dX8_rain_128 jf_X8_16 (by repeat' (first | assumption | exact ⟨_, by assumption⟩ | refine jv_h1 (by omega) ?_ | refine jv_h0 ?_ | refine jv_hs ?_)) (by exact rfl) ?_
          refine jv_iload dX8_rain_131 rfl ?_
          refine jv_iald dX8_rain_133 (by repeat' (first | assumption | exact ⟨_, by assumption⟩ | refine jv_h1 (by omega) ?_ | refine jv_h0 ?_ | refine jv_hs ?_)) ?_
          refine jv_i2l dX8_rain_134 ?_
          refine jv_iload_n dX8_rain_135 rfl ?_
          refine jv_i2l dX8_rain_136 ?_
          refine jv_lmul dX8_rain_137 ?_
          rw [e1, e2]
          refine jv_lcmp_le 144 dX8_rain_138 dX8_rain_139 (fun c138 => ?_) (fun c138 => ?_)
          · exact tail (by omega)
          · refine jv_iconst dX8_rain_142 ?_
            exact jv_iret dX8_rain_143 hq (hp2 (fun z => by have := z.2.2.2.2; omega))
  have step : ∀ (i : Nat) (a b : Int), n < 40 → (1 ≤ y ∧ y ≤ 1000) → i ≤ n → (0 ≤ a ∧ a ≤ i) → (-1 ≤ b ∧ b < i) → (i = n → jv_J X cX8_rain RX8 (K + 1) 89 [some (.ref 97), some (.int (jv_i y)), some (.int (jv_i mi)), some (.int (jv_i de)), some (.int (jv_i a)), some (.int (jv_i b)), some (.int (jv_i i))] [] h) → (∀ a' b', i < n → a' = (if ys i = y then a + 1 else a) → b' = (if ys i = y then (i : Int) else b) → jv_J X cX8_rain RX8 (K + 1) 56 [some (.ref 97), some (.int (jv_i y)), some (.int (jv_i mi)), some (.int (jv_i de)), some (.int (jv_i a')), some (.int (jv_i b')), some (.int (jv_i (i + 1)))] [] h) → jv_J X cX8_rain RX8 (K + 1) 56 [some (.ref 97), some (.int (jv_i y)), some (.int (jv_i mi)), some (.int (jv_i de)), some (.int (jv_i a)), some (.int (jv_i b)), some (.int (jv_i i))] [] h := by
    intro i a b hn4 g1 hi ha hb p1 p2
    have r1 := (hR.2 i).1
    refine jv_iload dX8_rain_56 rfl ?_
    refine jv_aload_n dX8_rain_58 rfl ?_
    refine jv_getf dX8_rain_59 jf_X8_72 (by repeat' (first | assumption | exact ⟨_, by assumption⟩ | refine jv_h1 (by omega) ?_ | refine jv_h0 ?_ | refine jv_hs ?_)) (by exact rfl) ?_
    refine jv_icmp_ge 89 dX8_rain_62 (fun c62 => ?_) (fun c62 => ?_)
    · exact p1 (by omega)
    · refine jv_aload_n dX8_rain_65 rfl ?_
      refine jv_getf dX8_rain_66 jf_X8_7 (by repeat' (first | assumption | exact ⟨_, by assumption⟩ | refine jv_h1 (by omega) ?_ | refine jv_h0 ?_ | refine jv_hs ?_)) (by exact rfl) ?_
      refine jv_iload dX8_rain_69 rfl ?_
      refine jv_iald dX8_rain_71 (by repeat' (first | assumption | exact ⟨_, by assumption⟩ | refine jv_h1 (by omega) ?_ | refine jv_h0 ?_ | refine jv_hs ?_)) ?_
      refine jv_iload_n dX8_rain_72 rfl ?_
      refine jv_icmp_ne 83 dX8_rain_73 (fun c73 => ?_) (fun c73 => ?_)
      · refine jv_iinc dX8_rain_83 rfl rfl ?_
        refine jv_goto 56 dX8_rain_86 ?_
        exact p2 _ _ (by omega) (by rw [if_neg c73]) (by rw [if_neg c73])
      · refine jv_iinc dX8_rain_76 rfl rfl ?_
        refine jv_iload dX8_rain_79 rfl ?_
        refine jv_istore dX8_rain_81 rfl (Nat.le_of_ble_eq_true rfl) ?_
        refine jv_iinc dX8_rain_83 rfl rfl ?_
        refine jv_goto 56 dX8_rain_86 ?_
        exact p2 _ _ (by omega) (by rw [if_pos c73]) (by rw [if_pos c73])
  have loop : ∀ (k i : Nat) (a b : Int), n < 40 → (1 ≤ y ∧ y ≤ 1000) → (1 ≤ mi ∧ mi ≤ 10000) → (1 ≤ de ∧ de ≤ 100000) → i + k = n → a = jq_cnt ys y i → b = jq_lst ys y i → jv_J X cX8_rain RX8 (K + 1) 56 [some (.ref 97), some (.int (jv_i y)), some (.int (jv_i mi)), some (.int (jv_i de)), some (.int (jv_i a)), some (.int (jv_i b)), some (.int (jv_i i))] [] h := by
    intro k
    induction k with
    | zero =>
      intro i a b hn4 g1 g2 g3 e ea eb
      have r1 := jq_lst_in ys y i
      have r2 := jq_cnt_in ys y i
      refine step i a b hn4 g1 (by omega) (by omega) (by omega) (fun q => ?_) (fun a' b' q => by omega)
      rw [ea, eb, q]
      exact fin hn4 g1 g2 g3
    | succ k ih =>
      intro i a b hn4 g1 g2 g3 e ea eb
      have r1 := jq_lst_in ys y i
      have r2 := jq_cnt_in ys y i
      refine step i a b hn4 g1 (by omega) (by omega) (by omega) (fun q => by omega) (fun a' b' q e1 e2 => ?_)
      exact ih (i + 1) a' b' hn4 g1 g2 g3 (by omega) (by rw [e1, jq_cnt, ← ea]) (by rw [e2, jq_lst, ← eb])
  refine jv_iload_n dX8_rain_0 rfl ?_
  refine jv_i2l dX8_rain_1 ?_
  refine jv_lconst 1 dX8_rain_2 ?_
  refine jv_ldc2 dX8_rain_3 jk_X8_62 ?_
  refine jv_cS dX8_rain_6 jm_X8_64 (ct_X8_in K (fun r1 q11 q12 q13 => ?_))
  refine jv_if_eq 45 dX8_rain_9 (fun c9 => ?_) (fun c9 => ?_)
  · refine jv_iconst dX8_rain_45 ?_
    exact jv_iret dX8_rain_46 hq (hp2 (fun z => by have z1 := z.1; have z2 := z.2.1; have z3 := z.2.2.1; have z4 := z.2.2.2.1; omega))
  · refine jv_iload_n dX8_rain_12 rfl ?_
    refine jv_i2l dX8_rain_13 ?_
    refine jv_lconst 1 dX8_rain_14 ?_
    refine jv_ldc2 dX8_rain_15 jk_X8_68 ?_
    refine jv_cS dX8_rain_18 jm_X8_64 (ct_X8_in K (fun r2 q21 q22 q23 => ?_))
    refine jv_if_eq 45 dX8_rain_21 (fun c21 => ?_) (fun c21 => ?_)
    · refine jv_iconst dX8_rain_45 ?_
      exact jv_iret dX8_rain_46 hq (hp2 (fun z => by have z1 := z.1; have z2 := z.2.1; have z3 := z.2.2.1; have z4 := z.2.2.2.1; omega))
    · refine jv_iload_n dX8_rain_24 rfl ?_
      refine jv_i2l dX8_rain_25 ?_
      refine jv_lconst 1 dX8_rain_26 ?_
      refine jv_ldc2 dX8_rain_27 jk_X8_70 ?_
      refine jv_cS dX8_rain_30 jm_X8_64 (ct_X8_in K (fun r3 q31 q32 q33 => ?_))
      refine jv_if_eq 45 dX8_rain_33 (fun c33 => ?_) (fun c33 => ?_)
      · refine jv_iconst dX8_rain_45 ?_
        exact jv_iret dX8_rain_46 hq (hp2 (fun z => by have z1 := z.1; have z2 := z.2.1; have z3 := z.2.2.1; have z4 := z.2.2.2.1; omega))
      · refine jv_aload_n dX8_rain_36 rfl ?_
        refine jv_getf dX8_rain_37 jf_X8_72 (by repeat' (first | assumption | exact ⟨_, by assumption⟩ | refine jv_h1 (by omega) ?_ | refine jv_h0 ?_ | refine jv_hs ?_)) (by exact rfl) ?_
        refine jv_bipush dX8_rain_40 ?_
        refine jv_icmp_ne 47 dX8_rain_42 (fun c42 => ?_) (fun c42 => ?_)
        · refine jv_iconst dX8_rain_47 ?_
          refine jv_istore dX8_rain_48 rfl (Nat.le_of_ble_eq_true rfl) ?_
          refine jv_iconst dX8_rain_50 ?_
          refine jv_istore dX8_rain_51 rfl (Nat.le_of_ble_eq_true rfl) ?_
          refine jv_iconst dX8_rain_53 ?_
          refine jv_istore dX8_rain_54 rfl (Nat.le_of_ble_eq_true rfl) ?_
          exact loop n 0 0 (-1) (by omega) (by omega) (by omega) (by omega) (by omega) rfl rfl
        · refine jv_iconst dX8_rain_45 ?_
          exact jv_iret dX8_rain_46 hq (hp2 (fun z => by have z1 := z.1; have z2 := z.2.1; have z3 := z.2.2.1; have z4 := z.2.2.2.1; omega))
theorem ct_X8_outflow {y ar ro : Int} (K : Nat) (o : jw_O h n lv cu si st at_ wr da ra wa) (w : jw_MR h ys ms ds) (hR : jq_R n ys ms ds) (hpos : ∀ i : Int, 0 ≤ i → i < n → 1 ≤ ms i) (hy : jq_rg y) (ha : jq_rg ar) (hr : -9223372036854775808 ≤ ro ∧ ro ≤ 9223372036854775807) (hp : post (some (.int (jv_i (jq_out n ys ms ds y ar ro)))) h) : jv_Ct yX8_outflow cX8_outflow 14 (some .int) (K + 2) [.ref 97, .int (jv_i y), .int (jv_i ar), .long (jv_l ro)] h post := by
  have o9 := o
  have w9 := w
  unfold jw_O at o
  obtain ⟨w1, w2, w3⟩ := w
  have hn := hR.1
  have e0 : ∀ i, jq_nd ms ds ar 0 i = jq_cm ds ar i := fun i => by simp [jq_nd]
  have r9 := jq_wst_in (n := n) (ys := ys) (ms := ms) (ds := ds) (y := y) (ar := ar) (ou := 0)
  have bad : jq_wst n ys ms ds y ar 0 = -1 ∨ ¬ (0 ≤ ro ∧ ro ≤ 1125899906842624) → jq_out n ys ms ds y ar ro = -1 := by
    intro q
    unfold jq_out
    rw [if_neg]
    rintro ⟨q1, q2, q3⟩
    rcases q with q | q
    · rw [jq_wst, if_pos ⟨q1, by omega⟩] at q
      have := (jq_lo_eq (jq_lf_in hR q1 q2.1) n).1 q
      omega
    · exact q q2
  have good : (0 ≤ ar ∧ ar ≤ 1000000) → jq_wst n ys ms ds y ar 0 ≠ -1 → (0 ≤ ro ∧ ro ≤ 1125899906842624) → jq_out n ys ms ds y ar ro = (if jq_lo0 ys (jq_lf ms ds ar ro) y n ≤ 100000 then jq_lo0 ys (jq_lf ms ds ar ro) y n else -1) := by
    intro q1 q2 q3
    rw [jq_wst, if_pos ⟨q1, by omega⟩] at q2
    have z1 := (jq_lo_eq (jq_lf_in hR q1 q3.1) n).2 q2
    have z2 := jq_lo0_in (ys := ys) (y := y) (jq_lf_in hR q1 q3.1) n
    unfold jq_out
    rw [z1]
    by_cases q4 : jq_lo0 ys (jq_lf ms ds ar ro) y n ≤ 100000
    · rw [if_pos ⟨q1, q3, z2.1, q4⟩, if_pos q4]
    · rw [if_neg (fun z => q4 z.2.2.2), if_neg q4]
  unfold jq_rg at hy ha
  refine jv_entry (own := RX8) (by decide) rfl (Nat.le_of_ble_eq_true rfl) (fun X hq => ?_)
  have step : ∀ (i : Nat) (b : Int), (0 ≤ ar ∧ ar ≤ 1000000) → (0 ≤ ro ∧ ro ≤ 1125899906842624) → i ≤ n → (0 ≤ b ∧ b ≤ 20000000000) → (i = n → post (some (.int (jv_i (if b ≤ 100000 then b else -1)))) h) → (∀ b', i < n → b' = (if ys i = y then max b (jq_lf ms ds ar ro i) else b) → jv_J X cX8_outflow RX8 (K + 2) 30 [some (.ref 97), some (.int (jv_i y)), some (.int (jv_i ar)), some (.long (jv_l ro)), none, some (.long (jv_l b')), none, some (.int (jv_i (i + 1))), none, none, none, none, none, none] [] h) → jv_J X cX8_outflow RX8 (K + 2) 30 [some (.ref 97), some (.int (jv_i y)), some (.int (jv_i ar)), some (.long (jv_l ro)), none, some (.long (jv_l b)), none, some (.int (jv_i i)), none, none, none, none, none, none] [] h := by
    intro i b ha hr hi hb p1 p2
    have r1 := (hR.2 i).1
    have r2 := jq_cm_in hR ha i
    have r3 := jq_lf_in hR ha hr.1 i
    have r4 := (hR.2 i).2.1
    refine jv_iload dX8_outflow_30 rfl ?_
    refine jv_aload_n dX8_outflow_32 rfl ?_
    refine jv_getf dX8_outflow_33 jf_X8_72 (by repeat' (first | assumption | exact ⟨_, by assumption⟩ | refine jv_h1 (by omega) ?_ | refine jv_h0 ?_ | refine jv_hs ?_)) (by exact rfl) ?_
    refine jv_icmp_ge 122 dX8_outflow_36 (fun c36 => ?_) (fun c36 => ?_)
    · refine jv_lload dX8_outflow_122 rfl ?_
      refine jv_ldc2 dX8_outflow_124 jk_X8_70 ?_
      refine jv_lcmp_le 135 dX8_outflow_127 dX8_outflow_128 (fun c127 => ?_) (fun c127 => ?_)
      · refine jv_lload dX8_outflow_135 rfl ?_
        refine jv_l2i dX8_outflow_137 ?_
        exact jv_iret dX8_outflow_138 hq (by have := p1 (by omega); rw [if_pos c127] at this; exact this)
      · refine jv_iconst dX8_outflow_131 ?_
        refine jv_goto 138 dX8_outflow_132 ?_
        exact jv_iret dX8_outflow_138 hq (by have := p1 (by omega); rw [if_neg (by omega)] at this; exact this)
    · have r5 := hpos i (by omega) (by omega)
      unfold jq_lf at p2 r3
      refine jv_aload_n dX8_outflow_39 rfl ?_
      refine jv_getf dX8_outflow_40 jf_X8_7 (by repeat' (first | assumption | exact ⟨_, by assumption⟩ | refine jv_h1 (by omega) ?_ | refine jv_h0 ?_ | refine jv_hs ?_)) (by exact rfl) ?_
      refine jv_iload dX8_outflow_43 rfl ?_
      refine jv_iald dX8_outflow_45 (by repeat' (first | assumption | exact ⟨_, by assumption⟩ | refine jv_h1 (by omega) ?_ | refine jv_h0 ?_ | refine jv_hs ?_)) ?_
      refine jv_iload_n dX8_outflow_46 rfl ?_
      refine jv_icmp_ne 116 dX8_outflow_47 (fun c47 => ?_) (fun c47 => ?_)
      · refine jv_iinc dX8_outflow_116 rfl rfl ?_
        refine jv_goto 30 dX8_outflow_119 ?_
        exact p2 _ (by omega) (by rw [if_neg c47])
      · refine jv_aload_n dX8_outflow_50 rfl ?_
        refine jv_iload dX8_outflow_51 rfl ?_
        refine jv_iload_n dX8_outflow_53 rfl ?_
        refine jv_iconst dX8_outflow_54 ?_
        refine jv_cV dX8_outflow_55 jm_X8_78 rfl (by repeat' (first | assumption | exact ⟨_, by assumption⟩ | refine jv_h1 (by omega) ?_ | refine jv_h0 ?_ | refine jv_hs ?_)) rfl (ct_X8_need (i := i) (K + 1) o9 w9 hR (by omega) ha (by omega) ?_)
        rw [e0]
        refine jv_lload_n dX8_outflow_58 rfl ?_
        refine jv_lsub dX8_outflow_59 ?_
        refine jv_lstore dX8_outflow_60 rfl (Nat.le_of_ble_eq_true rfl) ?_
        refine jv_ldc2 dX8_outflow_62 jk_X8_84 ?_
        refine jv_aload_n dX8_outflow_65 rfl ?_
        refine jv_getf dX8_outflow_66 jf_X8_13 (by repeat' (first | assumption | exact ⟨_, by assumption⟩ | refine jv_h1 (by omega) ?_ | refine jv_h0 ?_ | refine jv_hs ?_)) (by exact rfl) ?_
        refine jv_iload dX8_outflow_69 rfl ?_
        refine jv_iald dX8_outflow_71 (by repeat' (first | assumption | exact ⟨_, by assumption⟩ | refine jv_h1 (by omega) ?_ | refine jv_h0 ?_ | refine jv_hs ?_)) ?_
        refine jv_i2l dX8_outflow_72 ?_
        refine jv_lmul dX8_outflow_73 ?_
        refine jv_lstore dX8_outflow_74 rfl (Nat.le_of_ble_eq_true rfl) ?_
        refine jv_lload dX8_outflow_76 rfl ?_
        refine jv_lconst 0 dX8_outflow_78 ?_
        refine jv_lcmp_gt 87 dX8_outflow_79 dX8_outflow_80 (fun c79 => ?_) (fun c79 => ?_)
        · refine jv_lload dX8_outflow_87 rfl ?_
          refine jv_lload dX8_outflow_89 rfl ?_
          refine jv_ladd dX8_outflow_91 ?_
          refine jv_lconst 1 dX8_outflow_92 ?_
          refine jv_lsub dX8_outflow_93 ?_
          refine jv_lload dX8_outflow_94 rfl ?_
          refine jv_ldiv dX8_outflow_96 ?_
          refine jv_lstore dX8_outflow_97 rfl (Nat.le_of_ble_eq_true rfl) ?_
          rw [if_pos c47] at p2
          rw [if_neg (by omega)] at p2 r3
          generalize (jq_cm ds ar i - ro + 60 * ms i - 1) / (60 * ms i) = fl at *
          refine jv_lload dX8_outflow_99 rfl ?_
          refine jv_lload dX8_outflow_101 rfl ?_
          refine jv_lcmp_le 112 dX8_outflow_103 dX8_outflow_104 (fun c103 => ?_) (fun c103 => ?_)
          · refine jv_lload dX8_outflow_112 rfl ?_
            refine jv_lstore dX8_outflow_114 rfl (Nat.le_of_ble_eq_true rfl) ?_
            refine jv_iinc dX8_outflow_116 rfl rfl ?_
            refine jv_goto 30 dX8_outflow_119 ?_
            exact jv_les (by repeat' (first | exact True.intro | exact rfl | apply And.intro)) (p2 _ (by omega) (by omega))
          · refine jv_lload dX8_outflow_107 rfl ?_
            refine jv_goto 114 dX8_outflow_109 ?_
            refine jv_lstore dX8_outflow_114 rfl (Nat.le_of_ble_eq_true rfl) ?_
            refine jv_iinc dX8_outflow_116 rfl rfl ?_
            refine jv_goto 30 dX8_outflow_119 ?_
            exact jv_les (by repeat' (first | exact True.intro | exact rfl | apply And.intro)) (p2 _ (by omega) (by omega))
        · refine jv_lconst 0 dX8_outflow_83 ?_
          refine jv_goto 97 dX8_outflow_84 ?_
          refine jv_lstore dX8_outflow_97 rfl (Nat.le_of_ble_eq_true rfl) ?_
          rw [if_pos c47] at p2
          rw [if_pos (by omega)] at p2 r3
          refine jv_lload dX8_outflow_99 rfl ?_
          refine jv_lload dX8_outflow_101 rfl ?_
          refine jv_lcmp_le 112 dX8_outflow_103 dX8_outflow_104 (fun c103 => ?_) (fun c103 => ?_)
          · refine jv_lload dX8_outflow_112 rfl ?_
            refine jv_lstore dX8_outflow_114 rfl (Nat.le_of_ble_eq_true rfl) ?_
            refine jv_iinc dX8_outflow_116 rfl rfl ?_
            refine jv_goto 30 dX8_outflow_119 ?_
            exact jv_les (by repeat' (first | exact True.intro | exact rfl | apply And.intro)) (p2 _ (by omega) (by omega))
          · refine jv_lload dX8_outflow_107 rfl ?_
            refine jv_goto 114 dX8_outflow_109 ?_
            refine jv_lstore dX8_outflow_114 rfl (Nat.le_of_ble_eq_true rfl) ?_
            refine jv_iinc dX8_outflow_116 rfl rfl ?_
            refine jv_goto 30 dX8_outflow_119 ?_
            exact absurd c103 (by omega)
  have loop : ∀ (k i : Nat) (b : Int), (0 ≤ ar ∧ ar ≤ 1000000) → (0 ≤ ro ∧ ro ≤ 1125899906842624) → jq_wst n ys ms ds y ar 0 ≠ -1 → i + k = n → b = jq_lo0 ys (jq_lf ms ds ar ro) y i → jv_J X cX8_outflow RX8 (K + 2) 30 [some (.ref 97), some (.int (jv_i y)), some (.int (jv_i ar)), some (.long (jv_l ro)), none, some (.long (jv_l b)), none, some (.int (jv_i i)), none, none, none, none, none, none] [] h := by
    intro k
    induction k with
    | zero =>
      intro i b ha hr hw e eb
      have := jq_lo0_in (ys := ys) (y := y) (jq_lf_in hR ha hr.1) i
      refine step i b ha hr (by omega) (by omega) (fun q => ?_) (fun b' q => by omega)
      rw [eb, q, ← good ha hw hr]
      exact hp
    | succ k ih =>
      intro i b ha hr hw e eb
      have := jq_lo0_in (ys := ys) (y := y) (jq_lf_in hR ha hr.1) i
      refine step i b ha hr (by omega) (by omega) (fun q => by omega) (fun b' q e' => ?_)
      exact ih (i + 1) b' ha hr hw (by omega) (by rw [e', jq_lo0, ← eb])
  refine jv_aload_n dX8_outflow_0 rfl ?_
  refine jv_iload_n dX8_outflow_1 rfl ?_
  refine jv_iload_n dX8_outflow_2 rfl ?_
  refine jv_iconst dX8_outflow_3 ?_
  refine jv_cV dX8_outflow_4 jm_X8_86 rfl (by repeat' (first | assumption | exact ⟨_, by assumption⟩ | refine jv_h1 (by omega) ?_ | refine jv_h0 ?_ | refine jv_hs ?_)) rfl (ct_X8_worst K o9 w9 hR hy ha (by unfold jq_rg; omega) ?_)
  refine jv_iconst dX8_outflow_7 ?_
  refine jv_icmp_eq 22 dX8_outflow_8 (fun c8 => ?_) (fun c8 => ?_)
  · refine jv_iconst dX8_outflow_22 ?_
    exact jv_iret dX8_outflow_23 hq (by rw [bad (by omega)] at hp; exact hp)
  · refine jv_lload_n dX8_outflow_11 rfl ?_
    refine jv_lconst 0 dX8_outflow_12 ?_
    refine jv_ldc2 dX8_outflow_13 jk_X8_92 ?_
    refine jv_cS dX8_outflow_16 jm_X8_64 (ct_X8_in K (fun r1 q11 q12 q13 => ?_))
    refine jv_if_ne 24 dX8_outflow_19 (fun c19 => ?_) (fun c19 => ?_)
    · refine jv_lconst 0 dX8_outflow_24 ?_
      refine jv_lstore dX8_outflow_25 rfl (Nat.le_of_ble_eq_true rfl) ?_
      refine jv_iconst dX8_outflow_27 ?_
      refine jv_istore dX8_outflow_28 rfl (Nat.le_of_ble_eq_true rfl) ?_
      exact loop n 0 0 (by omega) (by omega) c8 (by omega) rfl
    · refine jv_iconst dX8_outflow_22 ?_
      exact jv_iret dX8_outflow_23 hq (by rw [bad (by omega)] at hp; exact hp)
end MR2
