/-! what a good reading is made of -/
def jq_gq (q : Int × Int) : Prop := (q.1 = 0 ∨ 0 ≤ jq_lc q.1) ∧ -99999 ≤ q.2 ∧ q.2 ≤ 99999
def jq_gT (T : (Int × List (Int × Int) × List (Int × Int))) : Prop := (T.1 = 60 ∨ T.1 = 62 ∨ T.1 = 61) ∧ (T.2.1.length ≤ 4 ∧ T.2.2.length ≤ 4) ∧ (∀ q ∈ T.2.1, jq_gq q) ∧ ∀ q ∈ T.2.2, jq_gq q
theorem jq_su_g {sg : Int → Int} {n : Int} (hS : jq_S n sg) : ∀ (f : Nat) (a s : Int), (s = 1 ∨ s = -1) → 0 ≤ a ∧ a ≤ n → ∀ q ∈ (jq_su sg n f a s).2.2, jq_gq q
  | 0, a, s, hs, ha => fun q z => by simp [jq_su] at z
  | f + 1, a, s, hs, ha => by
    obtain ⟨h2, h3, h4⟩ := jq_sb_in hS ha
    rw [jq_su]
    by_cases g : jq_tB sg n a = true
    · rw [if_pos g]
      have g1 : jq_tk sg n a := by unfold jq_tk; exact of_decide_eq_true g
      have b6 : -1 ≤ jq_tv sg n a ∧ jq_tv sg n a ≤ 99999 := jq_nr_in (sg := sg) (n := n) (b := jq_tb sg n a) (by have := (jq_t_in hS ha).1; omega)
      have b7 := g1.2.1
      have gh : jq_gq (jq_tl sg n a, s * jq_tv sg n a) := by
        refine ⟨?_, ?_⟩
        · show jq_tl sg n a = 0 ∨ 0 ≤ jq_lc (jq_tl sg n a)
          unfold jq_tl
          split
          · next q => exact Or.inr q
          · exact Or.inl rfl
        · show -99999 ≤ s * jq_tv sg n a ∧ s * jq_tv sg n a ≤ 99999
          rcases hs with rfl | rfl <;> omega
      split
      · next q0 =>
        intro q z
        rcases List.mem_cons.mp z with rfl | z
        · exact gh
        · exact jq_su_g hS f _ 1 (Or.inl rfl) (by have := h4 (by omega); omega) q z
      · split
        · next q0 =>
          intro q z
          rcases List.mem_cons.mp z with rfl | z
          · exact gh
          · exact jq_su_g hS f _ (-1) (Or.inr rfl) (by have := h4 (by omega); omega) q z
        · intro q z
          rw [List.mem_singleton.mp z]
          exact gh
    · rw [if_neg g]
      intro q z
      simp at z
theorem jq_ts_g {sg : Int → Int} {n a : Int} (hS : jq_S n sg) (ha : 0 ≤ a ∧ a ≤ n) (h : (jq_ts sg n a).1 = true) : jq_gT (jq_ts sg n a).2.2 := by
  have h1 := (jq_su_in hS 4 a 1 ha).1
  have h9 := jq_ts_len hS ha
  obtain ⟨h2, h3, h4⟩ := jq_sK_in (sg := sg) h1
  refine ⟨?_, h9, ?_⟩
  all_goals revert h; unfold jq_ts; split
  · split
    · next q => intro _; exact q
    · intro q; cases q
  · intro q; cases q
  · split
    · next q => intro _; exact ⟨jq_su_g hS 4 a 1 (Or.inl rfl) ha, jq_su_g hS 4 _ 1 (Or.inl rfl) (by have := h4 (by omega); omega)⟩
    · intro q; cases q
  · intro q; cases q
theorem jq_tt_g {sg : Int → Int} {n : Int} (hS : jq_S n sg) : ∀ (f : Nat) (a : Int), 0 ≤ a ∧ a ≤ n → (jq_tt sg n f a).1 = true → ∀ T ∈ (jq_tt sg n f a).2.2, jq_gT T
  | 0, a, ha => fun q => by cases q
  | f + 1, a, ha => by
    have h1 := jq_ts_in hS ha
    obtain ⟨h2, h3, h4⟩ := jq_sK_in (sg := sg) h1
    rw [jq_tt]
    split
    · next g =>
      have h9 := jq_ts_g hS ha g
      split
      · next q =>
        intro z0 T z
        rcases List.mem_cons.mp z with rfl | z
        · exact h9
        · exact jq_tt_g hS f _ (by have := h4 (by omega); omega) z0 T z
      · intro z0 T z
        rw [List.mem_singleton.mp z]
        exact h9
    · intro q; cases q
theorem jq_ss_g {sg : Int → Int} {n : Int} (hS : jq_S n sg) : ∀ (f : Nat) (a : Int), 0 ≤ a ∧ a ≤ n → (jq_ss sg n f a).1 = true → ∀ l ∈ (jq_ss sg n f a).2.2, l.length ≤ 5 ∧ ∀ T ∈ l, jq_gT T
  | 0, a, ha => fun q => by cases q
  | f + 1, a, ha => by
    have h1 := (jq_tt_in hS 5 a ha).1
    have h8 := (jq_tt_in hS 5 a ha).2
    obtain ⟨h2, h3, h4⟩ := jq_sK_in (sg := sg) h1
    rw [jq_ss]
    split
    · next g =>
      have h9 := jq_tt_g hS 5 a ha g
      split
      · intro z0 l z
        rw [List.mem_singleton.mp z]
        exact ⟨h8, h9⟩
      · split
        · next q =>
          intro z0 l z
          rcases List.mem_cons.mp z with rfl | z
          · exact ⟨h8, h9⟩
          · exact jq_ss_g hS f _ (by have := h4 (by omega); omega) z0 l z
        · intro q; cases q
    · intro q; cases q
/-! the reference's sumOf -/
theorem jq_ev_in {x : Int → Int} (hx : ∀ c, 0 ≤ c → c < 8 → -100000 ≤ x c ∧ x c ≤ 100000) : ∀ l : List (Int × Int), (∀ q ∈ l, jq_gq q) → -(9999900000 * (l.length : Int)) ≤ jq_ev x l ∧ jq_ev x l ≤ 9999900000 * (l.length : Int)
  | [], _ => by simp [jq_ev]
  | q :: l, h => by
    have h1 := jq_ev_in hx l (fun z y => h z (List.mem_cons_of_mem _ y))
    have h2 := h q List.mem_cons_self
    have h3 := jq_co7_in q.1
    have h4 := jq_mb h2.2 (hx _ h3.1 h3.2)
    rw [jq_ev, List.length_cons]
    generalize q.2 * x (jq_co7 q.1) = z at *
    omega
theorem jq_Me_c {b : Int} {q : Int × Int} {l : List (Int × Int)} {of le : Int → Int} (h : jq_Me b (q :: l) of le) : (le b = q.1 ∧ of b = q.2) ∧ jq_Me (b + 1) l of le := by
  have h0 := h 0 q rfl
  rw [show b + ((0 : Nat) : Int) = b by omega] at h0
  refine ⟨h0, fun j r z => ?_⟩
  have := h (j + 1) r z
  rwa [show b + ((j + 1 : Nat) : Int) = b + 1 + j by omega] at this
/-- what the columns are, by the reference's measures -/
def jq_xm (me : Int → Int) (c t q y : Int) : Int → Int := fun i => if i = 0 then y else if i = 1 then t else if i = 2 then me (4 * c) else if i = 3 then me (4 * c + 1) else if i = 4 then me (4 * c + 2) else if i = 5 then me (4 * c + 3) else if i = 6 then q else 1
def jq_gm (me : Int → Int) : Prop := ∀ i, 0 ≤ me i ∧ me i ≤ 100000
theorem jq_xm_in {me : Int → Int} {c t q y : Int} (hm : jq_gm me) (ht : 0 ≤ t ∧ t ≤ 20000) (hq : 0 ≤ q ∧ q ≤ 20000) (hy : 0 ≤ y ∧ y ≤ 20000) : ∀ i, 0 ≤ i → i < 8 → -100000 ≤ jq_xm me c t q y i ∧ jq_xm me c t q y i ≤ 100000 := fun i _ _ => by
  have h1 := hm (4 * c)
  have h2 := hm (4 * c + 1)
  have h3 := hm (4 * c + 2)
  have h4 := hm (4 * c + 3)
  unfold jq_xm
  repeat' split
  all_goals omega
section MSM
variable {h : List jv_E} {rr lv cu n st a wr da ra wa : Int} {me ta re te of le : Int → Int} {post : Option Value → List jv_E → Prop}
theorem ct_X8_sumOf {su c y t q : Int} {l : List (Int × Int)} (K : Nat) (o : jw_O h rr lv cu n st a wr da ra wa) (w3 : h[103]? = some (jv_ai 32 me)) (w7 : h[107]? = some (jv_ai 120 te)) (w8 : h[108]? = some (jv_ai 480 of)) (w9 : h[109]? = some (jv_ai 480 le)) (hsu : 0 ≤ su ∧ su < 60) (hc : 0 ≤ c ∧ c < 8) (hm : jq_gm me) (hy : 0 ≤ y ∧ y ≤ 20000) (ht : 0 ≤ t ∧ t ≤ 20000) (hqq : 0 ≤ q ∧ q ≤ 20000) (hl : te su = l.length ∧ jq_Me (4 * su) l of le) (hl4 : l.length ≤ 4) (hg : ∀ q ∈ l, jq_gq q) (hp : post (some (.long (jv_l (jq_ev (jq_xm me c t q y) l)))) h) : jv_Ct yX8_sumOf cX8_sumOf 12 (some .long) K [.ref 97, .int (jv_i su), .int (jv_i c), .int (jv_i y), .int (jv_i t), .int (jv_i q)] h post := by
  unfold jw_O at o
  have m0 := hm (4 * c + 0)
  have m1 := hm (4 * c + 1)
  have m2 := hm (4 * c + 2)
  have m3 := hm (4 * c + 3)
  obtain ⟨hl1, hl2⟩ := hl
  refine jv_entry (own := RX8) (by decide) rfl (Nat.le_of_ble_eq_true rfl) (fun X hq => ?_)
  have loop : ∀ (l2 : List (Int × Int)) (k v : Int) (x9 x10 : Option Value), 0 ≤ k - 4 * su → k + l2.length = 4 * su + l.length → jq_Me k l2 of le → (∀ q ∈ l2, jq_gq q) → v + jq_ev (jq_xm me c t q y) l2 = jq_ev (jq_xm me c t q y) l → jv_J X cX8_sumOf RX8 K 8 [some (.ref 97), some (.int (jv_i su)), some (.int (jv_i c)), some (.int (jv_i y)), some (.int (jv_i t)), some (.int (jv_i q)), some (.long (jv_l v)), none, some (.int (jv_i k)), none, none, none] [] h := by
    intro l2
    induction l2 with
    | nil =>
      intro k v x9 x10 h0 e em g ev
      rw [jq_ev, Int.add_zero] at ev
      rw [← ev] at hp
      rw [List.length_nil] at e
      refine jv_iload dX8_sumOf_8 rfl ?_
      refine jv_iconst dX8_sumOf_10 ?_
      refine jv_iload_n dX8_sumOf_11 rfl ?_
      refine jv_imul dX8_sumOf_12 ?_
      refine jv_aload_n dX8_sumOf_13 rfl ?_
      refine jv_getf dX8_sumOf_14 jf_X8_37 (by repeat' (first | assumption | exact ⟨_, by assumption⟩ | refine jv_h1 (by decide) ?_ | refine jv_h0 ?_ | refine jv_h1 (by omega) ?_ | refine jv_hs ?_)) (by exact rfl) ?_
      refine jv_iload_n dX8_sumOf_17 rfl ?_
      refine jv_iald dX8_sumOf_18 (by repeat' (first | assumption | exact ⟨_, by assumption⟩ | refine jv_h1 (by decide) ?_ | refine jv_h0 ?_ | refine jv_h1 (by omega) ?_ | refine jv_hs ?_)) ?_
      refine jv_iadd dX8_sumOf_19 ?_
      refine jv_icmp_ge 147 dX8_sumOf_20 (fun c20 => ?_) (fun c20 => ?_)
      · refine jv_lload dX8_sumOf_147 rfl ?_
        exact jv_lret dX8_sumOf_149 hq (hp)
      · exact absurd c20 (by omega)
    | cons r l2 ih =>
      intro k v x9 x10 h0 e em g ev
      obtain ⟨⟨em1, em2⟩, em3⟩ := jq_Me_c em
      have gr := g r List.mem_cons_self
      rw [List.length_cons] at e
      have il := (jq_lc_il r.1).1
      have gr1 := gr.1
      unfold jq_il at il
      have nx : ∀ z, z = jq_xm me c t q y (jq_co7 r.1) → jv_J X cX8_sumOf RX8 K 8 [some (.ref 97), some (.int (jv_i su)), some (.int (jv_i c)), some (.int (jv_i y)), some (.int (jv_i t)), some (.int (jv_i q)), some (.long (jv_l (v + of k * z))), none, some (.int (jv_i (k + 1))), none, none, none] [] h := fun z ez => ih (k + 1) _ none none (by omega) (by omega) em3 (fun q z => g q (List.mem_cons_of_mem _ z)) (by rw [ez, em2, ← ev, jq_ev]; omega)
      have gr2 := gr.2
      refine jv_iload dX8_sumOf_8 rfl ?_
      refine jv_iconst dX8_sumOf_10 ?_
      refine jv_iload_n dX8_sumOf_11 rfl ?_
      refine jv_imul dX8_sumOf_12 ?_
      refine jv_aload_n dX8_sumOf_13 rfl ?_
      refine jv_getf dX8_sumOf_14 jf_X8_37 (by repeat' (first | assumption | exact ⟨_, by assumption⟩ | refine jv_h1 (by decide) ?_ | refine jv_h0 ?_ | refine jv_h1 (by omega) ?_ | refine jv_hs ?_)) (by exact rfl) ?_
      refine jv_iload_n dX8_sumOf_17 rfl ?_
      refine jv_iald dX8_sumOf_18 (by repeat' (first | assumption | exact ⟨_, by assumption⟩ | refine jv_h1 (by decide) ?_ | refine jv_h0 ?_ | refine jv_h1 (by omega) ?_ | refine jv_hs ?_)) ?_
      refine jv_iadd dX8_sumOf_19 ?_
      refine jv_icmp_ge 147 dX8_sumOf_20 (fun c20 => ?_) (fun c20 => ?_)
      · exact absurd c20 (by omega)
      · refine jv_aload_n dX8_sumOf_23 rfl ?_
        refine jv_getf dX8_sumOf_24 jf_X8_43 (by repeat' (first | assumption | exact ⟨_, by assumption⟩ | refine jv_h1 (by decide) ?_ | refine jv_h0 ?_ | refine jv_h1 (by omega) ?_ | refine jv_hs ?_)) (by exact rfl) ?_
        refine jv_iload dX8_sumOf_27 rfl ?_
        refine jv_iald dX8_sumOf_29 (by repeat' (first | assumption | exact ⟨_, by assumption⟩ | refine jv_h1 (by decide) ?_ | refine jv_h0 ?_ | refine jv_h1 (by omega) ?_ | refine jv_hs ?_)) ?_
        refine jv_istore dX8_sumOf_30 rfl (Nat.le_of_ble_eq_true rfl) ?_
        refine jv_iload dX8_sumOf_32 rfl ?_
        refine jv_if_ne 41 dX8_sumOf_34 (fun c34 => ?_) (fun c34 => ?_)
        · refine jv_iload dX8_sumOf_41 rfl ?_
          refine jv_bipush dX8_sumOf_43 ?_
          refine jv_icmp_ne 53 dX8_sumOf_45 (fun c45 => ?_) (fun c45 => ?_)
          · refine jv_iload dX8_sumOf_53 rfl ?_
            refine jv_bipush dX8_sumOf_55 ?_
            refine jv_icmp_ne 66 dX8_sumOf_57 (fun c57 => ?_) (fun c57 => ?_)
            · refine jv_iload dX8_sumOf_66 rfl ?_
              refine jv_bipush dX8_sumOf_68 ?_
              refine jv_icmp_ne 79 dX8_sumOf_70 (fun c70 => ?_) (fun c70 => ?_)
              · refine jv_aload_n dX8_sumOf_79 rfl ?_
                refine jv_getf dX8_sumOf_80 jf_X8_25 (by repeat' (first | assumption | exact ⟨_, by assumption⟩ | refine jv_h1 (by decide) ?_ | refine jv_h0 ?_ | refine jv_h1 (by omega) ?_ | refine jv_hs ?_)) (by exact rfl) ?_
                refine jv_iconst dX8_sumOf_83 ?_
                refine jv_iload_n dX8_sumOf_84 rfl ?_
                refine jv_imul dX8_sumOf_85 ?_
                refine jv_iload dX8_sumOf_86 rfl ?_
                refine jv_bipush dX8_sumOf_88 ?_
                refine jv_icmp_ne 97 dX8_sumOf_90 (fun c90 => ?_) (fun c90 => ?_)
                · refine jv_iload dX8_sumOf_97 rfl ?_
                  refine jv_bipush dX8_sumOf_99 ?_
                  refine jv_icmp_ne 108 dX8_sumOf_101 (fun c101 => ?_) (fun c101 => ?_)
                  · refine jv_iload dX8_sumOf_108 rfl ?_
                    refine jv_bipush dX8_sumOf_110 ?_
                    refine jv_icmp_ne 119 dX8_sumOf_112 (fun c112 => ?_) (fun c112 => ?_)
                    · refine jv_iconst dX8_sumOf_119 ?_
                      refine jv_iadd dX8_sumOf_120 ?_
                      refine jv_iald dX8_sumOf_121 (by repeat' (first | assumption | exact ⟨_, by assumption⟩ | refine jv_h1 (by decide) ?_ | refine jv_h0 ?_ | refine jv_h1 (by omega) ?_ | refine jv_hs ?_)) ?_
                      refine jv_i2l dX8_sumOf_122 ?_
                      refine jv_lstore dX8_sumOf_123 rfl (Nat.le_of_ble_eq_true rfl) ?_
                      refine jv_lload dX8_sumOf_125 rfl ?_
                      refine jv_aload_n dX8_sumOf_127 rfl ?_
                      refine jv_getf dX8_sumOf_128 jf_X8_40 (by repeat' (first | assumption | exact ⟨_, by assumption⟩ | refine jv_h1 (by decide) ?_ | refine jv_h0 ?_ | refine jv_h1 (by omega) ?_ | refine jv_hs ?_)) (by exact rfl) ?_
                      refine jv_iload dX8_sumOf_131 rfl ?_
                      refine jv_iald dX8_sumOf_133 (by repeat' (first | assumption | exact ⟨_, by assumption⟩ | refine jv_h1 (by decide) ?_ | refine jv_h0 ?_ | refine jv_h1 (by omega) ?_ | refine jv_hs ?_)) ?_
                      refine jv_i2l dX8_sumOf_134 ?_
                      refine jv_lload dX8_sumOf_135 rfl ?_
                      refine jv_lmul dX8_sumOf_137 ?_
                      refine jv_ladd dX8_sumOf_138 ?_
                      refine jv_lstore dX8_sumOf_139 rfl (Nat.le_of_ble_eq_true rfl) ?_
                      refine jv_iinc dX8_sumOf_141 rfl rfl ?_
                      refine jv_goto 8 dX8_sumOf_144 ?_
                      exact jv_les (by repeat' (first | exact True.intro | exact rfl | apply And.intro)) (nx (me (4 * c + 3)) (by rw [show r.1 = 102 by omega]; rfl))
                    · refine jv_iconst dX8_sumOf_115 ?_
                      refine jv_goto 120 dX8_sumOf_116 ?_
                      refine jv_iadd dX8_sumOf_120 ?_
                      refine jv_iald dX8_sumOf_121 (by repeat' (first | assumption | exact ⟨_, by assumption⟩ | refine jv_h1 (by decide) ?_ | refine jv_h0 ?_ | refine jv_h1 (by omega) ?_ | refine jv_hs ?_)) ?_
                      refine jv_i2l dX8_sumOf_122 ?_
                      refine jv_lstore dX8_sumOf_123 rfl (Nat.le_of_ble_eq_true rfl) ?_
                      refine jv_lload dX8_sumOf_125 rfl ?_
                      refine jv_aload_n dX8_sumOf_127 rfl ?_
                      refine jv_getf dX8_sumOf_128 jf_X8_40 (by repeat' (first | assumption | exact ⟨_, by assumption⟩ | refine jv_h1 (by decide) ?_ | refine jv_h0 ?_ | refine jv_h1 (by omega) ?_ | refine jv_hs ?_)) (by exact rfl) ?_
                      refine jv_iload dX8_sumOf_131 rfl ?_
                      refine jv_iald dX8_sumOf_133 (by repeat' (first | assumption | exact ⟨_, by assumption⟩ | refine jv_h1 (by decide) ?_ | refine jv_h0 ?_ | refine jv_h1 (by omega) ?_ | refine jv_hs ?_)) ?_
                      refine jv_i2l dX8_sumOf_134 ?_
                      refine jv_lload dX8_sumOf_135 rfl ?_
                      refine jv_lmul dX8_sumOf_137 ?_
                      refine jv_ladd dX8_sumOf_138 ?_
                      refine jv_lstore dX8_sumOf_139 rfl (Nat.le_of_ble_eq_true rfl) ?_
                      refine jv_iinc dX8_sumOf_141 rfl rfl ?_
                      refine jv_goto 8 dX8_sumOf_144 ?_
                      exact jv_les (by repeat' (first | exact True.intro | exact rfl | apply And.intro)) (nx (me (4 * c + 2)) (by rw [show r.1 = 108 by omega]; rfl))
                  · refine jv_iconst dX8_sumOf_104 ?_
                    refine jv_goto 120 dX8_sumOf_105 ?_
                    refine jv_iadd dX8_sumOf_120 ?_
                    refine jv_iald dX8_sumOf_121 (by repeat' (first | assumption | exact ⟨_, by assumption⟩ | refine jv_h1 (by decide) ?_ | refine jv_h0 ?_ | refine jv_h1 (by omega) ?_ | refine jv_hs ?_)) ?_
                    refine jv_i2l dX8_sumOf_122 ?_
                    refine jv_lstore dX8_sumOf_123 rfl (Nat.le_of_ble_eq_true rfl) ?_
                    refine jv_lload dX8_sumOf_125 rfl ?_
                    refine jv_aload_n dX8_sumOf_127 rfl ?_
                    refine jv_getf dX8_sumOf_128 jf_X8_40 (by repeat' (first | assumption | exact ⟨_, by assumption⟩ | refine jv_h1 (by decide) ?_ | refine jv_h0 ?_ | refine jv_h1 (by omega) ?_ | refine jv_hs ?_)) (by exact rfl) ?_
                    refine jv_iload dX8_sumOf_131 rfl ?_
                    refine jv_iald dX8_sumOf_133 (by repeat' (first | assumption | exact ⟨_, by assumption⟩ | refine jv_h1 (by decide) ?_ | refine jv_h0 ?_ | refine jv_h1 (by omega) ?_ | refine jv_hs ?_)) ?_
                    refine jv_i2l dX8_sumOf_134 ?_
                    refine jv_lload dX8_sumOf_135 rfl ?_
                    refine jv_lmul dX8_sumOf_137 ?_
                    refine jv_ladd dX8_sumOf_138 ?_
                    refine jv_lstore dX8_sumOf_139 rfl (Nat.le_of_ble_eq_true rfl) ?_
                    refine jv_iinc dX8_sumOf_141 rfl rfl ?_
                    refine jv_goto 8 dX8_sumOf_144 ?_
                    exact jv_les (by repeat' (first | exact True.intro | exact rfl | apply And.intro)) (nx (me (4 * c + 1)) (by rw [show r.1 = 100 by omega]; rfl))
                · refine jv_iconst dX8_sumOf_93 ?_
                  refine jv_goto 120 dX8_sumOf_94 ?_
                  refine jv_iadd dX8_sumOf_120 ?_
                  refine jv_iald dX8_sumOf_121 (by repeat' (first | assumption | exact ⟨_, by assumption⟩ | refine jv_h1 (by decide) ?_ | refine jv_h0 ?_ | refine jv_h1 (by omega) ?_ | refine jv_hs ?_)) ?_
                  refine jv_i2l dX8_sumOf_122 ?_
                  refine jv_lstore dX8_sumOf_123 rfl (Nat.le_of_ble_eq_true rfl) ?_
                  refine jv_lload dX8_sumOf_125 rfl ?_
                  refine jv_aload_n dX8_sumOf_127 rfl ?_
                  refine jv_getf dX8_sumOf_128 jf_X8_40 (by repeat' (first | assumption | exact ⟨_, by assumption⟩ | refine jv_h1 (by decide) ?_ | refine jv_h0 ?_ | refine jv_h1 (by omega) ?_ | refine jv_hs ?_)) (by exact rfl) ?_
                  refine jv_iload dX8_sumOf_131 rfl ?_
                  refine jv_iald dX8_sumOf_133 (by repeat' (first | assumption | exact ⟨_, by assumption⟩ | refine jv_h1 (by decide) ?_ | refine jv_h0 ?_ | refine jv_h1 (by omega) ?_ | refine jv_hs ?_)) ?_
                  refine jv_i2l dX8_sumOf_134 ?_
                  refine jv_lload dX8_sumOf_135 rfl ?_
                  refine jv_lmul dX8_sumOf_137 ?_
                  refine jv_ladd dX8_sumOf_138 ?_
                  refine jv_lstore dX8_sumOf_139 rfl (Nat.le_of_ble_eq_true rfl) ?_
                  refine jv_iinc dX8_sumOf_141 rfl rfl ?_
                  refine jv_goto 8 dX8_sumOf_144 ?_
                  exact jv_les (by repeat' (first | exact True.intro | exact rfl | apply And.intro)) (nx (me (4 * c + 0)) (by rw [show r.1 = 119 by omega, Int.add_zero]; rfl))
              · refine jv_iload dX8_sumOf_73 rfl ?_
                refine jv_i2l dX8_sumOf_75 ?_
                refine jv_goto 123 dX8_sumOf_76 ?_
                refine jv_lstore dX8_sumOf_123 rfl (Nat.le_of_ble_eq_true rfl) ?_
                refine jv_lload dX8_sumOf_125 rfl ?_
                refine jv_aload_n dX8_sumOf_127 rfl ?_
                refine jv_getf dX8_sumOf_128 jf_X8_40 (by repeat' (first | assumption | exact ⟨_, by assumption⟩ | refine jv_h1 (by decide) ?_ | refine jv_h0 ?_ | refine jv_h1 (by omega) ?_ | refine jv_hs ?_)) (by exact rfl) ?_
                refine jv_iload dX8_sumOf_131 rfl ?_
                refine jv_iald dX8_sumOf_133 (by repeat' (first | assumption | exact ⟨_, by assumption⟩ | refine jv_h1 (by decide) ?_ | refine jv_h0 ?_ | refine jv_h1 (by omega) ?_ | refine jv_hs ?_)) ?_
                refine jv_i2l dX8_sumOf_134 ?_
                refine jv_lload dX8_sumOf_135 rfl ?_
                refine jv_lmul dX8_sumOf_137 ?_
                refine jv_ladd dX8_sumOf_138 ?_
                refine jv_lstore dX8_sumOf_139 rfl (Nat.le_of_ble_eq_true rfl) ?_
                refine jv_iinc dX8_sumOf_141 rfl rfl ?_
                refine jv_goto 8 dX8_sumOf_144 ?_
                exact jv_les (by repeat' (first | exact True.intro | exact rfl | apply And.intro)) (nx q (by rw [show r.1 = 113 by omega]; rfl))
            · refine jv_iload dX8_sumOf_60 rfl ?_
              refine jv_i2l dX8_sumOf_62 ?_
              refine jv_goto 123 dX8_sumOf_63 ?_
              refine jv_lstore dX8_sumOf_123 rfl (Nat.le_of_ble_eq_true rfl) ?_
              refine jv_lload dX8_sumOf_125 rfl ?_
              refine jv_aload_n dX8_sumOf_127 rfl ?_
              refine jv_getf dX8_sumOf_128 jf_X8_40 (by repeat' (first | assumption | exact ⟨_, by assumption⟩ | refine jv_h1 (by decide) ?_ | refine jv_h0 ?_ | refine jv_h1 (by omega) ?_ | refine jv_hs ?_)) (by exact rfl) ?_
              refine jv_iload dX8_sumOf_131 rfl ?_
              refine jv_iald dX8_sumOf_133 (by repeat' (first | assumption | exact ⟨_, by assumption⟩ | refine jv_h1 (by decide) ?_ | refine jv_h0 ?_ | refine jv_h1 (by omega) ?_ | refine jv_hs ?_)) ?_
              refine jv_i2l dX8_sumOf_134 ?_
              refine jv_lload dX8_sumOf_135 rfl ?_
              refine jv_lmul dX8_sumOf_137 ?_
              refine jv_ladd dX8_sumOf_138 ?_
              refine jv_lstore dX8_sumOf_139 rfl (Nat.le_of_ble_eq_true rfl) ?_
              refine jv_iinc dX8_sumOf_141 rfl rfl ?_
              refine jv_goto 8 dX8_sumOf_144 ?_
              exact jv_les (by repeat' (first | exact True.intro | exact rfl | apply And.intro)) (nx t (by rw [show r.1 = 116 by omega]; rfl))
          · refine jv_iload_n dX8_sumOf_48 rfl ?_
            refine jv_i2l dX8_sumOf_49 ?_
            refine jv_goto 123 dX8_sumOf_50 ?_
            refine jv_lstore dX8_sumOf_123 rfl (Nat.le_of_ble_eq_true rfl) ?_
            refine jv_lload dX8_sumOf_125 rfl ?_
            refine jv_aload_n dX8_sumOf_127 rfl ?_
            refine jv_getf dX8_sumOf_128 jf_X8_40 (by repeat' (first | assumption | exact ⟨_, by assumption⟩ | refine jv_h1 (by decide) ?_ | refine jv_h0 ?_ | refine jv_h1 (by omega) ?_ | refine jv_hs ?_)) (by exact rfl) ?_
            refine jv_iload dX8_sumOf_131 rfl ?_
            refine jv_iald dX8_sumOf_133 (by repeat' (first | assumption | exact ⟨_, by assumption⟩ | refine jv_h1 (by decide) ?_ | refine jv_h0 ?_ | refine jv_h1 (by omega) ?_ | refine jv_hs ?_)) ?_
            refine jv_i2l dX8_sumOf_134 ?_
            refine jv_lload dX8_sumOf_135 rfl ?_
            refine jv_lmul dX8_sumOf_137 ?_
            refine jv_ladd dX8_sumOf_138 ?_
            refine jv_lstore dX8_sumOf_139 rfl (Nat.le_of_ble_eq_true rfl) ?_
            refine jv_iinc dX8_sumOf_141 rfl rfl ?_
            refine jv_goto 8 dX8_sumOf_144 ?_
            exact jv_les (by repeat' (first | exact True.intro | exact rfl | apply And.intro)) (nx y (by rw [show r.1 = 104 by omega]; rfl))
        · refine jv_lconst 1 dX8_sumOf_37 ?_
          refine jv_goto 123 dX8_sumOf_38 ?_
          refine jv_lstore dX8_sumOf_123 rfl (Nat.le_of_ble_eq_true rfl) ?_
          refine jv_lload dX8_sumOf_125 rfl ?_
          refine jv_aload_n dX8_sumOf_127 rfl ?_
          refine jv_getf dX8_sumOf_128 jf_X8_40 (by repeat' (first | assumption | exact ⟨_, by assumption⟩ | refine jv_h1 (by decide) ?_ | refine jv_h0 ?_ | refine jv_h1 (by omega) ?_ | refine jv_hs ?_)) (by exact rfl) ?_
          refine jv_iload dX8_sumOf_131 rfl ?_
          refine jv_iald dX8_sumOf_133 (by repeat' (first | assumption | exact ⟨_, by assumption⟩ | refine jv_h1 (by decide) ?_ | refine jv_h0 ?_ | refine jv_h1 (by omega) ?_ | refine jv_hs ?_)) ?_
          refine jv_i2l dX8_sumOf_134 ?_
          refine jv_lload dX8_sumOf_135 rfl ?_
          refine jv_lmul dX8_sumOf_137 ?_
          refine jv_ladd dX8_sumOf_138 ?_
          refine jv_lstore dX8_sumOf_139 rfl (Nat.le_of_ble_eq_true rfl) ?_
          refine jv_iinc dX8_sumOf_141 rfl rfl ?_
          refine jv_goto 8 dX8_sumOf_144 ?_
          exact jv_les (by repeat' (first | exact True.intro | exact rfl | apply And.intro)) (nx 1 (by rw [show r.1 = 0 by omega]; rfl))
  refine jv_lconst 0 dX8_sumOf_0 ?_
  refine jv_lstore dX8_sumOf_1 rfl (Nat.le_of_ble_eq_true rfl) ?_
  refine jv_iconst dX8_sumOf_3 ?_
  refine jv_iload_n dX8_sumOf_4 rfl ?_
  refine jv_imul dX8_sumOf_5 ?_
  refine jv_istore dX8_sumOf_6 rfl (Nat.le_of_ble_eq_true rfl) ?_
  exact loop l (4 * su) 0 none none (by omega) rfl hl2 hg (Int.zero_add _)
end MSM
