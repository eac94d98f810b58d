/-! SUMS of a text -/
def jq_tB (sg : Int → Int) (n a : Int) : Bool := decide ((jq_DC sg n (jq_tb sg n a) ≠ 0 ∨ 0 ≤ jq_lc (jq_tc sg n a)) ∧ jq_tv sg n a ≠ -1 ∧ ¬ (0 ≤ jq_lc (jq_tc sg n a) ∧ jq_tv sg n a = 0))
theorem jq_tB_t {sg : Int → Int} {n a : Int} (h : jq_tk sg n a) : jq_tB sg n a = true := decide_eq_true h
theorem jq_tB_f {sg : Int → Int} {n a : Int} (h : ¬ jq_tk sg n a) : jq_tB sg n a = false := decide_eq_false h
/-- where the reading stands behind a term and blanks -/
def jq_sb (sg : Int → Int) (n a : Int) : Int := jq_sK sg n (jq_tp sg n a)
/-- up to f terms more of a sum, from a on, the first with sign s: whether good, where it ends, its terms (letter, times) -/
def jq_su (sg : Int → Int) (n : Int) : Nat → Int → Int → Bool × Int × List (Int × Int)
  | 0, a, _ => (false, jq_sK sg n a, [])
  | f + 1, a, s => if jq_tB sg n a = true then (if jq_sn sg n (jq_sb sg n a) = 43 then ((jq_su sg n f (jq_sb sg n a + 1) 1).1, (jq_su sg n f (jq_sb sg n a + 1) 1).2.1, (jq_tl sg n a, s * jq_tv sg n a) :: (jq_su sg n f (jq_sb sg n a + 1) 1).2.2) else if jq_sn sg n (jq_sb sg n a) = 45 then ((jq_su sg n f (jq_sb sg n a + 1) (-1)).1, (jq_su sg n f (jq_sb sg n a + 1) (-1)).2.1, (jq_tl sg n a, s * jq_tv sg n a) :: (jq_su sg n f (jq_sb sg n a + 1) (-1)).2.2) else (true, jq_sb sg n a, [(jq_tl sg n a, s * jq_tv sg n a)])) else (false, jq_tp sg n a, [])
def jq_ev (x : Int → Int) : List (Int × Int) → Int
  | [] => 0
  | q :: l => q.2 * x (jq_co7 q.1) + jq_ev x l
def jq_dot (r x : Int → Int) : Int := r 0 * x 0 + r 1 * x 1 + r 2 * x 2 + r 3 * x 3 + r 4 * x 4 + r 5 * x 5 + r 6 * x 6 + r 7 * x 7
theorem jq_dot_up (r x : Int → Int) {c : Int} (v : Int) (hc : 0 ≤ c ∧ c < 8) : jq_dot (jv_up r c (r c + v)) x = jq_dot r x + v * x c := by
  rcases (show c = 0 ∨ c = 1 ∨ c = 2 ∨ c = 3 ∨ c = 4 ∨ c = 5 ∨ c = 6 ∨ c = 7 by omega) with rfl | rfl | rfl | rfl | rfl | rfl | rfl | rfl <;> simp [jq_dot, jv_up, Int.add_mul] <;> omega
theorem jq_co7_tl (sg : Int → Int) (n a : Int) : jq_co7 (jq_tl sg n a) = jq_co7 (jq_tc sg n a) := by
  unfold jq_tl
  split
  · rfl
  · next q =>
    have : jq_lc 0 = -1 := rfl
    rw [jq_co7, jq_co7, if_neg (by omega), if_neg q]
theorem jq_co7_in (c : Int) : 0 ≤ jq_co7 c ∧ jq_co7 c < 8 := by
  have := (jq_lc_il c).2
  unfold jq_co7
  split <;> omega
theorem jq_sn_in {sg : Int → Int} {n : Int} (hS : jq_S n sg) (i : Int) : 0 ≤ jq_sn sg n i ∧ jq_sn sg n i ≤ 126 := by
  have := hS.2 i
  unfold jq_sn
  split <;> omega
theorem jq_sb_in {sg : Int → Int} {n a : Int} (hS : jq_S n sg) (ha : 0 ≤ a ∧ a ≤ n) : 0 ≤ jq_sb sg n a ∧ jq_sb sg n a ≤ n ∧ (jq_sn sg n (jq_sb sg n a) ≠ 0 → jq_sb sg n a < n) := by
  have h1 := (jq_t_in hS ha).2.2.2.2.2
  have h2 := jq_sk_in sg n 300 (jq_tp sg n a) h1.2
  have e : jq_sb sg n a = jq_sk sg n 300 (jq_tp sg n a) := rfl
  refine ⟨by omega, by omega, fun q => ?_⟩
  unfold jq_sn at q
  split at q
  · assumption
  · exact absurd rfl q
theorem jq_su_in {sg : Int → Int} {n : Int} (hS : jq_S n sg) : ∀ (f : Nat) (a s : Int), 0 ≤ a ∧ a ≤ n → (0 ≤ (jq_su sg n f a s).2.1 ∧ (jq_su sg n f a s).2.1 ≤ n) ∧ (jq_su sg n f a s).2.2.length ≤ f
  | 0, a, s, ha => by
    have := jq_sk_in sg n 300 a ha.2
    refine ⟨?_, Nat.le_refl _⟩
    show 0 ≤ jq_sk sg n 300 a ∧ _
    exact ⟨by omega, this.2⟩
  | f + 1, a, s, ha => by
    have h1 := (jq_t_in hS ha).2.2.2.2.2
    obtain ⟨h2, h3, h4⟩ := jq_sb_in hS ha
    rw [jq_su]
    split
    · split
      · next q =>
        obtain ⟨g1, g2⟩ := jq_su_in hS f (jq_sb sg n a + 1) 1 (by have := h4 (by omega); omega)
        exact ⟨g1, Nat.succ_le_succ g2⟩
      · split
        · next q =>
          obtain ⟨g1, g2⟩ := jq_su_in hS f (jq_sb sg n a + 1) (-1) (by have := h4 (by omega); omega)
          exact ⟨g1, Nat.succ_le_succ g2⟩
        · exact ⟨⟨h2, h3⟩, Nat.succ_le_succ (Nat.zero_le _)⟩
    · exact ⟨h1, Nat.zero_le _⟩
/-- what a row may hold -/
def jq_bd (r : Int → Int) (B : Int) : Prop := ∀ c, 0 ≤ c → c < 8 → -B ≤ r c ∧ r c ≤ B
section SU
variable {h : List jv_E} {p u t : Nat} {n a : Int} {sg en rl lo hi : Int → Int} {F : Int → Int → Int} {post : Option Value → List jv_E → Prop}
theorem ct_X5_readSum {sd : Int} (K : Nat) (hp17 : 17 ≤ p) (w : jw_S h n a sg) (wt : jw_T h p u t en rl lo hi F) (hS : jq_S n sg) (ha : 0 ≤ a ∧ a ≤ n) (ht : t < 30) (hsd : sd = 1 ∨ sd = -1) {B : Int} (hB : jq_bd (F t) B) (hp : ∀ h' r, jw_S h' n (jq_su sg n 4 a 1).2.1 sg → jw_T h' p u t en rl lo hi (jq_uF F t r) → jq_bd r (B + 400000) → (∀ x, (jq_su sg n 4 a 1).1 = true → jq_dot r x = jq_dot (F t) x + sd * jq_ev x (jq_su sg n 4 a 1).2.2) → jv_fq p h h' → post (some (.int (jv_i (if (jq_su sg n 4 a 1).1 = true then 1 else 0)))) h') : jv_Ct yX5_readSum cX5_readSum 6 (some .boolean) (K + 5) [.ref 15, .ref p, .int (jv_i sd)] h post := by
  refine jv_entry (own := RX5) (by decide) rfl (Nat.le_of_ble_eq_true rfl) (fun X hq => ?_)
  have loop : ∀ (f k : Nat) (a1 s di : Int) (h1 : List jv_E) (r : Int → Int), k + f = 4 → (s = 1 ∨ s = -1) → di = sd * s → 0 ≤ a1 ∧ a1 ≤ n → jw_S h1 n a1 sg → jw_T h1 p u t en rl lo hi (jq_uF F t r) → jv_fq p h h1 → jq_bd r (B + 100000 * k) → (∀ h' r', jw_S h' n (jq_su sg n f a1 s).2.1 sg → jw_T h' p u t en rl lo hi (jq_uF F t r') → jq_bd r' (B + 400000) → (∀ x, (jq_su sg n f a1 s).1 = true → jq_dot r' x = jq_dot r x + sd * jq_ev x (jq_su sg n f a1 s).2.2) → jv_fq p h h' → post (some (.int (jv_i (if (jq_su sg n f a1 s).1 = true then 1 else 0)))) h') → jv_J X cX5_readSum RX5 (K + 5) 5 [some (.ref 15), some (.ref p), some (.int (jv_i sd)), some (.int (jv_i di)), some (.int (jv_i k)), none] [] h1 := by
    intro f
    induction f with
    | zero =>
      intro k a1 s di h1 r e hs hd ha1 w wt fr hb hp
      have v1 := w.1
      refine jv_iload dX5_readSum_5 rfl ?_
      refine jv_iconst dX5_readSum_7 ?_
      refine jv_icmp_ge 74 dX5_readSum_8 (fun c8 => ?_) (fun c8 => ?_)
      · refine jv_aload_n dX5_readSum_74 rfl ?_
        refine jv_cV dX5_readSum_75 jm_X5_38 rfl (by repeat' (first | assumption | exact ⟨_, by assumption⟩ | refine jv_h1 (by decide) ?_ | refine jv_h0 ?_ | refine jv_h1 (by omega) ?_ | refine jv_hs ?_)) rfl (ct_X5_standAtOneTooMany (K + 3) w hS ha1 (fun h2 w2 fr2 => ?_))
        exact jv_iret dX5_readSum_78 hq (hp _ r w2 (jw_T_fr wt hp17 fr2) (fun c z1 z2 => by have := hb c z1 z2; omega) (fun x z => by cases z) (jv_fq_s fr fr2)) (by first | rfl | decide)
      · exact absurd c8 (by omega)
    | succ f ih =>
      intro k a1 s di h1 r e hs hd ha1 w wt fr hb hp
      have v1 := w.1
      obtain ⟨b1, b2, b3⟩ := jq_sb_in hS ha1
      have b4 := jq_sn_in hS (jq_sb sg n a1)
      have b5 := jq_co7_in (jq_tc sg n a1)
      have b6 : -1 ≤ jq_tv sg n a1 ∧ jq_tv sg n a1 ≤ 99999 := jq_nr_in (sg := sg) (n := n) (b := jq_tb sg n a1) (by have := (jq_t_in hS ha1).1; omega)
      have b7 := (jq_t_in hS ha1).2.2.2.2.2
      have hdi : di = 1 ∨ di = -1 := by rcases hsd with rfl | rfl <;> rcases hs with rfl | rfl <;> omega
      rw [jq_su] at hp
      refine jv_iload dX5_readSum_5 rfl ?_
      refine jv_iconst dX5_readSum_7 ?_
      refine jv_icmp_ge 74 dX5_readSum_8 (fun c8 => ?_) (fun c8 => ?_)
      · exact absurd c8 (by omega)
      · refine jv_aload_n dX5_readSum_11 rfl ?_
        refine jv_aload_n dX5_readSum_12 rfl ?_
        refine jv_iload_n dX5_readSum_13 rfl ?_
        refine jv_cV dX5_readSum_14 jm_X5_56 rfl (by repeat' (first | assumption | exact ⟨_, by assumption⟩ | refine jv_h1 (by decide) ?_ | refine jv_h0 ?_ | refine jv_h1 (by omega) ?_ | refine jv_hs ?_)) rfl (ct_X5_readTerm K hp17 w wt hS ha1 ht hdi (fun tk h2 w2 wt2 fr2 => ?_) (fun tk h2 w2 wt2 fr2 => ?_))
        · rw [if_pos (jq_tB_t tk)] at hp
          rw [jq_uF_s, jq_uF_u] at wt2
          have v2 := w2.1
          have hb2 : jq_bd (jv_up r (jq_co7 (jq_tc sg n a1)) (r (jq_co7 (jq_tc sg n a1)) + di * jq_tv sg n a1)) (B + 100000 * ((k + 1 : Nat) : Int)) := fun c z1 z2 => by
            have := hb c z1 z2
            by_cases ec : c = jq_co7 (jq_tc sg n a1)
            · rw [ec, jv_up_s]
              rw [ec] at this
              rcases hdi with rfl | rfl <;> omega
            · rw [jv_up_n _ ec]
              omega
          have dt : ∀ x, jq_dot (jv_up r (jq_co7 (jq_tc sg n a1)) (r (jq_co7 (jq_tc sg n a1)) + di * jq_tv sg n a1)) x = jq_dot r x + sd * (s * jq_tv sg n a1 * x (jq_co7 (jq_tl sg n a1))) := fun x => by
            rw [jq_dot_up r x _ b5, jq_co7_tl, hd, Int.mul_assoc, Int.mul_assoc, Int.mul_assoc]
          generalize jv_up r (jq_co7 (jq_tc sg n a1)) (r (jq_co7 (jq_tc sg n a1)) + di * jq_tv sg n a1) = r2 at *
          refine jv_if_ne 22 dX5_readSum_17 (fun c17 => ?_) (fun c17 => ?_)
          · refine jv_aload_n dX5_readSum_22 rfl ?_
            refine jv_cV dX5_readSum_23 jm_X5_34 rfl (by repeat' (first | assumption | exact ⟨_, by assumption⟩ | refine jv_h1 (by decide) ?_ | refine jv_h0 ?_ | refine jv_h1 (by omega) ?_ | refine jv_hs ?_)) rfl (ct_X5_toNextSign (K + 4) w2 hS b7 (fun h3 w3 fr3 => ?_))
            refine jv_ti (b := jq_sn sg n (jq_sb sg n a1)) rfl ?_
            have w4 : jw_S h3 n (jq_sb sg n a1) sg := w3
            have v3 := w4.1
            have v4 := w4.2
            have wt3 := jw_T_fr wt2 hp17 fr3
            have f3 := jv_fq_s (jv_fq_tr fr fr2) fr3
            refine jv_istore dX5_readSum_26 rfl (Nat.le_of_ble_eq_true rfl) ?_
            refine jv_iload dX5_readSum_28 rfl ?_
            refine jv_bipush dX5_readSum_30 ?_
            refine jv_icmp_eq 44 dX5_readSum_32 (fun c32 => ?_) (fun c32 => ?_)
            · refine jv_iload dX5_readSum_44 rfl ?_
              refine jv_bipush dX5_readSum_46 ?_
              refine jv_icmp_ne 55 dX5_readSum_48 (fun c48 => ?_) (fun c48 => ?_)
              · refine jv_iload_n dX5_readSum_55 rfl ?_
                refine jv_ineg dX5_readSum_56 ?_
                refine jv_istore_n dX5_readSum_57 rfl (Nat.le_of_ble_eq_true rfl) ?_
                refine jv_aload_n dX5_readSum_58 rfl ?_
                refine jv_dup dX5_readSum_59 rfl ?_
                refine jv_getf dX5_readSum_60 jf_X5_19 (by repeat' (first | assumption | exact ⟨_, by assumption⟩ | refine jv_h1 (by decide) ?_ | refine jv_h0 ?_ | refine jv_h1 (by omega) ?_ | refine jv_hs ?_)) (by exact rfl) ?_
                refine jv_iconst dX5_readSum_63 ?_
                refine jv_iadd dX5_readSum_64 ?_
                refine jv_putf dX5_readSum_65 jp_X5_19 (by repeat' (first | assumption | exact ⟨_, by assumption⟩ | refine jv_h1 (by decide) ?_ | refine jv_h0 ?_ | refine jv_h1 (by omega) ?_ | refine jv_hs ?_)) (by exact Nat.le_of_ble_eq_true rfl) ?_
                refine jv_iinc dX5_readSum_68 rfl rfl ?_
                refine jv_goto 5 dX5_readSum_71 ?_
                exact absurd c32 (by omega)
              · refine jv_iload_n dX5_readSum_51 rfl ?_
                refine jv_goto 57 dX5_readSum_52 ?_
                refine jv_istore_n dX5_readSum_57 rfl (Nat.le_of_ble_eq_true rfl) ?_
                refine jv_aload_n dX5_readSum_58 rfl ?_
                refine jv_dup dX5_readSum_59 rfl ?_
                refine jv_getf dX5_readSum_60 jf_X5_19 (by repeat' (first | assumption | exact ⟨_, by assumption⟩ | refine jv_h1 (by decide) ?_ | refine jv_h0 ?_ | refine jv_h1 (by omega) ?_ | refine jv_hs ?_)) (by exact rfl) ?_
                refine jv_iconst dX5_readSum_63 ?_
                refine jv_iadd dX5_readSum_64 ?_
                refine jv_putf dX5_readSum_65 jp_X5_19 (by repeat' (first | assumption | exact ⟨_, by assumption⟩ | refine jv_h1 (by decide) ?_ | refine jv_h0 ?_ | refine jv_h1 (by omega) ?_ | refine jv_hs ?_)) (by exact Nat.le_of_ble_eq_true rfl) ?_
                refine jv_iinc dX5_readSum_68 rfl rfl ?_
                refine jv_goto 5 dX5_readSum_71 ?_
                rw [if_pos c32] at hp
                exact jv_les (by repeat' (first | exact True.intro | exact rfl | apply And.intro)) (ih (k + 1) (jq_sb sg n a1 + 1) 1 _ _ r2 (by omega) (by omega) (by omega) (by have := b3 (by omega); omega) ⟨(by repeat' (first | assumption | exact ⟨_, by assumption⟩ | refine jv_h1 (by decide) ?_ | refine jv_h0 ?_ | refine jv_h1 (by omega) ?_ | refine jv_hs ?_)), (by repeat' (first | assumption | exact ⟨_, by assumption⟩ | refine jv_h1 (by decide) ?_ | refine jv_h0 ?_ | refine jv_h1 (by omega) ?_ | refine jv_hs ?_))⟩ (jw_T_fr wt3 hp17 (jv_fr_set (by omega) jv_fr_rf)) (jv_fq_s f3 (jv_fr_set (by omega) jv_fr_rf)) hb2 (fun h' r' q1 q2 q3 q4 q5 => hp h' r' q1 q2 q3 (fun x z => by rw [q4 x z, dt x]; simp only [jq_ev]; rw [Int.mul_add]; omega) q5))
            · refine jv_iload dX5_readSum_35 rfl ?_
              refine jv_bipush dX5_readSum_37 ?_
              refine jv_icmp_eq 44 dX5_readSum_39 (fun c39 => ?_) (fun c39 => ?_)
              · refine jv_iload dX5_readSum_44 rfl ?_
                refine jv_bipush dX5_readSum_46 ?_
                refine jv_icmp_ne 55 dX5_readSum_48 (fun c48 => ?_) (fun c48 => ?_)
                · refine jv_iload_n dX5_readSum_55 rfl ?_
                  refine jv_ineg dX5_readSum_56 ?_
                  refine jv_istore_n dX5_readSum_57 rfl (Nat.le_of_ble_eq_true rfl) ?_
                  refine jv_aload_n dX5_readSum_58 rfl ?_
                  refine jv_dup dX5_readSum_59 rfl ?_
                  refine jv_getf dX5_readSum_60 jf_X5_19 (by repeat' (first | assumption | exact ⟨_, by assumption⟩ | refine jv_h1 (by decide) ?_ | refine jv_h0 ?_ | refine jv_h1 (by omega) ?_ | refine jv_hs ?_)) (by exact rfl) ?_
                  refine jv_iconst dX5_readSum_63 ?_
                  refine jv_iadd dX5_readSum_64 ?_
                  refine jv_putf dX5_readSum_65 jp_X5_19 (by repeat' (first | assumption | exact ⟨_, by assumption⟩ | refine jv_h1 (by decide) ?_ | refine jv_h0 ?_ | refine jv_h1 (by omega) ?_ | refine jv_hs ?_)) (by exact Nat.le_of_ble_eq_true rfl) ?_
                  refine jv_iinc dX5_readSum_68 rfl rfl ?_
                  refine jv_goto 5 dX5_readSum_71 ?_
                  rw [if_neg c32, if_pos c39] at hp
                  exact jv_les (by repeat' (first | exact True.intro | exact rfl | apply And.intro)) (ih (k + 1) (jq_sb sg n a1 + 1) (-1) _ _ r2 (by omega) (by omega) (by omega) (by have := b3 (by omega); omega) ⟨(by repeat' (first | assumption | exact ⟨_, by assumption⟩ | refine jv_h1 (by decide) ?_ | refine jv_h0 ?_ | refine jv_h1 (by omega) ?_ | refine jv_hs ?_)), (by repeat' (first | assumption | exact ⟨_, by assumption⟩ | refine jv_h1 (by decide) ?_ | refine jv_h0 ?_ | refine jv_h1 (by omega) ?_ | refine jv_hs ?_))⟩ (jw_T_fr wt3 hp17 (jv_fr_set (by omega) jv_fr_rf)) (jv_fq_s f3 (jv_fr_set (by omega) jv_fr_rf)) hb2 (fun h' r' q1 q2 q3 q4 q5 => hp h' r' q1 q2 q3 (fun x z => by rw [q4 x z, dt x]; simp only [jq_ev]; rw [Int.mul_add]; omega) q5))
                · refine jv_iload_n dX5_readSum_51 rfl ?_
                  refine jv_goto 57 dX5_readSum_52 ?_
                  refine jv_istore_n dX5_readSum_57 rfl (Nat.le_of_ble_eq_true rfl) ?_
                  refine jv_aload_n dX5_readSum_58 rfl ?_
                  refine jv_dup dX5_readSum_59 rfl ?_
                  refine jv_getf dX5_readSum_60 jf_X5_19 (by repeat' (first | assumption | exact ⟨_, by assumption⟩ | refine jv_h1 (by decide) ?_ | refine jv_h0 ?_ | refine jv_h1 (by omega) ?_ | refine jv_hs ?_)) (by exact rfl) ?_
                  refine jv_iconst dX5_readSum_63 ?_
                  refine jv_iadd dX5_readSum_64 ?_
                  refine jv_putf dX5_readSum_65 jp_X5_19 (by repeat' (first | assumption | exact ⟨_, by assumption⟩ | refine jv_h1 (by decide) ?_ | refine jv_h0 ?_ | refine jv_h1 (by omega) ?_ | refine jv_hs ?_)) (by exact Nat.le_of_ble_eq_true rfl) ?_
                  refine jv_iinc dX5_readSum_68 rfl rfl ?_
                  refine jv_goto 5 dX5_readSum_71 ?_
                  exact absurd c32 (by omega)
              · refine jv_iconst dX5_readSum_42 ?_
                rw [if_neg (by omega), if_neg (by omega)] at hp
                exact jv_iret dX5_readSum_43 hq (hp h3 r2 w4 wt3 (fun c z1 z2 => by have := hb2 c z1 z2; omega) (fun x _ => by rw [dt x]; simp [jq_ev]) f3) (by decide)
          · exact absurd c17 (by omega)
        · rw [if_neg (by rw [jq_tB_f tk]; decide)] at hp
          refine jv_if_ne 22 dX5_readSum_17 (fun c => absurd rfl c) (fun c => ?_)
          refine jv_iconst dX5_readSum_20 ?_
          exact jv_iret dX5_readSum_21 hq (hp h2 r w2 wt2 (fun c z1 z2 => by have := hb c z1 z2; omega) (fun x z => by cases z) (jv_fq_tr fr fr2)) (by decide)
  have e0 : jq_uF F t (F t) = F := funext fun g => by by_cases e : g = t <;> simp [jq_uF, e]
  refine jv_iload_n dX5_readSum_0 rfl ?_
  refine jv_istore_n dX5_readSum_1 rfl (Nat.le_of_ble_eq_true rfl) ?_
  refine jv_iconst dX5_readSum_2 ?_
  refine jv_istore dX5_readSum_3 rfl (Nat.le_of_ble_eq_true rfl) ?_
  exact loop 4 0 a 1 sd h (F t) (by omega) (Or.inl rfl) (by omega) ha w (by rw [e0]; exact wt) jv_fq_rf (fun c z1 z2 => by have := hB c z1 z2; omega) (fun h' r' q1 q2 q3 q4 q5 => hp h' r' q1 q2 q3 q4 q5)
end SU
