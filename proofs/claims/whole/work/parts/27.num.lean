/-! NUMBERS AND TERMS of a text -/
theorem jv_ti {X : jv_M} {cc : ByteArray} {own : String} {K pc : Nat} {L : List (Option Value)} {S : List Value} {h : List jv_E} {a b : Int} (e : a = b) (kk : jv_J X cc own K pc L (.int (jv_i b) :: S) h) : jv_J X cc own K pc L (.int (jv_i a) :: S) h := by rw [e]; exact kk
def jq_dc (sg : Int → Int) (n : Int) : Nat → Int → Int
  | 0, _ => 0
  | f + 1, i => if i < n ∧ 48 ≤ sg i ∧ sg i ≤ 57 then 1 + jq_dc sg n f (i + 1) else 0
def jq_DC (sg : Int → Int) (n i : Int) : Int := jq_dc sg n 300 i
def jq_vl (sg : Int → Int) (b : Int) : Nat → Int
  | 0 => 0
  | k + 1 => 10 * jq_vl sg b k + (sg (b + k) - 48)
def jq_nr (sg : Int → Int) (n b : Int) : Int := if jq_DC sg n b = 0 then 1 else if 5 < jq_DC sg n b ∨ (1 < jq_DC sg n b ∧ sg b = 48) then -1 else jq_vl sg b (jq_DC sg n b).toNat
theorem jq_dc_in (sg : Int → Int) (n : Int) : ∀ (f : Nat) (i : Int), i ≤ n → (0 ≤ jq_dc sg n f i ∧ i + jq_dc sg n f i ≤ n) ∧ ∀ j, i ≤ j → j < i + jq_dc sg n f i → 48 ≤ sg j ∧ sg j ≤ 57
  | 0, i, h => ⟨by simp [jq_dc, h], fun j z1 z2 => by simp [jq_dc] at z2; omega⟩
  | f + 1, i, h => by
    rw [jq_dc]
    split
    · next q =>
      obtain ⟨g1, g2⟩ := jq_dc_in sg n f (i + 1) (by omega)
      refine ⟨by omega, fun j z1 z2 => ?_⟩
      by_cases e : j = i
      · rw [e]; exact q.2
      · exact g2 j (by omega) (by omega)
    · exact ⟨by omega, fun j z1 z2 => by omega⟩
theorem jq_vl_in (sg : Int → Int) (b : Int) : ∀ (k : Nat), (∀ j, b ≤ j → j < b + k → 48 ≤ sg j ∧ sg j ≤ 57) → 0 ≤ jq_vl sg b k ∧ jq_vl sg b k < 10 ^ k
  | 0, _ => by simp [jq_vl]
  | k + 1, h => by
    have h1 := jq_vl_in sg b k (fun j z1 z2 => h j z1 (by omega))
    have h2 := h (b + k) (by omega) (by omega)
    rw [jq_vl, Int.pow_succ]
    generalize (10 : Int) ^ k = p at *
    omega
theorem jq_nr_in {sg : Int → Int} {n b : Int} (hb : b ≤ n) : -1 ≤ jq_nr sg n b ∧ jq_nr sg n b ≤ 99999 := by
  unfold jq_nr
  split
  · omega
  · split
    · omega
    · next q1 q2 =>
      obtain ⟨g1, g2⟩ := jq_dc_in sg n 300 b hb
      have g3 : jq_DC sg n b = jq_dc sg n 300 b := rfl
      have g4 := jq_vl_in sg b (jq_DC sg n b).toNat (fun j z1 z2 => g2 j z1 (by omega))
      have g5 : (10 : Int) ^ (jq_DC sg n b).toNat ≤ 10 ^ 5 := by
        rcases (show (jq_DC sg n b).toNat = 0 ∨ (jq_DC sg n b).toNat = 1 ∨ (jq_DC sg n b).toNat = 2 ∨ (jq_DC sg n b).toNat = 3 ∨ (jq_DC sg n b).toNat = 4 ∨ (jq_DC sg n b).toNat = 5 by omega) with e | e | e | e | e | e <;> rw [e] <;> decide
      omega
/-- the column of a letter, less than 0 if it is none -/
def jq_lc (c : Int) : Int := if c = 104 then 0 else if c = 116 then 1 else if c = 119 then 2 else if c = 100 then 3 else if c = 108 then 4 else if c = 102 then 5 else if c = 113 then 6 else -1
theorem jq_lc_il (c : Int) : (jq_il c ↔ 0 ≤ jq_lc c) ∧ -1 ≤ jq_lc c ∧ jq_lc c ≤ 6 := by
  unfold jq_il jq_lc
  repeat' split
  all_goals omega
def jq_tb (sg : Int → Int) (n a : Int) : Int := jq_sK sg n a
def jq_te (sg : Int → Int) (n a : Int) : Int := jq_sK sg n (jq_tb sg n a + jq_DC sg n (jq_tb sg n a))
def jq_tc (sg : Int → Int) (n a : Int) : Int := jq_sn sg n (jq_te sg n a)
def jq_tv (sg : Int → Int) (n a : Int) : Int := jq_nr sg n (jq_tb sg n a)
/-- a term begins at a -/
def jq_tk (sg : Int → Int) (n a : Int) : Prop := (jq_DC sg n (jq_tb sg n a) ≠ 0 ∨ 0 ≤ jq_lc (jq_tc sg n a)) ∧ jq_tv sg n a ≠ -1 ∧ ¬ (0 ≤ jq_lc (jq_tc sg n a) ∧ jq_tv sg n a = 0)
/-- where the reading stands behind it, or behind its failing -/
def jq_tp (sg : Int → Int) (n a : Int) : Int := if (jq_DC sg n (jq_tb sg n a) ≠ 0 ∨ 0 ≤ jq_lc (jq_tc sg n a)) ∧ jq_tv sg n a ≠ -1 ∧ ¬ (0 ≤ jq_lc (jq_tc sg n a) ∧ jq_tv sg n a = 0) then (if 0 ≤ jq_lc (jq_tc sg n a) then jq_te sg n a + 1 else jq_te sg n a) else (if jq_DC sg n (jq_tb sg n a) = 0 then jq_te sg n a else jq_tb sg n a)
/-- the letter of a term, 0 for none -/
def jq_tl (sg : Int → Int) (n a : Int) : Int := if 0 ≤ jq_lc (jq_tc sg n a) then jq_tc sg n a else 0
theorem jq_t_in {sg : Int → Int} {n a : Int} (hS : jq_S n sg) (ha : 0 ≤ a ∧ a ≤ n) : (0 ≤ jq_tb sg n a ∧ jq_tb sg n a ≤ n) ∧ (0 ≤ jq_DC sg n (jq_tb sg n a) ∧ jq_tb sg n a + jq_DC sg n (jq_tb sg n a) ≤ n) ∧ (0 ≤ jq_te sg n a ∧ jq_te sg n a ≤ n) ∧ (0 ≤ jq_tc sg n a ∧ jq_tc sg n a ≤ 126) ∧ (0 ≤ jq_lc (jq_tc sg n a) → jq_te sg n a < n) ∧ (0 ≤ jq_tp sg n a ∧ jq_tp sg n a ≤ n) := by
  have h1 := jq_sk_in sg n 300 a ha.2
  have e1 : jq_tb sg n a = jq_sk sg n 300 a := rfl
  have h2 := (jq_dc_in sg n 300 (jq_tb sg n a) (by omega)).1
  have e2 : jq_DC sg n (jq_tb sg n a) = jq_dc sg n 300 (jq_tb sg n a) := rfl
  have h3 := jq_sk_in sg n 300 (jq_tb sg n a + jq_DC sg n (jq_tb sg n a)) (by omega)
  have e3 : jq_te sg n a = jq_sk sg n 300 (jq_tb sg n a + jq_DC sg n (jq_tb sg n a)) := rfl
  have h4 := hS.2 (jq_te sg n a)
  have h5 : (0 ≤ jq_tc sg n a ∧ jq_tc sg n a ≤ 126) ∧ (0 ≤ jq_lc (jq_tc sg n a) → jq_te sg n a < n) := by
    unfold jq_tc jq_sn
    split
    · exact ⟨h4, fun _ => by omega⟩
    · refine ⟨by omega, fun q => ?_⟩
      simp [jq_lc] at q
  refine ⟨by omega, by omega, by omega, h5.1, h5.2, ?_⟩
  unfold jq_tp
  split
  · split
    · next q => have := h5.2 q; omega
    · omega
  · split <;> omega
section NM
variable {h : List jv_E} {n b : Int} {sg : Int → Int} {post : Option Value → List jv_E → Prop}
theorem ct_X5_readNumber (K : Nat) (w : jw_S h n b sg) (hS : jq_S n sg) (hb : 0 ≤ b ∧ b ≤ n) (hp : ∀ h', jw_S h' n (b + jq_DC sg n b) sg → jv_fr 15 16 h h' → post (some (.int (jv_i (jq_nr sg n b)))) h') : jv_Ct yX5_readNumber cX5_readNumber 5 (some .int) K [.ref 15] h post := by
  have hn := hS.1
  have d0 := (jq_dc_in sg n 300 b hb.2).1
  have d1 : jq_DC sg n b = jq_dc sg n 300 b := rfl
  have sb := hS.2 b
  refine jv_entry (own := RX5) (by decide) rfl (Nat.le_of_ble_eq_true rfl) (fun X hq => ?_)
  have fin : ∀ (k : Nat) (h1 : List jv_E), jq_DC sg n b = k → jw_S h1 n (b + k) sg → jv_fr 15 16 h h1 → jv_J X cX5_readNumber RX5 K 87 [some (.ref 15), some (.int (jv_i b)), some (.int (jv_i (jq_vl sg b (min k 5)))), none, none] [] h1 := by
    intro k h1 e w fr
    have hp := hp h1 (by rw [e]; exact w) fr
    unfold jq_nr at hp
    rw [e] at hp
    obtain ⟨w1, w2⟩ := w
    refine jv_aload_n dX5_readNumber_87 rfl ?_
    refine jv_getf dX5_readNumber_88 jf_X5_19 (by repeat' (first | assumption | exact ⟨_, by assumption⟩ | refine jv_h1 (by decide) ?_ | refine jv_h0 ?_ | refine jv_h1 (by omega) ?_ | refine jv_hs ?_)) (by exact rfl) ?_
    refine jv_iload_n dX5_readNumber_91 rfl ?_
    refine jv_isub dX5_readNumber_92 ?_
    refine jv_istore_n dX5_readNumber_93 rfl (Nat.le_of_ble_eq_true rfl) ?_
    refine jv_iload_n dX5_readNumber_94 rfl ?_
    refine jv_if_ne 100 dX5_readNumber_95 (fun c95 => ?_) (fun c95 => ?_)
    · refine jv_iload_n dX5_readNumber_100 rfl ?_
      refine jv_iconst dX5_readNumber_101 ?_
      refine jv_icmp_le 120 dX5_readNumber_102 (fun c102 => ?_) (fun c102 => ?_)
      · refine jv_iconst dX5_readNumber_120 ?_
        refine jv_istore dX5_readNumber_121 rfl (Nat.le_of_ble_eq_true rfl) ?_
        refine jv_iload_n dX5_readNumber_123 rfl ?_
        refine jv_iconst dX5_readNumber_124 ?_
        refine jv_icmp_gt 133 dX5_readNumber_125 (fun c125 => ?_) (fun c125 => ?_)
        · refine jv_iconst dX5_readNumber_133 ?_
          refine jv_goto 138 dX5_readNumber_134 ?_
          exact jv_iret dX5_readNumber_138 hq (by rw [if_neg (by omega), if_pos (by omega)] at hp; exact hp)
        · refine jv_iload dX5_readNumber_128 rfl ?_
          refine jv_if_eq 137 dX5_readNumber_130 (fun c130 => ?_) (fun c130 => ?_)
          · refine jv_iload_n dX5_readNumber_137 rfl ?_
            exact jv_iret dX5_readNumber_138 hq (by rw [if_neg (by omega), if_neg (by omega)] at hp; rw [show min k 5 = (k : Int).toNat by omega]; exact hp)
          · refine jv_iconst dX5_readNumber_133 ?_
            refine jv_goto 138 dX5_readNumber_134 ?_
            exact jv_iret dX5_readNumber_138 hq (by rw [if_neg (by omega), if_pos (by omega)] at hp; exact hp)
      · refine jv_aload_n dX5_readNumber_105 rfl ?_
        refine jv_getf dX5_readNumber_106 jf_X5_9 (by repeat' (first | assumption | exact ⟨_, by assumption⟩ | refine jv_h1 (by decide) ?_ | refine jv_h0 ?_ | refine jv_h1 (by omega) ?_ | refine jv_hs ?_)) (by exact rfl) ?_
        refine jv_iload_n dX5_readNumber_109 rfl ?_
        refine jv_cald dX5_readNumber_110 (by repeat' (first | assumption | exact ⟨_, by assumption⟩ | refine jv_h1 (by decide) ?_ | refine jv_h0 ?_ | refine jv_h1 (by omega) ?_ | refine jv_hs ?_)) ?_
        refine jv_bipush dX5_readNumber_111 ?_
        refine jv_icmp_ne 120 dX5_readNumber_113 (fun c113 => ?_) (fun c113 => ?_)
        · refine jv_iconst dX5_readNumber_120 ?_
          refine jv_istore dX5_readNumber_121 rfl (Nat.le_of_ble_eq_true rfl) ?_
          refine jv_iload_n dX5_readNumber_123 rfl ?_
          refine jv_iconst dX5_readNumber_124 ?_
          refine jv_icmp_gt 133 dX5_readNumber_125 (fun c125 => ?_) (fun c125 => ?_)
          · refine jv_iconst dX5_readNumber_133 ?_
            refine jv_goto 138 dX5_readNumber_134 ?_
            exact jv_iret dX5_readNumber_138 hq (by rw [if_neg (by omega), if_pos (by omega)] at hp; exact hp)
          · refine jv_iload dX5_readNumber_128 rfl ?_
            refine jv_if_eq 137 dX5_readNumber_130 (fun c130 => ?_) (fun c130 => ?_)
            · refine jv_iload_n dX5_readNumber_137 rfl ?_
              exact jv_iret dX5_readNumber_138 hq (by rw [if_neg (by omega), if_neg (by omega)] at hp; rw [show min k 5 = (k : Int).toNat by omega]; exact hp)
            · refine jv_iconst dX5_readNumber_133 ?_
              refine jv_goto 138 dX5_readNumber_134 ?_
              exact jv_iret dX5_readNumber_138 hq (by rw [if_neg (by omega), if_pos (by omega)] at hp; exact hp)
        · refine jv_iconst dX5_readNumber_116 ?_
          refine jv_goto 121 dX5_readNumber_117 ?_
          refine jv_istore dX5_readNumber_121 rfl (Nat.le_of_ble_eq_true rfl) ?_
          refine jv_iload_n dX5_readNumber_123 rfl ?_
          refine jv_iconst dX5_readNumber_124 ?_
          refine jv_icmp_gt 133 dX5_readNumber_125 (fun c125 => ?_) (fun c125 => ?_)
          · refine jv_iconst dX5_readNumber_133 ?_
            refine jv_goto 138 dX5_readNumber_134 ?_
            exact jv_iret dX5_readNumber_138 hq (by rw [if_neg (by omega), if_pos (by omega)] at hp; exact hp)
          · refine jv_iload dX5_readNumber_128 rfl ?_
            refine jv_if_eq 137 dX5_readNumber_130 (fun c130 => ?_) (fun c130 => ?_)
            · refine jv_iload_n dX5_readNumber_137 rfl ?_
              exact jv_iret dX5_readNumber_138 hq (by rw [if_neg (by omega), if_neg (by omega)] at hp; rw [show min k 5 = (k : Int).toNat by omega]; exact hp)
            · refine jv_iconst dX5_readNumber_133 ?_
              refine jv_goto 138 dX5_readNumber_134 ?_
              exact jv_iret dX5_readNumber_138 hq (by rw [if_neg (by omega), if_pos (by omega)] at hp; exact hp)
    · refine jv_iconst dX5_readNumber_98 ?_
      exact jv_iret dX5_readNumber_99 hq (by rw [if_pos (by omega)] at hp; exact hp)
  have loop : ∀ (f k : Nat) (h1 : List jv_E), n ≤ b + k + f → b + k ≤ n → jq_DC sg n b = k + jq_dc sg n f (b + k) → jw_S h1 n (b + k) sg → jv_fr 15 16 h h1 → jv_J X cX5_readNumber RX5 K 7 [some (.ref 15), some (.int (jv_i b)), some (.int (jv_i (jq_vl sg b (min k 5)))), none, none] [] h1 := by
    intro f
    induction f with
    | zero =>
      intro k h1 e1 e2 e3 w fr
      have ff := fin k h1 (by rw [e3, jq_dc]; omega) w fr
      obtain ⟨w1, w2⟩ := w
      refine jv_aload_n dX5_readNumber_7 rfl ?_
      refine jv_getf dX5_readNumber_8 jf_X5_19 (by repeat' (first | assumption | exact ⟨_, by assumption⟩ | refine jv_h1 (by decide) ?_ | refine jv_h0 ?_ | refine jv_h1 (by omega) ?_ | refine jv_hs ?_)) (by exact rfl) ?_
      refine jv_aload_n dX5_readNumber_11 rfl ?_
      refine jv_getf dX5_readNumber_12 jf_X5_15 (by repeat' (first | assumption | exact ⟨_, by assumption⟩ | refine jv_h1 (by decide) ?_ | refine jv_h0 ?_ | refine jv_h1 (by omega) ?_ | refine jv_hs ?_)) (by exact rfl) ?_
      refine jv_icmp_ge 87 dX5_readNumber_15 (fun c15 => ?_) (fun c15 => ?_)
      · exact ff
      · exact absurd c15 (by omega)
    | succ f ih =>
      intro k h1 e1 e2 e3 w fr
      have ff := fun e => fin k h1 e w fr
      rw [jq_dc] at e3
      obtain ⟨w1, w2⟩ := w
      have s1 := hS.2 (b + k)
      have nx := fun (z : b + k < n) h1 w fr e => ih (k + 1) h1 (by omega) (by omega) e w fr
      rw [show b + ((k + 1 : Nat) : Int) = b + k + 1 by omega] at nx
      refine jv_aload_n dX5_readNumber_7 rfl ?_
      refine jv_getf dX5_readNumber_8 jf_X5_19 (by repeat' (first | assumption | exact ⟨_, by assumption⟩ | refine jv_h1 (by decide) ?_ | refine jv_h0 ?_ | refine jv_h1 (by omega) ?_ | refine jv_hs ?_)) (by exact rfl) ?_
      refine jv_aload_n dX5_readNumber_11 rfl ?_
      refine jv_getf dX5_readNumber_12 jf_X5_15 (by repeat' (first | assumption | exact ⟨_, by assumption⟩ | refine jv_h1 (by decide) ?_ | refine jv_h0 ?_ | refine jv_h1 (by omega) ?_ | refine jv_hs ?_)) (by exact rfl) ?_
      refine jv_icmp_ge 87 dX5_readNumber_15 (fun c15 => ?_) (fun c15 => ?_)
      · exact ff (by rw [if_neg (by omega)] at e3; omega)
      · refine jv_bipush dX5_readNumber_18 ?_
        refine jv_aload_n dX5_readNumber_20 rfl ?_
        refine jv_getf dX5_readNumber_21 jf_X5_9 (by repeat' (first | assumption | exact ⟨_, by assumption⟩ | refine jv_h1 (by decide) ?_ | refine jv_h0 ?_ | refine jv_h1 (by omega) ?_ | refine jv_hs ?_)) (by exact rfl) ?_
        refine jv_aload_n dX5_readNumber_24 rfl ?_
        refine jv_getf dX5_readNumber_25 jf_X5_19 (by repeat' (first | assumption | exact ⟨_, by assumption⟩ | refine jv_h1 (by decide) ?_ | refine jv_h0 ?_ | refine jv_h1 (by omega) ?_ | refine jv_hs ?_)) (by exact rfl) ?_
        refine jv_cald dX5_readNumber_28 (by repeat' (first | assumption | exact ⟨_, by assumption⟩ | refine jv_h1 (by decide) ?_ | refine jv_h0 ?_ | refine jv_h1 (by omega) ?_ | refine jv_hs ?_)) ?_
        refine jv_icmp_gt 87 dX5_readNumber_29 (fun c29 => ?_) (fun c29 => ?_)
        · exact ff (by rw [if_neg (by omega)] at e3; omega)
        · refine jv_aload_n dX5_readNumber_32 rfl ?_
          refine jv_getf dX5_readNumber_33 jf_X5_9 (by repeat' (first | assumption | exact ⟨_, by assumption⟩ | refine jv_h1 (by decide) ?_ | refine jv_h0 ?_ | refine jv_h1 (by omega) ?_ | refine jv_hs ?_)) (by exact rfl) ?_
          refine jv_aload_n dX5_readNumber_36 rfl ?_
          refine jv_getf dX5_readNumber_37 jf_X5_19 (by repeat' (first | assumption | exact ⟨_, by assumption⟩ | refine jv_h1 (by decide) ?_ | refine jv_h0 ?_ | refine jv_h1 (by omega) ?_ | refine jv_hs ?_)) (by exact rfl) ?_
          refine jv_cald dX5_readNumber_40 (by repeat' (first | assumption | exact ⟨_, by assumption⟩ | refine jv_h1 (by decide) ?_ | refine jv_h0 ?_ | refine jv_h1 (by omega) ?_ | refine jv_hs ?_)) ?_
          refine jv_bipush dX5_readNumber_41 ?_
          refine jv_icmp_gt 87 dX5_readNumber_43 (fun c43 => ?_) (fun c43 => ?_)
          · exact ff (by rw [if_neg (by omega)] at e3; omega)
          · refine jv_aload_n dX5_readNumber_46 rfl ?_
            refine jv_getf dX5_readNumber_47 jf_X5_19 (by repeat' (first | assumption | exact ⟨_, by assumption⟩ | refine jv_h1 (by decide) ?_ | refine jv_h0 ?_ | refine jv_h1 (by omega) ?_ | refine jv_hs ?_)) (by exact rfl) ?_
            refine jv_iload_n dX5_readNumber_50 rfl ?_
            refine jv_isub dX5_readNumber_51 ?_
            refine jv_iconst dX5_readNumber_52 ?_
            refine jv_icmp_ge 74 dX5_readNumber_53 (fun c53 => ?_) (fun c53 => ?_)
            · refine jv_aload_n dX5_readNumber_74 rfl ?_
              refine jv_dup dX5_readNumber_75 rfl ?_
              refine jv_getf dX5_readNumber_76 jf_X5_19 (by repeat' (first | assumption | exact ⟨_, by assumption⟩ | refine jv_h1 (by decide) ?_ | refine jv_h0 ?_ | refine jv_h1 (by omega) ?_ | refine jv_hs ?_)) (by exact rfl) ?_
              refine jv_iconst dX5_readNumber_79 ?_
              refine jv_iadd dX5_readNumber_80 ?_
              refine jv_putf dX5_readNumber_81 jp_X5_19 (by repeat' (first | assumption | exact ⟨_, by assumption⟩ | refine jv_h1 (by decide) ?_ | refine jv_h0 ?_ | refine jv_h1 (by omega) ?_ | refine jv_hs ?_)) (by exact Nat.le_of_ble_eq_true rfl) ?_
              refine jv_goto 7 dX5_readNumber_84 ?_
              rw [show min (k + 1) 5 = min k 5 by omega] at nx
              exact nx (by omega) _ ⟨(by repeat' (first | assumption | exact ⟨_, by assumption⟩ | refine jv_h1 (by decide) ?_ | refine jv_h0 ?_ | refine jv_h1 (by omega) ?_ | refine jv_hs ?_)), (by repeat' (first | assumption | exact ⟨_, by assumption⟩ | refine jv_h1 (by decide) ?_ | refine jv_h0 ?_ | refine jv_h1 (by omega) ?_ | refine jv_hs ?_))⟩ (jv_fr_set (by omega) fr) (by rw [if_pos (by omega)] at e3; omega)
            · refine jv_bipush dX5_readNumber_56 ?_
              refine jv_iload_n dX5_readNumber_58 rfl ?_
              refine jv_imul dX5_readNumber_59 ?_
              refine jv_aload_n dX5_readNumber_60 rfl ?_
              refine jv_getf dX5_readNumber_61 jf_X5_9 (by repeat' (first | assumption | exact ⟨_, by assumption⟩ | refine jv_h1 (by decide) ?_ | refine jv_h0 ?_ | refine jv_h1 (by omega) ?_ | refine jv_hs ?_)) (by exact rfl) ?_
              refine jv_aload_n dX5_readNumber_64 rfl ?_
              refine jv_getf dX5_readNumber_65 jf_X5_19 (by repeat' (first | assumption | exact ⟨_, by assumption⟩ | refine jv_h1 (by decide) ?_ | refine jv_h0 ?_ | refine jv_h1 (by omega) ?_ | refine jv_hs ?_)) (by exact rfl) ?_
              refine jv_cald dX5_readNumber_68 (by repeat' (first | assumption | exact ⟨_, by assumption⟩ | refine jv_h1 (by decide) ?_ | refine jv_h0 ?_ | refine jv_h1 (by omega) ?_ | refine jv_hs ?_)) ?_
              refine jv_bipush dX5_readNumber_69 ?_
              refine jv_isub dX5_readNumber_71 ?_
              refine jv_iadd dX5_readNumber_72 ?_
              refine jv_istore_n dX5_readNumber_73 rfl (Nat.le_of_ble_eq_true rfl) ?_
              refine jv_aload_n dX5_readNumber_74 rfl ?_
              refine jv_dup dX5_readNumber_75 rfl ?_
              refine jv_getf dX5_readNumber_76 jf_X5_19 (by repeat' (first | assumption | exact ⟨_, by assumption⟩ | refine jv_h1 (by decide) ?_ | refine jv_h0 ?_ | refine jv_h1 (by omega) ?_ | refine jv_hs ?_)) (by exact rfl) ?_
              refine jv_iconst dX5_readNumber_79 ?_
              refine jv_iadd dX5_readNumber_80 ?_
              refine jv_putf dX5_readNumber_81 jp_X5_19 (by repeat' (first | assumption | exact ⟨_, by assumption⟩ | refine jv_h1 (by decide) ?_ | refine jv_h0 ?_ | refine jv_h1 (by omega) ?_ | refine jv_hs ?_)) (by exact Nat.le_of_ble_eq_true rfl) ?_
              refine jv_goto 7 dX5_readNumber_84 ?_
              rw [show min (k + 1) 5 = k + 1 by omega, jq_vl] at nx
              rw [show min k 5 = k by omega]
              exact nx (by omega) _ ⟨(by repeat' (first | assumption | exact ⟨_, by assumption⟩ | refine jv_h1 (by decide) ?_ | refine jv_h0 ?_ | refine jv_h1 (by omega) ?_ | refine jv_hs ?_)), (by repeat' (first | assumption | exact ⟨_, by assumption⟩ | refine jv_h1 (by decide) ?_ | refine jv_h0 ?_ | refine jv_h1 (by omega) ?_ | refine jv_hs ?_))⟩ (jv_fr_set (by omega) fr) (by rw [if_pos (by omega)] at e3; omega)
  have w9 := w
  obtain ⟨w1, w2⟩ := w
  refine jv_aload_n dX5_readNumber_0 rfl ?_
  refine jv_getf dX5_readNumber_1 jf_X5_19 (by repeat' (first | assumption | exact ⟨_, by assumption⟩ | refine jv_h1 (by decide) ?_ | refine jv_h0 ?_ | refine jv_h1 (by omega) ?_ | refine jv_hs ?_)) (by exact rfl) ?_
  refine jv_istore_n dX5_readNumber_4 rfl (Nat.le_of_ble_eq_true rfl) ?_
  refine jv_iconst dX5_readNumber_5 ?_
  refine jv_istore_n dX5_readNumber_6 rfl (Nat.le_of_ble_eq_true rfl) ?_
  exact loop 300 0 h (by omega) (by omega) (by rw [d1]; simp) (by simpa using w9) jv_fr_rf
end NM
