/-! SIGNS: n signs sg, the reader stands at a -/
def jw_S (h : List jv_E) (n a : Int) (sg : Int → Int) : Prop := h[15]? = some (jv_ob 5 [.ref 16, .int (jv_i n), .int (jv_i a)]) ∧ h[16]? = some (jv_ac 300 sg)
def jq_S (n : Int) (sg : Int → Int) : Prop := (0 ≤ n ∧ n ≤ 300) ∧ ∀ i, 0 ≤ sg i ∧ sg i ≤ 126
/-- behind blanks -/
def jq_sk (sg : Int → Int) (n : Int) : Nat → Int → Int
  | 0, i => i
  | f + 1, i => if i < n ∧ sg i = 32 then jq_sk sg n f (i + 1) else i
def jq_sn (sg : Int → Int) (n i : Int) : Int := if i < n then sg i else 0
def jq_sK (sg : Int → Int) (n i : Int) : Int := jq_sk sg n 300 i
theorem jq_sk_in (sg : Int → Int) (n : Int) : ∀ (f : Nat) (i : Int), i ≤ n → i ≤ jq_sk sg n f i ∧ jq_sk sg n f i ≤ n
  | 0, i, h => by simp [jq_sk, h]
  | f + 1, i, h => by
    rw [jq_sk]
    split
    · next q =>
      have := jq_sk_in sg n f (i + 1) (by omega)
      omega
    · omega
/-- more fuel changes nothing -/
theorem jq_sk_f (sg : Int → Int) (n : Int) : ∀ (f g : Nat) (i : Int), n ≤ i + f → n ≤ i + g → jq_sk sg n f i = jq_sk sg n g i
  | 0, 0, i, _, _ => rfl
  | 0, g + 1, i, h1, h2 => by rw [jq_sk, jq_sk, if_neg (by omega)]
  | f + 1, 0, i, h1, h2 => by rw [jq_sk, jq_sk, if_neg (by omega)]
  | f + 1, g + 1, i, h1, h2 => by
    rw [jq_sk, jq_sk]
    split
    · exact jq_sk_f sg n f g (i + 1) (by omega) (by omega)
    · rfl
section SG
variable {h : List jv_E} {n a : Int} {t0 d0 : Nat} {sg : Int → Int} {post : Option Value → List jv_E → Prop}
theorem ct_X5_size (K : Nat) (w : jw_S h n a sg) (hp : post (some (.int (jv_i n))) h) : jv_Ct yX5_size cX5_size 1 (some .int) K [.ref 15] h post := by
  obtain ⟨w1, w2⟩ := w
  refine jv_entry (own := RX5) (by decide) rfl (Nat.le_of_ble_eq_true rfl) (fun X hq => ?_)
  refine jv_aload_n dX5_size_0 rfl ?_
  refine jv_getf dX5_size_1 jf_X5_15 (by repeat' (first | assumption | exact ⟨_, by assumption⟩ | refine jv_h1 (by decide) ?_ | refine jv_h0 ?_ | refine jv_h1 (by omega) ?_ | refine jv_hs ?_)) (by exact rfl) ?_
  exact jv_iret dX5_size_4 hq (hp) (by first | rfl | decide)
theorem ct_X5_position (K : Nat) (w : jw_S h n a sg) (hp : post (some (.int (jv_i a))) h) : jv_Ct yX5_position cX5_position 1 (some .int) K [.ref 15] h post := by
  obtain ⟨w1, w2⟩ := w
  refine jv_entry (own := RX5) (by decide) rfl (Nat.le_of_ble_eq_true rfl) (fun X hq => ?_)
  refine jv_aload_n dX5_position_0 rfl ?_
  refine jv_getf dX5_position_1 jf_X5_19 (by repeat' (first | assumption | exact ⟨_, by assumption⟩ | refine jv_h1 (by decide) ?_ | refine jv_h0 ?_ | refine jv_h1 (by omega) ?_ | refine jv_hs ?_)) (by exact rfl) ?_
  exact jv_iret dX5_position_4 hq (hp) (by first | rfl | decide)
theorem ct_X5_clear (K : Nat) (w : jw_S h n a sg) (hp : ∀ h', jw_S h' 0 a sg → jv_fr 15 16 h h' → post none h') : jv_Ct yX5_clear cX5_clear 1 none K [.ref 15] h post := by
  obtain ⟨w1, w2⟩ := w
  refine jv_entry (own := RX5) (by decide) rfl (Nat.le_of_ble_eq_true rfl) (fun X hq => ?_)
  refine jv_aload_n dX5_clear_0 rfl ?_
  refine jv_iconst dX5_clear_1 ?_
  refine jv_putf dX5_clear_2 jp_X5_15 (by repeat' (first | assumption | exact ⟨_, by assumption⟩ | refine jv_h1 (by decide) ?_ | refine jv_h0 ?_ | refine jv_h1 (by omega) ?_ | refine jv_hs ?_)) (by exact Nat.le_of_ble_eq_true rfl) ?_
  exact jv_vret dX5_clear_5 hq (hp _ ⟨(by repeat' (first | assumption | exact ⟨_, by assumption⟩ | refine jv_h1 (by decide) ?_ | refine jv_h0 ?_ | refine jv_h1 (by omega) ?_ | refine jv_hs ?_)), (by repeat' (first | assumption | exact ⟨_, by assumption⟩ | refine jv_h1 (by decide) ?_ | refine jv_h0 ?_ | refine jv_h1 (by omega) ?_ | refine jv_hs ?_))⟩ (jv_fr_set (by omega) jv_fr_rf))
theorem ct_X5_collect {c : Int} (K : Nat) (w : jw_S h n a sg) (hS : jq_S n sg) (hc : 0 ≤ c ∧ c ≤ 126) (hp1 : n < 300 → ∀ h', jw_S h' (n + 1) a (jv_up sg n c) → jv_fr 15 16 h h' → post (some (.int (jv_i 1))) h') (hp2 : ¬ n < 300 → post (some (.int (jv_i 0))) h) : jv_Ct yX5_collect cX5_collect 2 (some .boolean) K [.ref 15, .int (jv_i c)] h post := by
  obtain ⟨w1, w2⟩ := w
  have hn := hS.1
  refine jv_entry (own := RX5) (by decide) rfl (Nat.le_of_ble_eq_true rfl) (fun X hq => ?_)
  refine jv_aload_n dX5_collect_0 rfl ?_
  refine jv_getf dX5_collect_1 jf_X5_15 (by repeat' (first | assumption | exact ⟨_, by assumption⟩ | refine jv_h1 (by decide) ?_ | refine jv_h0 ?_ | refine jv_h1 (by omega) ?_ | refine jv_hs ?_)) (by exact rfl) ?_
  refine jv_sipush dX5_collect_4 ?_
  refine jv_icmp_lt 12 dX5_collect_7 (fun c7 => ?_) (fun c7 => ?_)
  · refine jv_aload_n dX5_collect_12 rfl ?_
    refine jv_getf dX5_collect_13 jf_X5_9 (by repeat' (first | assumption | exact ⟨_, by assumption⟩ | refine jv_h1 (by decide) ?_ | refine jv_h0 ?_ | refine jv_h1 (by omega) ?_ | refine jv_hs ?_)) (by exact rfl) ?_
    refine jv_aload_n dX5_collect_16 rfl ?_
    refine jv_getf dX5_collect_17 jf_X5_15 (by repeat' (first | assumption | exact ⟨_, by assumption⟩ | refine jv_h1 (by decide) ?_ | refine jv_h0 ?_ | refine jv_h1 (by omega) ?_ | refine jv_hs ?_)) (by exact rfl) ?_
    refine jv_iload_n dX5_collect_20 rfl ?_
    refine jv_cast dX5_collect_21 (by repeat' (first | assumption | exact ⟨_, by assumption⟩ | refine jv_h1 (by decide) ?_ | refine jv_h0 ?_ | refine jv_h1 (by omega) ?_ | refine jv_hs ?_)) ?_
    refine jv_aload_n dX5_collect_22 rfl ?_
    refine jv_dup dX5_collect_23 rfl ?_
    refine jv_getf dX5_collect_24 jf_X5_15 (by repeat' (first | assumption | exact ⟨_, by assumption⟩ | refine jv_h1 (by decide) ?_ | refine jv_h0 ?_ | refine jv_h1 (by omega) ?_ | refine jv_hs ?_)) (by exact rfl) ?_
    refine jv_iconst dX5_collect_27 ?_
    refine jv_iadd dX5_collect_28 ?_
    refine jv_putf dX5_collect_29 jp_X5_15 (by repeat' (first | assumption | exact ⟨_, by assumption⟩ | refine jv_h1 (by decide) ?_ | refine jv_h0 ?_ | refine jv_h1 (by omega) ?_ | refine jv_hs ?_)) (by exact Nat.le_of_ble_eq_true rfl) ?_
    refine jv_iconst dX5_collect_32 ?_
    exact jv_iret dX5_collect_33 hq (hp1 (by omega) _ ⟨(by repeat' (first | assumption | exact ⟨_, by assumption⟩ | refine jv_h1 (by decide) ?_ | refine jv_h0 ?_ | refine jv_h1 (by omega) ?_ | refine jv_hs ?_)), (by repeat' (first | assumption | exact ⟨_, by assumption⟩ | refine jv_h1 (by decide) ?_ | refine jv_h0 ?_ | refine jv_h1 (by omega) ?_ | refine jv_hs ?_))⟩ (jv_fr_set (by omega) (jv_fr_set (by omega) jv_fr_rf))) (by first | rfl | decide)
  · refine jv_iconst dX5_collect_10 ?_
    exact jv_iret dX5_collect_11 hq (hp2 (by omega)) (by decide)
def jq_okU (n u : Int) : Prop := (32 ≤ u ∧ u ≤ 126) ∧ n < 300
theorem ct_X7_unit {u : Int} (K : Nat) (b : jw_B h t0 d0) (w : jw_S h n a sg) (hS : jq_S n sg) (hu : jq_rg u) (hp1 : jq_okU n u → ∀ h', jw_S h' (n + 1) a (jv_up sg n u) → jv_fr 15 16 h h' → post (some (.int (jv_i 1))) h') (hp2 : ¬ jq_okU n u → post (some (.int (jv_i 0))) h) : jv_Ct yX7_unit cX7_unit 2 (some .boolean) (K + 1) [.ref 0, .int (jv_i u)] h post := by
  unfold jw_B at b
  have w1 := w.1
  unfold jq_rg at hu
  unfold jq_okU at hp1 hp2
  refine jv_entry (own := RX7) (by decide) rfl (Nat.le_of_ble_eq_true rfl) (fun X hq => ?_)
  refine jv_iload_n dX7_unit_0 rfl ?_
  refine jv_i2l dX7_unit_1 ?_
  refine jv_ldc2 dX7_unit_2 jk_X7_125 ?_
  refine jv_ldc2 dX7_unit_5 jk_X7_127 ?_
  refine jv_cS dX7_unit_8 jm_X7_63 (ct_X7_within K (fun r q1 q2 q3 => ?_))
  refine jv_if_eq 30 dX7_unit_11 (fun c11 => ?_) (fun c11 => ?_)
  · refine jv_iconst dX7_unit_30 ?_
    exact jv_iret dX7_unit_31 hq (hp2 (by omega)) (by first | rfl | decide)
  · refine jv_aload_n dX7_unit_14 rfl ?_
    refine jv_getf dX7_unit_15 jf_X7_33 (by repeat' (first | assumption | exact ⟨_, by assumption⟩ | refine jv_h1 (by decide) ?_ | refine jv_h0 ?_ | refine jv_h1 (by omega) ?_ | refine jv_hs ?_)) (by exact rfl) ?_
    refine jv_iload_n dX7_unit_18 rfl ?_
    refine jv_i2c dX7_unit_19 ?_
    refine jv_cV dX7_unit_20 jm_X7_129 rfl (by repeat' (first | assumption | exact ⟨_, by assumption⟩ | refine jv_h1 (by decide) ?_ | refine jv_h0 ?_ | refine jv_h1 (by omega) ?_ | refine jv_hs ?_)) rfl (ct_X5_collect K w hS (by omega) (fun q h' w' fr => ?_) (fun q => ?_))
    · refine jv_if_eq 30 dX7_unit_23 (fun c => absurd c (by omega)) (fun c => ?_)
      refine jv_iconst dX7_unit_26 ?_
      refine jv_goto 31 dX7_unit_27 ?_
      exact jv_iret dX7_unit_31 hq (hp1 (by omega) h' w' fr) (by decide)
    · refine jv_if_eq 30 dX7_unit_23 (fun c => ?_) (fun c => absurd rfl c)
      refine jv_iconst dX7_unit_30 ?_
      exact jv_iret dX7_unit_31 hq (hp2 (by omega)) (by decide)
/-- the next sign that is no blank -/
theorem ct_X5_toNextSign (K : Nat) (w : jw_S h n a sg) (hS : jq_S n sg) (ha : 0 ≤ a ∧ a ≤ n) (hp : ∀ h', jw_S h' n (jq_sK sg n a) sg → jv_fr 15 16 h h' → post (some (.int (jv_i (jq_sn sg n (jq_sK sg n a))))) h') : jv_Ct yX5_toNextSign cX5_toNextSign 1 (some .char) K [.ref 15] h post := by
  have hn := hS.1
  refine jv_entry (own := RX5) (by decide) rfl (Nat.le_of_ble_eq_true rfl) (fun X hq => ?_)
  have fin : ∀ (a1 : Int) (h1 : List jv_E), 0 ≤ a1 ∧ a1 ≤ n → a1 = jq_sK sg n a → jw_S h1 n a1 sg → jv_fr 15 16 h h1 → jv_J X cX5_toNextSign RX5 K 38 [some (.ref 15)] [] h1 := by
    intro a1 h1 ha1 e w fr
    have hp := hp h1 (e ▸ w) fr
    rw [← e] at hp
    unfold jq_sn at hp
    obtain ⟨w1, w2⟩ := w
    have s1 := hS.2 a1
    refine jv_aload_n dX5_toNextSign_38 rfl ?_
    refine jv_getf dX5_toNextSign_39 jf_X5_19 (by repeat' (first | assumption | exact ⟨_, by assumption⟩ | refine jv_h1 (by decide) ?_ | refine jv_h0 ?_ | refine jv_h1 (by omega) ?_ | refine jv_hs ?_)) (by exact rfl) ?_
    refine jv_aload_n dX5_toNextSign_42 rfl ?_
    refine jv_getf dX5_toNextSign_43 jf_X5_15 (by repeat' (first | assumption | exact ⟨_, by assumption⟩ | refine jv_h1 (by decide) ?_ | refine jv_h0 ?_ | refine jv_h1 (by omega) ?_ | refine jv_hs ?_)) (by exact rfl) ?_
    refine jv_icmp_ge 61 dX5_toNextSign_46 (fun c46 => ?_) (fun c46 => ?_)
    · refine jv_iconst dX5_toNextSign_61 ?_
      exact jv_iret dX5_toNextSign_62 hq (by rw [if_neg (by omega)] at hp; exact hp) (by decide)
    · refine jv_aload_n dX5_toNextSign_49 rfl ?_
      refine jv_getf dX5_toNextSign_50 jf_X5_9 (by repeat' (first | assumption | exact ⟨_, by assumption⟩ | refine jv_h1 (by decide) ?_ | refine jv_h0 ?_ | refine jv_h1 (by omega) ?_ | refine jv_hs ?_)) (by exact rfl) ?_
      refine jv_aload_n dX5_toNextSign_53 rfl ?_
      refine jv_getf dX5_toNextSign_54 jf_X5_19 (by repeat' (first | assumption | exact ⟨_, by assumption⟩ | refine jv_h1 (by decide) ?_ | refine jv_h0 ?_ | refine jv_h1 (by omega) ?_ | refine jv_hs ?_)) (by exact rfl) ?_
      refine jv_cald dX5_toNextSign_57 (by repeat' (first | assumption | exact ⟨_, by assumption⟩ | refine jv_h1 (by decide) ?_ | refine jv_h0 ?_ | refine jv_h1 (by omega) ?_ | refine jv_hs ?_)) ?_
      refine jv_goto 62 dX5_toNextSign_58 ?_
      exact jv_iret dX5_toNextSign_62 hq (by rw [if_pos c46] at hp; exact hp) (jv_narc (by omega))
  have loop : ∀ (f : Nat) (a1 : Int) (h1 : List jv_E), 0 ≤ a1 ∧ a1 ≤ n → n ≤ a1 + f → jq_sk sg n f a1 = jq_sK sg n a → jw_S h1 n a1 sg → jv_fr 15 16 h h1 → jv_J X cX5_toNextSign RX5 K 0 [some (.ref 15)] [] h1 := by
    intro f
    induction f with
    | zero =>
      intro a1 h1 ha1 hf e w fr
      have ff := fin a1 h1 ha1 e w fr
      obtain ⟨w1, w2⟩ := w
      refine jv_aload_n dX5_toNextSign_0 rfl ?_
      refine jv_getf dX5_toNextSign_1 jf_X5_19 (by repeat' (first | assumption | exact ⟨_, by assumption⟩ | refine jv_h1 (by decide) ?_ | refine jv_h0 ?_ | refine jv_h1 (by omega) ?_ | refine jv_hs ?_)) (by exact rfl) ?_
      refine jv_aload_n dX5_toNextSign_4 rfl ?_
      refine jv_getf dX5_toNextSign_5 jf_X5_15 (by repeat' (first | assumption | exact ⟨_, by assumption⟩ | refine jv_h1 (by decide) ?_ | refine jv_h0 ?_ | refine jv_h1 (by omega) ?_ | refine jv_hs ?_)) (by exact rfl) ?_
      refine jv_icmp_ge 38 dX5_toNextSign_8 (fun c8 => ?_) (fun c8 => ?_)
      · exact ff
      · exact absurd c8 (by omega)
    | succ f ih =>
      intro a1 h1 ha1 hf e w fr
      rw [jq_sk] at e
      have ff := fun e => fin a1 h1 ha1 e w fr
      obtain ⟨w1, w2⟩ := w
      have s1 := hS.2 a1
      refine jv_aload_n dX5_toNextSign_0 rfl ?_
      refine jv_getf dX5_toNextSign_1 jf_X5_19 (by repeat' (first | assumption | exact ⟨_, by assumption⟩ | refine jv_h1 (by decide) ?_ | refine jv_h0 ?_ | refine jv_h1 (by omega) ?_ | refine jv_hs ?_)) (by exact rfl) ?_
      refine jv_aload_n dX5_toNextSign_4 rfl ?_
      refine jv_getf dX5_toNextSign_5 jf_X5_15 (by repeat' (first | assumption | exact ⟨_, by assumption⟩ | refine jv_h1 (by decide) ?_ | refine jv_h0 ?_ | refine jv_h1 (by omega) ?_ | refine jv_hs ?_)) (by exact rfl) ?_
      refine jv_icmp_ge 38 dX5_toNextSign_8 (fun c8 => ?_) (fun c8 => ?_)
      · exact ff (by rwa [if_neg (by omega)] at e)
      · refine jv_aload_n dX5_toNextSign_11 rfl ?_
        refine jv_getf dX5_toNextSign_12 jf_X5_9 (by repeat' (first | assumption | exact ⟨_, by assumption⟩ | refine jv_h1 (by decide) ?_ | refine jv_h0 ?_ | refine jv_h1 (by omega) ?_ | refine jv_hs ?_)) (by exact rfl) ?_
        refine jv_aload_n dX5_toNextSign_15 rfl ?_
        refine jv_getf dX5_toNextSign_16 jf_X5_19 (by repeat' (first | assumption | exact ⟨_, by assumption⟩ | refine jv_h1 (by decide) ?_ | refine jv_h0 ?_ | refine jv_h1 (by omega) ?_ | refine jv_hs ?_)) (by exact rfl) ?_
        refine jv_cald dX5_toNextSign_19 (by repeat' (first | assumption | exact ⟨_, by assumption⟩ | refine jv_h1 (by decide) ?_ | refine jv_h0 ?_ | refine jv_h1 (by omega) ?_ | refine jv_hs ?_)) ?_
        refine jv_bipush dX5_toNextSign_20 ?_
        refine jv_icmp_ne 38 dX5_toNextSign_22 (fun c22 => ?_) (fun c22 => ?_)
        · exact ff (by rwa [if_neg (by omega)] at e)
        · refine jv_aload_n dX5_toNextSign_25 rfl ?_
          refine jv_dup dX5_toNextSign_26 rfl ?_
          refine jv_getf dX5_toNextSign_27 jf_X5_19 (by repeat' (first | assumption | exact ⟨_, by assumption⟩ | refine jv_h1 (by decide) ?_ | refine jv_h0 ?_ | refine jv_h1 (by omega) ?_ | refine jv_hs ?_)) (by exact rfl) ?_
          refine jv_iconst dX5_toNextSign_30 ?_
          refine jv_iadd dX5_toNextSign_31 ?_
          refine jv_putf dX5_toNextSign_32 jp_X5_19 (by repeat' (first | assumption | exact ⟨_, by assumption⟩ | refine jv_h1 (by decide) ?_ | refine jv_h0 ?_ | refine jv_h1 (by omega) ?_ | refine jv_hs ?_)) (by exact Nat.le_of_ble_eq_true rfl) ?_
          refine jv_goto 0 dX5_toNextSign_35 ?_
          exact ih (a1 + 1) _ (by omega) (by omega) (by rwa [if_pos (by omega)] at e) ⟨(by repeat' (first | assumption | exact ⟨_, by assumption⟩ | refine jv_h1 (by decide) ?_ | refine jv_h0 ?_ | refine jv_h1 (by omega) ?_ | refine jv_hs ?_)), (by repeat' (first | assumption | exact ⟨_, by assumption⟩ | refine jv_h1 (by decide) ?_ | refine jv_h0 ?_ | refine jv_h1 (by omega) ?_ | refine jv_hs ?_))⟩ (jv_fr_set (by omega) fr)
  exact loop 300 a h ha (by omega) rfl w jv_fr_rf
theorem ct_X5_standAtOneTooMany (K : Nat) (w : jw_S h n a sg) (hS : jq_S n sg) (ha : 0 ≤ a ∧ a ≤ n) (hp : ∀ h', jw_S h' n (jq_sK sg n a) sg → jv_fr 15 16 h h' → post (some (.int (jv_i 0))) h') : jv_Ct yX5_standAtOneTooMany cX5_standAtOneTooMany 1 (some .boolean) (K + 1) [.ref 15] h post := by
  have w1 := w.1
  refine jv_entry (own := RX5) (by decide) rfl (Nat.le_of_ble_eq_true rfl) (fun X hq => ?_)
  refine jv_aload_n dX5_standAtOneTooMany_0 rfl ?_
  refine jv_cV dX5_standAtOneTooMany_1 jm_X5_34 rfl (by repeat' (first | assumption | exact ⟨_, by assumption⟩ | refine jv_h1 (by decide) ?_ | refine jv_h0 ?_ | refine jv_h1 (by omega) ?_ | refine jv_hs ?_)) rfl (ct_X5_toNextSign K w hS ha (fun h' w' fr => ?_))
  refine jv_pop dX5_standAtOneTooMany_4 rfl ?_
  refine jv_iconst dX5_standAtOneTooMany_5 ?_
  exact jv_iret dX5_standAtOneTooMany_6 hq (hp h' w' fr) (by first | rfl | decide)
end SG
section MS
variable {h : List jv_E} {rr lv cu n st a wr da ra wa : Int} {sg : Int → Int} {post : Option Value → List jv_E → Prop}
theorem ct_X8_unit {u : Int} (K : Nat) (o : jw_O h rr lv cu n st a wr da ra wa) (w : h[104]? = some (jv_ai 300 sg)) (hS : jq_S n sg) (hu : jq_rg u) (hp1 : jq_okU n u → ∀ h', jw_O h' rr lv cu (n + 1) st a wr da ra wa → h'[104]? = some (jv_ai 300 (jv_up sg n u)) → jv_fs [97, 104] h h' → post (some (.int (jv_i 1))) h') (hp2 : ¬ jq_okU n u → post (some (.int (jv_i 0))) h) : jv_Ct yX8_unit cX8_unit 2 (some .boolean) (K + 1) [.ref 97, .int (jv_i u)] h post := by
  unfold jw_O at o
  have hn := hS.1
  unfold jq_rg at hu
  unfold jq_okU at hp1 hp2
  refine jv_entry (own := RX8) (by decide) rfl (Nat.le_of_ble_eq_true rfl) (fun X hq => ?_)
  refine jv_iload_n dX8_unit_0 rfl ?_
  refine jv_i2l dX8_unit_1 ?_
  refine jv_ldc2 dX8_unit_2 jk_X8_116 ?_
  refine jv_ldc2 dX8_unit_5 jk_X8_118 ?_
  refine jv_cS dX8_unit_8 jm_X8_64 (ct_X8_in K (fun r q1 q2 q3 => ?_))
  refine jv_if_eq 24 dX8_unit_11 (fun c11 => ?_) (fun c11 => ?_)
  · refine jv_iconst dX8_unit_24 ?_
    exact jv_iret dX8_unit_25 hq (hp2 (by omega)) (by decide)
  · refine jv_aload_n dX8_unit_14 rfl ?_
    refine jv_getf dX8_unit_15 jf_X8_120 (by repeat' (first | assumption | exact ⟨_, by assumption⟩ | refine jv_h1 (by decide) ?_ | refine jv_h0 ?_ | refine jv_h1 (by omega) ?_ | refine jv_hs ?_)) (by exact rfl) ?_
    refine jv_sipush dX8_unit_18 ?_
    refine jv_icmp_ne 26 dX8_unit_21 (fun c21 => ?_) (fun c21 => ?_)
    · refine jv_aload_n dX8_unit_26 rfl ?_
      refine jv_getf dX8_unit_27 jf_X8_28 (by repeat' (first | assumption | exact ⟨_, by assumption⟩ | refine jv_h1 (by decide) ?_ | refine jv_h0 ?_ | refine jv_h1 (by omega) ?_ | refine jv_hs ?_)) (by exact rfl) ?_
      refine jv_aload_n dX8_unit_30 rfl ?_
      refine jv_getf dX8_unit_31 jf_X8_120 (by repeat' (first | assumption | exact ⟨_, by assumption⟩ | refine jv_h1 (by decide) ?_ | refine jv_h0 ?_ | refine jv_h1 (by omega) ?_ | refine jv_hs ?_)) (by exact rfl) ?_
      refine jv_iload_n dX8_unit_34 rfl ?_
      refine jv_iast dX8_unit_35 (by repeat' (first | assumption | exact ⟨_, by assumption⟩ | refine jv_h1 (by decide) ?_ | refine jv_h0 ?_ | refine jv_h1 (by omega) ?_ | refine jv_hs ?_)) ?_
      refine jv_aload_n dX8_unit_36 rfl ?_
      refine jv_dup dX8_unit_37 rfl ?_
      refine jv_getf dX8_unit_38 jf_X8_120 (by repeat' (first | assumption | exact ⟨_, by assumption⟩ | refine jv_h1 (by decide) ?_ | refine jv_h0 ?_ | refine jv_h1 (by omega) ?_ | refine jv_hs ?_)) (by exact rfl) ?_
      refine jv_iconst dX8_unit_41 ?_
      refine jv_iadd dX8_unit_42 ?_
      refine jv_putf dX8_unit_43 jp_X8_120 (by repeat' (first | assumption | exact ⟨_, by assumption⟩ | refine jv_h1 (by decide) ?_ | refine jv_h0 ?_ | refine jv_h1 (by omega) ?_ | refine jv_hs ?_)) (by exact Nat.le_of_ble_eq_true rfl) ?_
      refine jv_iconst dX8_unit_46 ?_
      exact jv_iret dX8_unit_47 hq (hp1 (by omega) _ (by repeat' (first | assumption | exact ⟨_, by assumption⟩ | refine jv_h1 (by decide) ?_ | refine jv_h0 ?_ | refine jv_h1 (by omega) ?_ | refine jv_hs ?_)) (by repeat' (first | assumption | exact ⟨_, by assumption⟩ | refine jv_h1 (by decide) ?_ | refine jv_h0 ?_ | refine jv_h1 (by omega) ?_ | refine jv_hs ?_)) (jv_fs_set (by decide) (jv_fs_set (by decide) jv_fs_rf))) (by first | rfl | decide)
    · refine jv_iconst dX8_unit_24 ?_
      exact jv_iret dX8_unit_25 hq (hp2 (by omega)) (by decide)
theorem ct_X8_look (K : Nat) (o : jw_O h rr lv cu n st a wr da ra wa) (w : h[104]? = some (jv_ai 300 sg)) (hS : jq_S n sg) (ha : 0 ≤ a ∧ a ≤ n) (hp : ∀ h', jw_O h' rr lv cu n st (jq_sK sg n a) wr da ra wa → jv_fs [97] h h' → post (some (.int (jv_i (jq_sn sg n (jq_sK sg n a))))) h') : jv_Ct yX8_look cX8_look 1 (some .int) K [.ref 97] h post := by
  have hn := hS.1
  refine jv_entry (own := RX8) (by decide) rfl (Nat.le_of_ble_eq_true rfl) (fun X hq => ?_)
  have fin : ∀ (a1 : Int) (h1 : List jv_E), 0 ≤ a1 ∧ a1 ≤ n → a1 = jq_sK sg n a → jw_O h1 rr lv cu n st a1 wr da ra wa → h1[104]? = some (jv_ai 300 sg) → jv_fs [97] h h1 → jv_J X cX8_look RX8 K 38 [some (.ref 97)] [] h1 := by
    intro a1 h1 ha1 e o w fr
    have hp := hp h1 (e ▸ o) fr
    rw [← e] at hp
    unfold jq_sn at hp
    unfold jw_O at o
    refine jv_aload_n dX8_look_38 rfl ?_
    refine jv_getf dX8_look_39 jf_X8_123 (by repeat' (first | assumption | exact ⟨_, by assumption⟩ | refine jv_h1 (by decide) ?_ | refine jv_h0 ?_ | refine jv_h1 (by omega) ?_ | refine jv_hs ?_)) (by exact rfl) ?_
    refine jv_aload_n dX8_look_42 rfl ?_
    refine jv_getf dX8_look_43 jf_X8_120 (by repeat' (first | assumption | exact ⟨_, by assumption⟩ | refine jv_h1 (by decide) ?_ | refine jv_h0 ?_ | refine jv_h1 (by omega) ?_ | refine jv_hs ?_)) (by exact rfl) ?_
    refine jv_icmp_ge 61 dX8_look_46 (fun c46 => ?_) (fun c46 => ?_)
    · refine jv_iconst dX8_look_61 ?_
      exact jv_iret dX8_look_62 hq (by rw [if_neg (by omega)] at hp; exact hp)
    · refine jv_aload_n dX8_look_49 rfl ?_
      refine jv_getf dX8_look_50 jf_X8_28 (by repeat' (first | assumption | exact ⟨_, by assumption⟩ | refine jv_h1 (by decide) ?_ | refine jv_h0 ?_ | refine jv_h1 (by omega) ?_ | refine jv_hs ?_)) (by exact rfl) ?_
      refine jv_aload_n dX8_look_53 rfl ?_
      refine jv_getf dX8_look_54 jf_X8_123 (by repeat' (first | assumption | exact ⟨_, by assumption⟩ | refine jv_h1 (by decide) ?_ | refine jv_h0 ?_ | refine jv_h1 (by omega) ?_ | refine jv_hs ?_)) (by exact rfl) ?_
      refine jv_iald dX8_look_57 (by repeat' (first | assumption | exact ⟨_, by assumption⟩ | refine jv_h1 (by decide) ?_ | refine jv_h0 ?_ | refine jv_h1 (by omega) ?_ | refine jv_hs ?_)) ?_
      refine jv_goto 62 dX8_look_58 ?_
      exact jv_iret dX8_look_62 hq (by rw [if_pos c46] at hp; exact hp)
  have loop : ∀ (f : Nat) (a1 : Int) (h1 : List jv_E), 0 ≤ a1 ∧ a1 ≤ n → n ≤ a1 + f → jq_sk sg n f a1 = jq_sK sg n a → jw_O h1 rr lv cu n st a1 wr da ra wa → h1[104]? = some (jv_ai 300 sg) → jv_fs [97] h h1 → jv_J X cX8_look RX8 K 0 [some (.ref 97)] [] h1 := by
    intro f
    induction f with
    | zero =>
      intro a1 h1 ha1 hf e o w fr
      have ff := fin a1 h1 ha1 e o w fr
      unfold jw_O at o
      refine jv_aload_n dX8_look_0 rfl ?_
      refine jv_getf dX8_look_1 jf_X8_123 (by repeat' (first | assumption | exact ⟨_, by assumption⟩ | refine jv_h1 (by decide) ?_ | refine jv_h0 ?_ | refine jv_h1 (by omega) ?_ | refine jv_hs ?_)) (by exact rfl) ?_
      refine jv_aload_n dX8_look_4 rfl ?_
      refine jv_getf dX8_look_5 jf_X8_120 (by repeat' (first | assumption | exact ⟨_, by assumption⟩ | refine jv_h1 (by decide) ?_ | refine jv_h0 ?_ | refine jv_h1 (by omega) ?_ | refine jv_hs ?_)) (by exact rfl) ?_
      refine jv_icmp_ge 38 dX8_look_8 (fun c8 => ?_) (fun c8 => ?_)
      · exact ff
      · exact absurd c8 (by omega)
    | succ f ih =>
      intro a1 h1 ha1 hf e o w fr
      rw [jq_sk] at e
      have ff := fun e => fin a1 h1 ha1 e o w fr
      unfold jw_O at o
      have s1 := hS.2 a1
      refine jv_aload_n dX8_look_0 rfl ?_
      refine jv_getf dX8_look_1 jf_X8_123 (by repeat' (first | assumption | exact ⟨_, by assumption⟩ | refine jv_h1 (by decide) ?_ | refine jv_h0 ?_ | refine jv_h1 (by omega) ?_ | refine jv_hs ?_)) (by exact rfl) ?_
      refine jv_aload_n dX8_look_4 rfl ?_
      refine jv_getf dX8_look_5 jf_X8_120 (by repeat' (first | assumption | exact ⟨_, by assumption⟩ | refine jv_h1 (by decide) ?_ | refine jv_h0 ?_ | refine jv_h1 (by omega) ?_ | refine jv_hs ?_)) (by exact rfl) ?_
      refine jv_icmp_ge 38 dX8_look_8 (fun c8 => ?_) (fun c8 => ?_)
      · exact ff (by rwa [if_neg (by omega)] at e)
      · refine jv_aload_n dX8_look_11 rfl ?_
        refine jv_getf dX8_look_12 jf_X8_28 (by repeat' (first | assumption | exact ⟨_, by assumption⟩ | refine jv_h1 (by decide) ?_ | refine jv_h0 ?_ | refine jv_h1 (by omega) ?_ | refine jv_hs ?_)) (by exact rfl) ?_
        refine jv_aload_n dX8_look_15 rfl ?_
        refine jv_getf dX8_look_16 jf_X8_123 (by repeat' (first | assumption | exact ⟨_, by assumption⟩ | refine jv_h1 (by decide) ?_ | refine jv_h0 ?_ | refine jv_h1 (by omega) ?_ | refine jv_hs ?_)) (by exact rfl) ?_
        refine jv_iald dX8_look_19 (by repeat' (first | assumption | exact ⟨_, by assumption⟩ | refine jv_h1 (by decide) ?_ | refine jv_h0 ?_ | refine jv_h1 (by omega) ?_ | refine jv_hs ?_)) ?_
        refine jv_bipush dX8_look_20 ?_
        refine jv_icmp_ne 38 dX8_look_22 (fun c22 => ?_) (fun c22 => ?_)
        · exact ff (by rwa [if_neg (by omega)] at e)
        · refine jv_aload_n dX8_look_25 rfl ?_
          refine jv_dup dX8_look_26 rfl ?_
          refine jv_getf dX8_look_27 jf_X8_123 (by repeat' (first | assumption | exact ⟨_, by assumption⟩ | refine jv_h1 (by decide) ?_ | refine jv_h0 ?_ | refine jv_h1 (by omega) ?_ | refine jv_hs ?_)) (by exact rfl) ?_
          refine jv_iconst dX8_look_30 ?_
          refine jv_iadd dX8_look_31 ?_
          refine jv_putf dX8_look_32 jp_X8_123 (by repeat' (first | assumption | exact ⟨_, by assumption⟩ | refine jv_h1 (by decide) ?_ | refine jv_h0 ?_ | refine jv_h1 (by omega) ?_ | refine jv_hs ?_)) (by exact Nat.le_of_ble_eq_true rfl) ?_
          refine jv_goto 0 dX8_look_35 ?_
          exact ih (a1 + 1) _ (by omega) (by omega) (by rwa [if_pos (by omega)] at e) (by repeat' (first | assumption | exact ⟨_, by assumption⟩ | refine jv_h1 (by decide) ?_ | refine jv_h0 ?_ | refine jv_h1 (by omega) ?_ | refine jv_hs ?_)) (by repeat' (first | assumption | exact ⟨_, by assumption⟩ | refine jv_h1 (by decide) ?_ | refine jv_h0 ?_ | refine jv_h1 (by omega) ?_ | refine jv_hs ?_)) (jv_fs_set (by decide) fr)
  exact loop 300 a h ha (by omega) rfl o w jv_fs_rf
def jq_il (c : Int) : Prop := c = 104 ∨ c = 116 ∨ c = 119 ∨ c = 100 ∨ c = 108 ∨ c = 102 ∨ c = 113
theorem ct_X8_isLetter {c : Int} (K : Nat) (hc : 0 ≤ c ∧ c ≤ 126) (hp : ∀ r : Int, (jq_il c → r = 1) → (¬ jq_il c → r = 0) → 0 ≤ r ∧ r ≤ 1 → post (some (.int (jv_i r))) h) : jv_Ct yX8_isLetter cX8_isLetter 1 (some .boolean) K [.int (jv_i c)] h post := by
  unfold jq_il at hp
  refine jv_entry (own := RX8) (by decide) rfl (Nat.le_of_ble_eq_true rfl) (fun X hq => ?_)
  refine jv_iload_n dX8_isLetter_0 rfl ?_
  refine jv_bipush dX8_isLetter_1 ?_
  refine jv_icmp_eq 42 dX8_isLetter_3 (fun c3 => ?_) (fun c3 => ?_)
  · refine jv_iconst dX8_isLetter_42 ?_
    refine jv_goto 47 dX8_isLetter_43 ?_
    exact jv_iret dX8_isLetter_47 hq (hp _ (by omega) (by omega) (by omega)) (by first | rfl | decide)
  · refine jv_iload_n dX8_isLetter_6 rfl ?_
    refine jv_bipush dX8_isLetter_7 ?_
    refine jv_icmp_eq 42 dX8_isLetter_9 (fun c9 => ?_) (fun c9 => ?_)
    · refine jv_iconst dX8_isLetter_42 ?_
      refine jv_goto 47 dX8_isLetter_43 ?_
      exact jv_iret dX8_isLetter_47 hq (hp _ (by omega) (by omega) (by omega)) (by first | rfl | decide)
    · refine jv_iload_n dX8_isLetter_12 rfl ?_
      refine jv_bipush dX8_isLetter_13 ?_
      refine jv_icmp_eq 42 dX8_isLetter_15 (fun c15 => ?_) (fun c15 => ?_)
      · refine jv_iconst dX8_isLetter_42 ?_
        refine jv_goto 47 dX8_isLetter_43 ?_
        exact jv_iret dX8_isLetter_47 hq (hp _ (by omega) (by omega) (by omega)) (by first | rfl | decide)
      · refine jv_iload_n dX8_isLetter_18 rfl ?_
        refine jv_bipush dX8_isLetter_19 ?_
        refine jv_icmp_eq 42 dX8_isLetter_21 (fun c21 => ?_) (fun c21 => ?_)
        · refine jv_iconst dX8_isLetter_42 ?_
          refine jv_goto 47 dX8_isLetter_43 ?_
          exact jv_iret dX8_isLetter_47 hq (hp _ (by omega) (by omega) (by omega)) (by first | rfl | decide)
        · refine jv_iload_n dX8_isLetter_24 rfl ?_
          refine jv_bipush dX8_isLetter_25 ?_
          refine jv_icmp_eq 42 dX8_isLetter_27 (fun c27 => ?_) (fun c27 => ?_)
          · refine jv_iconst dX8_isLetter_42 ?_
            refine jv_goto 47 dX8_isLetter_43 ?_
            exact jv_iret dX8_isLetter_47 hq (hp _ (by omega) (by omega) (by omega)) (by first | rfl | decide)
          · refine jv_iload_n dX8_isLetter_30 rfl ?_
            refine jv_bipush dX8_isLetter_31 ?_
            refine jv_icmp_eq 42 dX8_isLetter_33 (fun c33 => ?_) (fun c33 => ?_)
            · refine jv_iconst dX8_isLetter_42 ?_
              refine jv_goto 47 dX8_isLetter_43 ?_
              exact jv_iret dX8_isLetter_47 hq (hp _ (by omega) (by omega) (by omega)) (by first | rfl | decide)
            · refine jv_iload_n dX8_isLetter_36 rfl ?_
              refine jv_bipush dX8_isLetter_37 ?_
              refine jv_icmp_ne 46 dX8_isLetter_39 (fun c39 => ?_) (fun c39 => ?_)
              · refine jv_iconst dX8_isLetter_46 ?_
                exact jv_iret dX8_isLetter_47 hq (hp _ (by omega) (by omega) (by omega)) (by first | rfl | decide)
              · refine jv_iconst dX8_isLetter_42 ?_
                refine jv_goto 47 dX8_isLetter_43 ?_
                exact jv_iret dX8_isLetter_47 hq (hp _ (by omega) (by omega) (by omega)) (by first | rfl | decide)
end MS
