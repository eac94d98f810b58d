/-! HEAP FACTS, then the safe way -/
theorem jv_h1 {h : List jv_E} {a b : Nat} {c e : jv_E} (hne : a ≠ b) (hh : h[a]? = some c) : (h.set b e)[a]? = some c := by
  rw [List.getElem?_set_ne (Ne.symm hne)]
  exact hh
theorem jv_h0 {h : List jv_E} {a : Nat} {e : jv_E} (hh : ∃ c, h[a]? = some c) : (h.set a e)[a]? = some e := by
  obtain ⟨c, hc⟩ := hh
  exact List.getElem?_set_self (List.getElem?_eq_some_iff.mp hc).1
theorem jv_hs {h : List jv_E} {a b : Nat} {e : jv_E} (hh : ∃ c, h[a]? = some c) : ∃ c, (h.set b e)[a]? = some c := by
  by_cases q : a = b
  · subst q
    exact ⟨_, jv_h0 hh⟩
  · obtain ⟨c, hc⟩ := hh
    exact ⟨c, jv_h1 q hc⟩
/-- nothing but places lo .. hi differs -/
def jv_fr (lo hi : Nat) (h h' : List jv_E) : Prop := ∀ i, i < lo ∨ hi < i → h'[i]? = h[i]?
theorem jv_fr_rf {lo hi : Nat} {h : List jv_E} : jv_fr lo hi h h := fun _ _ => rfl
theorem jv_fr_set {lo hi a : Nat} {h h' : List jv_E} {c : jv_E} (ha : lo ≤ a ∧ a ≤ hi) (q : jv_fr lo hi h h') : jv_fr lo hi h (h'.set a c) := fun i hi => by
  rw [List.getElem?_set_ne (by omega)]
  exact q i hi
/-- the safe way: n places, their levels f -/
def jw_W (h : List jv_E) (n : Int) (f : Int → Int) : Prop := h[95]? = some (jv_ob 4 [.ref 96, .int (jv_i n)]) ∧ h[96]? = some (jv_ai 50 f)
theorem ct_X4_size {h : List jv_E} {n : Int} {f : Int → Int} (K : Nat) {post : Option Value → List jv_E → Prop} (w : jw_W h n f) (hp : post (some (.int (jv_i n))) h) : jv_Ct yX4_size cX4_size 1 (some .int) K [.ref 95] h post := by
  obtain ⟨w1, w2⟩ := w
  refine jv_entry (own := RX4) (by decide) rfl (Nat.le_of_ble_eq_true rfl) (fun X hq => ?_)
  refine jv_aload_n dX4_size_0 rfl ?_
  refine jv_getf dX4_size_1 jf_X4_15 (by repeat' (first | assumption | exact ⟨_, by assumption⟩ | refine jv_h1 (by omega) ?_ | refine jv_h0 ?_ | refine jv_hs ?_)) (by exact rfl) ?_
  exact jv_iret dX4_size_4 hq hp
theorem ct_X4_add {h : List jv_E} {n x : Int} {f : Int → Int} (K : Nat) {post : Option Value → List jv_E → Prop} (w : jw_W h n f) (hn : 0 ≤ n ∧ n ≤ 50) (hp1 : n < 50 → ∀ h', jw_W h' (n + 1) (jv_up f n x) → jv_fr 95 96 h h' → post (some (.int (jv_i (n + 1)))) h') (hp2 : 50 ≤ n → post (some (.int (jv_i (-1)))) h) : jv_Ct yX4_add cX4_add 2 (some .int) K [.ref 95, .int (jv_i x)] h post := by
  obtain ⟨w1, w2⟩ := w
  refine jv_entry (own := RX4) (by decide) rfl (Nat.le_of_ble_eq_true rfl) (fun X hq => ?_)
  refine jv_aload_n dX4_add_0 rfl ?_
  refine jv_getf dX4_add_1 jf_X4_15 (by repeat' (first | assumption | exact ⟨_, by assumption⟩ | refine jv_h1 (by omega) ?_ | refine jv_h0 ?_ | refine jv_hs ?_)) (by exact rfl) ?_
  refine jv_bipush dX4_add_4 ?_
  refine jv_icmp_lt 11 dX4_add_6 (fun c6 => ?_) (fun c6 => ?_)
  · refine jv_aload_n dX4_add_11 rfl ?_
    refine jv_getf dX4_add_12 jf_X4_9 (by repeat' (first | assumption | exact ⟨_, by assumption⟩ | refine jv_h1 (by omega) ?_ | refine jv_h0 ?_ | refine jv_hs ?_)) (by exact rfl) ?_
    refine jv_aload_n dX4_add_15 rfl ?_
    refine jv_getf dX4_add_16 jf_X4_15 (by repeat' (first | assumption | exact ⟨_, by assumption⟩ | refine jv_h1 (by omega) ?_ | refine jv_h0 ?_ | refine jv_hs ?_)) (by exact rfl) ?_
    refine jv_iload_n dX4_add_19 rfl ?_
    refine jv_iast dX4_add_20 (by repeat' (first | assumption | exact ⟨_, by assumption⟩ | refine jv_h1 (by omega) ?_ | refine jv_h0 ?_ | refine jv_hs ?_)) ?_
    refine jv_aload_n dX4_add_21 rfl ?_
    refine jv_dup dX4_add_22 rfl ?_
    refine jv_getf dX4_add_23 jf_X4_15 (by repeat' (first | assumption | exact ⟨_, by assumption⟩ | refine jv_h1 (by omega) ?_ | refine jv_h0 ?_ | refine jv_hs ?_)) (by exact rfl) ?_
    refine jv_iconst dX4_add_26 ?_
    refine jv_iadd dX4_add_27 ?_
    refine jv_putf dX4_add_28 jp_X4_15 (by repeat' (first | assumption | exact ⟨_, by assumption⟩ | refine jv_h1 (by omega) ?_ | refine jv_h0 ?_ | refine jv_hs ?_)) (by exact Nat.le_of_ble_eq_true rfl) ?_
    refine jv_aload_n dX4_add_31 rfl ?_
    refine jv_getf dX4_add_32 jf_X4_15 (by repeat' (first | assumption | exact ⟨_, by assumption⟩ | refine jv_h1 (by omega) ?_ | refine jv_h0 ?_ | refine jv_hs ?_)) (by exact rfl) ?_
    exact jv_iret dX4_add_35 hq (hp1 c6 _ ⟨(by repeat' (first | assumption | exact ⟨_, by assumption⟩ | refine jv_h1 (by omega) ?_ | refine jv_h0 ?_ | refine jv_hs ?_)), (by repeat' (first | assumption | exact ⟨_, by assumption⟩ | refine jv_h1 (by omega) ?_ | refine jv_h0 ?_ | refine jv_hs ?_))⟩ (jv_fr_set (by omega) (jv_fr_set (by omega) jv_fr_rf)))
  · refine jv_iconst dX4_add_9 ?_
    exact jv_iret dX4_add_10 hq (hp2 c6)
/-- the first place k of i .. n - 1 that does not lie below the one before it -/
def jq_st (f : Int → Int) (n : Int) : Nat → Int → Int
  | 0, _ => -1
  | k + 1, i => if n ≤ i then -1 else if f (i - 1) ≤ f i then i else jq_st f n k (i + 1)
theorem ct_X4_firstNotBelow {h : List jv_E} {n : Int} {f : Int → Int} (K : Nat) {post : Option Value → List jv_E → Prop} (w : jw_W h n f) (hn : 0 ≤ n ∧ n ≤ 50) (hf : ∀ i, -100000 ≤ f i ∧ f i ≤ 100000) (hp : post (some (.int (jv_i (jq_st f n 50 1)))) h) : jv_Ct yX4_firstNotBelow cX4_firstNotBelow 2 (some .int) K [.ref 95] h post := by
  obtain ⟨w1, w2⟩ := w
  refine jv_entry (own := RX4) (by decide) rfl (Nat.le_of_ble_eq_true rfl) (fun X hq => ?_)
  have step : ∀ i : Int, 1 ≤ i → i ≤ 51 → (n ≤ i → post (some (.int (jv_i (-1)))) h) → (i < n → f (i - 1) ≤ f i → post (some (.int (jv_i i))) h) → (i < n → ¬ f (i - 1) ≤ f i → jv_J X cX4_firstNotBelow RX4 K 2 [some (.ref 95), some (.int (jv_i (i + 1)))] [] h) → jv_J X cX4_firstNotBelow RX4 K 2 [some (.ref 95), some (.int (jv_i i))] [] h := by
    intro i h1 h2 p1 p2 p3
    refine jv_iload_n dX4_firstNotBelow_2 rfl ?_
    refine jv_aload_n dX4_firstNotBelow_3 rfl ?_
    refine jv_getf dX4_firstNotBelow_4 jf_X4_15 (by repeat' (first | assumption | exact ⟨_, by assumption⟩ | refine jv_h1 (by omega) ?_ | refine jv_h0 ?_ | refine jv_hs ?_)) (by exact rfl) ?_
    refine jv_icmp_ge 35 dX4_firstNotBelow_7 (fun c7 => ?_) (fun c7 => ?_)
    · refine jv_iconst dX4_firstNotBelow_35 ?_
      exact jv_iret dX4_firstNotBelow_36 hq (p1 c7)
    · refine jv_aload_n dX4_firstNotBelow_10 rfl ?_
      refine jv_getf dX4_firstNotBelow_11 jf_X4_9 (by repeat' (first | assumption | exact ⟨_, by assumption⟩ | refine jv_h1 (by omega) ?_ | refine jv_h0 ?_ | refine jv_hs ?_)) (by exact rfl) ?_
      refine jv_iload_n dX4_firstNotBelow_14 rfl ?_
      refine jv_iald dX4_firstNotBelow_15 (by repeat' (first | assumption | exact ⟨_, by assumption⟩ | refine jv_h1 (by omega) ?_ | refine jv_h0 ?_ | refine jv_hs ?_)) ?_
      refine jv_aload_n dX4_firstNotBelow_16 rfl ?_
      refine jv_getf dX4_firstNotBelow_17 jf_X4_9 (by repeat' (first | assumption | exact ⟨_, by assumption⟩ | refine jv_h1 (by omega) ?_ | refine jv_h0 ?_ | refine jv_hs ?_)) (by exact rfl) ?_
      refine jv_iload_n dX4_firstNotBelow_20 rfl ?_
      refine jv_iconst dX4_firstNotBelow_21 ?_
      refine jv_isub dX4_firstNotBelow_22 ?_
      refine jv_iald dX4_firstNotBelow_23 (by repeat' (first | assumption | exact ⟨_, by assumption⟩ | refine jv_h1 (by omega) ?_ | refine jv_h0 ?_ | refine jv_hs ?_)) ?_
      have q1 := hf i
      have q2 := hf (i - 1)
      refine jv_icmp_lt 29 dX4_firstNotBelow_24 (fun c24 => ?_) (fun c24 => ?_)
      · refine jv_iinc dX4_firstNotBelow_29 rfl rfl ?_
        refine jv_goto 2 dX4_firstNotBelow_32 ?_
        exact p3 c7 (by omega)
      · refine jv_iload_n dX4_firstNotBelow_27 rfl ?_
        exact jv_iret dX4_firstNotBelow_28 hq (p2 c7 c24)
  have loop : ∀ (k : Nat) (i : Int), 1 ≤ i → n ≤ i + k → i ≤ 51 → post (some (.int (jv_i (jq_st f n k i)))) h → jv_J X cX4_firstNotBelow RX4 K 2 [some (.ref 95), some (.int (jv_i i))] [] h := by
    intro k
    induction k with
    | zero => exact fun i h1 h2 h3 hp => step i h1 h3 (fun _ => hp) (fun q => by omega) (fun q => by omega)
    | succ k ih =>
      intro i h1 h2 h3 hp
      rw [jq_st] at hp
      refine step i h1 h3 (fun q => by rwa [if_pos q] at hp) (fun q q2 => by rwa [if_neg (by omega), if_pos q2] at hp) (fun q q2 => ih (i + 1) (by omega) (by omega) (by omega) (by rwa [if_neg (by omega), if_neg q2] at hp))
  refine jv_iconst dX4_firstNotBelow_0 ?_
  refine jv_istore_n dX4_firstNotBelow_1 rfl (Nat.le_of_ble_eq_true rfl) ?_
  exact loop 50 1 (by omega) (by omega) (by omega) hp
