/-! HEAP FACTS, then the safe way -/
theorem jv_h1 {h : List jv_E} {a b : Nat} {c e : jv_E} (hne : a ≠ b) (hh : h[a]? = some c) : (h.set b e)[a]? = some c := by
  rw [List.getElem?_set_ne (Ne.symm hne)]
  exact hh
theorem jv_h0 {h : List jv_E} {a : Nat} {e : jv_E} (hh : ∃ c, h[a]? = some c) : (h.set a e)[a]? = some e := by
  obtain ⟨c, hc⟩ := hh
  exact List.getElem?_set_self (List.getElem?_eq_some_iff.mp hc).1
theorem jv_hs {h : List jv_E} {a b : Nat} {e : jv_E} (hh : ∃ c, h[a]? = some c) : ∃ c, (h.set b e)[a]? = some c := by
  by_cases q : a = b
  · subst q
    exact ⟨_, jv_h0 hh⟩
  · obtain ⟨c, hc⟩ := hh
    exact ⟨c, jv_h1 q hc⟩
/-- nothing but places lo .. hi differs -/
def jv_fr (lo hi : Nat) (h h' : List jv_E) : Prop := ∀ i, i < lo ∨ hi < i → h'[i]? = h[i]?
theorem jv_fr_rf {lo hi : Nat} {h : List jv_E} : jv_fr lo hi h h := fun _ _ => rfl
theorem jv_fr_set {lo hi a : Nat} {h h' : List jv_E} {c : jv_E} (ha : lo ≤ a ∧ a ≤ hi) (q : jv_fr lo hi h h') : jv_fr lo hi h (h'.set a c) := fun i hi => by
  rw [List.getElem?_set_ne (by omega)]
  exact q i hi
/-- the safe way: n places, their levels f -/
def jw_W (h : List jv_E) (n : Int) (f : Int → Int) : Prop := h[95]? = some (jv_ob 4 [.ref 96, .int (jv_i n)]) ∧ h[96]? = some (jv_ai 50 f)
theorem ct_X4_size {h : List jv_E} {n : Int} {f : Int → Int} (K : Nat) {post : Option Value → List jv_E → Prop} (w : jw_W h n f) (hp : post (some (.int (jv_i n))) h) : jv_Ct yX4_size cX4_size 1 (some .int) K [.ref 95] h post := by
  obtain ⟨w1, w2⟩ := w
  refine jv_entry (own := RX4) (by decide) rfl (Nat.le_of_ble_eq_true rfl) (fun X hq => ?_)
  refine jv_aload_n dX4_size_0 rfl ?_
  refine jv_getf dX4_size_1 jf_X4_15 (by repeat' (first | assumption | exact ⟨_, by assumption⟩ | refine jv_h1 (by omega) ?_ | refine jv_h0 ?_ | refine jv_hs ?_)) (by exact rfl) ?_
  exact jv_iret dX4_size_4 hq hp
theorem ct_X4_add {h : List jv_E} {n x : Int} {f : Int → Int} (K : Nat) {post : Option Value → List jv_E → Prop} (w : jw_W h n f) (hn : 0 ≤ n ∧ n ≤ 50) (hp1 : n < 50 → ∀ h', jw_W h' (n + 1) (jv_up f n x) → jv_fr 95 96 h h' → post (some (.int (jv_i (n + 1)))) h') (hp2 : 50 ≤ n → post (some (.int (jv_i (-1)))) h) : jv_Ct yX4_add cX4_add 2 (some .int) K [.ref 95, .int (jv_i x)] h post := by
  obtain ⟨w1, w2⟩ := w
  refine jv_entry (own := RX4) (by decide) rfl (Nat.le_of_ble_eq_true rfl) (fun X hq => ?_)
  refine jv_aload_n dX4_add_0 rfl ?_
  refine jv_getf dX4_add_1 jf_X4_15 (by repeat' (first | assumption | exact ⟨_, by assumption⟩ | refine jv_h1 (by omega) ?_ | refine jv_h0 ?_ | refine jv_hs ?_)) (by exact rfl) ?_
  refine jv_bipush dX4_add_4 ?_
  refine jv_icmp_lt 11 dX4_add_6 (fun c6 => ?_) (fun c6 => ?_)
  · refine jv_aload_n dX4_add_11 rfl ?_
    refine jv_getf dX4_add_12 jf_X4_9 (by repeat' (first | assumption | exact ⟨_, by assumption⟩ | refine jv_h1 (by omega) ?_ | refine jv_h0 ?_ | refine jv_hs ?_)) (by exact rfl) ?_
    refine jv_aload_n dX4_add_15 rfl ?_
    refine jv_getf dX4_add_16 jf_X4_15 (by repeat' (first | assumption | exact ⟨_, by assumption⟩ | refine jv_h1 (by omega) ?_ | refine jv_h0 ?_ | refine jv_hs ?_)) (by exact rfl) ?_
    refine jv_iload_n dX4_add_19 rfl ?_
    refine jv_iast dX4_add_20 (by repeat' (first | assumption | exact ⟨_, by assumption⟩ | refine jv_h1 (by omega) ?_ | refine jv_h0 ?_ | refine jv_hs ?_)) ?_
    refine jv_aload_n dX4_add_21 rfl ?_
    refine jv_dup dX4_add_22 rfl ?_
    refine jv_getf dX4_add_23 jf_X4_15 (by repeat' (first | assumption | exact ⟨_, by assumption⟩ | refine jv_h1 (by omega) ?_ | refine jv_h0 ?_ | refine jv_hs ?_)) (by exact rfl) ?_
    refine jv_iconst dX4_add_26 ?_
    refine jv_iadd dX4_add_27 ?_
    refine jv_putf dX4_add_28 jp_X4_15 (by repeat' (first | assumption | exact ⟨_, by assumption⟩ | refine jv_h1 (by omega) ?_ | refine jv_h0 ?_ | refine jv_hs ?_)) (by exact Nat.le_of_ble_eq_true rfl) ?_
    refine jv_aload_n dX4_add_31 rfl ?_
    refine jv_getf dX4_add_32 jf_X4_15 (by repeat' (first | assumption | exact ⟨_, by assumption⟩ | refine jv_h1 (by omega) ?_ | refine jv_h0 ?_ | refine jv_hs ?_)) (by exact rfl) ?_
    exact jv_iret dX4_add_35 hq (hp1 c6 _ ⟨(by repeat' (first | assumption | exact ⟨_, by assumption⟩ | refine jv_h1 (by omega) ?_ | refine jv_h0 ?_ | refine jv_hs ?_)), (by repeat' (first | assumption | exact ⟨_, by assumption⟩ | refine jv_h1 (by omega) ?_ | refine jv_h0 ?_ | refine jv_hs ?_))⟩ (jv_fr_set (by omega) (jv_fr_set (by omega) jv_fr_rf)))
  · refine jv_iconst dX4_add_9 ?_
    exact jv_iret dX4_add_10 hq (hp2 c6)
