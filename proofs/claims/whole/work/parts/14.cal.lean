/-! CALLS, with the operands as they stand -/
section JC
variable {X : jv_M} {cc : ByteArray} {own : String} {K pc : Nat} {L : List (Option Value)} {h : List jv_E}
theorem jv_cS {idx n k maxL : Nat} {C0 : String} {y : MethodName} {bytes : ByteArray} {ret : Option FieldType} {st : List Value} (d : decode cc pc = .ok (.invokestatic idx, 3)) (hw : jv_ms own idx C0 y bytes maxL ret n) (hc : jv_Ct y bytes maxL ret k (st.take n).reverse h (fun v h' => jv_J X cc own K (pc + 3) L (v.toList ++ st.drop n) h')) (hn : (st.take n).length = n := by rfl) (hk : k + 1 ≤ K := by omega) (hS8 : ((st.drop n).map fun v => v.category).sum ≤ 8 := by exact Nat.le_of_ble_eq_true rfl) : jv_J X cc own K pc L st h :=
  jv_callS d hw hc (by rw [List.length_reverse]; exact hn) (by rw [List.reverse_reverse, List.take_append_drop]) (fun _ _ hp => hp) hk hS8
theorem jv_cN {idx n k maxL : Nat} {C0 host : String} {y : MethodName} {bytes : ByteArray} {ret : Option FieldType} {st : List Value} (d : decode cc pc = .ok (.invokestatic idx, 3)) (hw : jv_mn own idx C0 host y bytes maxL ret n) (hc : jv_Ct y bytes maxL ret k (st.take n).reverse h (fun v h' => jv_J X cc own K (pc + 3) L (v.toList ++ st.drop n) h')) (hn : (st.take n).length = n := by rfl) (hk : k + 1 ≤ K := by omega) (hS8 : ((st.drop n).map fun v => v.category).sum ≤ 8 := by exact Nat.le_of_ble_eq_true rfl) : jv_J X cc own K pc L st h :=
  jv_callN d hw hc (by rw [List.length_reverse]; exact hn) (by rw [List.reverse_reverse, List.take_append_drop]) (fun _ _ hp => hp) hk hS8
theorem jv_cV {idx n k a ci maxL : Nat} {C0 : String} {y : MethodName} {bytes : ByteArray} {ret : Option FieldType} {fs st : List Value} (d : decode cc pc = .ok (.invokevirtual idx, 3)) (hw : jv_mv own idx C0 y bytes maxL ret n) (hs : st[n]? = some (.ref a)) (ha : h[a]? = some (jv_ob ci fs)) (hci : (jv_cl[ci]?).map (fun q => q.1) = some C0) (hc : jv_Ct y bytes maxL ret k (.ref a :: (st.take n).reverse) h (fun v h' => jv_J X cc own K (pc + 3) L (v.toList ++ st.drop (n + 1)) h')) (hk : k + 1 ≤ K := by omega) (hS8 : ((st.drop (n + 1)).map fun v => v.category).sum ≤ 8 := by exact Nat.le_of_ble_eq_true rfl) : jv_J X cc own K pc L st h := by
  have hl : n < st.length := (List.getElem?_eq_some_iff.mp hs).1
  refine jv_callV (As := (st.take n).reverse) (S := st.drop (n + 1)) d hw hc ha hci (by rw [List.length_reverse, List.length_take]; omega) ?_ (fun _ _ hp => hp) hk hS8
  rw [List.reverse_reverse]
  have e : st.drop n = .ref a :: st.drop (n + 1) := by
    rw [List.drop_eq_getElem_cons hl]
    congr 1
    exact (List.getElem?_eq_some_iff.mp hs).2
  rw [← e, List.take_append_drop]
def jv_le : List (Option Value) → List (Option Value) → Prop
  | [], [] => True
  | none :: a, _ :: b => jv_le a b
  | some v :: a, o :: b => o = some v ∧ jv_le a b
  | _, _ => False
theorem jv_le_len : ∀ (a b : List (Option Value)), jv_le a b → a.length = b.length ∧ ∀ (i : Nat) (v : Value), a[i]? = some (some v) → b[i]? = some (some v)
  | [], [], _ => ⟨rfl, fun i v h => by simp at h⟩
  | none :: a, o :: b, h => by
    obtain ⟨h1, h2⟩ := jv_le_len a b h
    refine ⟨by simp [h1], fun i v hv => ?_⟩
    cases i with
    | zero => simp at hv
    | succ i => exact h2 i v hv
  | some w :: a, o :: b, h => by
    obtain ⟨h0, h⟩ := h
    obtain ⟨h1, h2⟩ := jv_le_len a b h
    refine ⟨by simp [h1], fun i v hv => ?_⟩
    cases i with
    | zero => rw [h0]; exact hv
    | succ i => exact h2 i v hv
  | [], _ :: _, h => h.elim
  | none :: _, [], h => h.elim
  | some _ :: _, [], h => h.elim
theorem jv_les {L' : List (Option Value)} {S : List Value} (hl : jv_le L' L) (kk : jv_J X cc own K pc L' S h) : jv_J X cc own K pc L S h := jv_less (jv_le_len _ _ hl).1 (jv_le_len _ _ hl).2 kk
end JC
/-- the same for a member of the JDK -/
theorem jv_entryF {y : MethodName} {cc : ByteArray} {maxL : Nat} {ret : Option FieldType} {K : Nat} {av : List Value} {h : List jv_E} {post : Option Value → List jv_E → Prop} {own : String} (hy : plainFor y = true) (ho : y.cls = own) (hl : (jv_La av).length ≤ maxL)
    (body : ∀ X : jv_M, jv_ret X ret post → jv_J X cc own K 0 (jv_L0 maxL av) [] h) : jv_Ct y cc maxL ret K av h post := by
  intro l G sz
  refine va_MetF (cc := cc) (maxL := maxL) (ret := ret) hy rfl ?_
  intro p e s m args below meth c s₁ B hml hv
  obtain ⟨rfl, hsz, hP, hK, hD0, hX⟩ := hv
  have hts := atoms_spec (ws := .code y cc maxL ret :: jv_T) B.pre
  have hown : s.vm.findClass own = some m.cls := by rw [← ho]; exact findClass_of_methodNamed B.named
  subst hsz
  rw [lg_entry_eq]
  have hl' := lv_entry (av.map (jv_V G.2.2)) (n := maxL) (by rw [jv_sl_len]; exact hl)
  have J := body ((p, l, e, jv_rm K, s), (m, (av.map (jv_V G.2.2)).toArray, below, meth, c), (0, 0, MQ below (jv_Q G (va_A (jv_tr G h) s.heap.size) h.length post) (av.map (jv_V G.2.2)).toArray s 0 0 (va_A (jv_tr G h) s.heap.size)), (G, va_A (jv_tr G h) s.heap.size, h.length, maxL)) ⟨rfl, rfl, rfl, B.returns, B.notSynchronized⟩
  exact J ⟨B.exec, B.bytes, hml, hown, fun w hw => hts w (List.mem_cons_of_mem _ hw), hK, fun q hq => Or.inr hq, jv_D_to (hD0.self), hX, ⟨Nat.le_refl _, Nat.le_refl _⟩, Nat.zero_le _, Nat.zero_le _⟩ rfl s.heap [] _ hP va_S.rf (jv_L0_has hl hl')
/-- BasinSizes.within -/
theorem ct_X7_within {h : List jv_E} {x a b : Int} (K : Nat) {post : Option Value → List jv_E → Prop} (hp : ∀ r : Int, (a ≤ x ∧ x ≤ b → r = 1) → (¬ (a ≤ x ∧ x ≤ b) → r = 0) → 0 ≤ r ∧ r ≤ 1 → post (some (.int (jv_i r))) h) (hx : -9223372036854775808 ≤ x ∧ x ≤ 9223372036854775807 := by omega) (ha : -9223372036854775808 ≤ a ∧ a ≤ 9223372036854775807 := by omega) (hb : -9223372036854775808 ≤ b ∧ b ≤ 9223372036854775807 := by omega) : jv_Ct yX7_within cX7_within 6 (some .boolean) K [.long (jv_l x), .long (jv_l a), .long (jv_l b)] h post := by
  refine jv_entry (own := RX7) (by decide) rfl (Nat.le_of_ble_eq_true rfl) (fun X hq => ?_)
  refine jv_lload_n dX7_within_0 rfl ?_
  refine jv_lload_n dX7_within_1 rfl ?_
  refine jv_lcmp_gt 17 dX7_within_2 dX7_within_3 (fun c2 => ?_) (fun c2 => ?_)
  · refine jv_iconst dX7_within_17 ?_
    exact jv_iret dX7_within_18 hq (hp _ (by omega) (by omega) (by omega)) (by first | rfl | decide)
  · refine jv_lload_n dX7_within_6 rfl ?_
    refine jv_lload dX7_within_7 rfl ?_
    refine jv_lcmp_gt 17 dX7_within_9 dX7_within_10 (fun c9 => ?_) (fun c9 => ?_)
    · refine jv_iconst dX7_within_17 ?_
      exact jv_iret dX7_within_18 hq (hp _ (by omega) (by omega) (by omega)) (by first | rfl | decide)
    · refine jv_iconst dX7_within_13 ?_
      refine jv_goto 18 dX7_within_14 ?_
      exact jv_iret dX7_within_18 hq (hp _ (by omega) (by omega) (by omega)) (by first | rfl | decide)
/-- Math.max, Math.min -/
theorem ct_J9_max {h : List jv_E} {a b : Int} (K : Nat) {post : Option Value → List jv_E → Prop} (hp : ∀ r : Int, a ≤ r ∧ b ≤ r ∧ (r = a ∨ r = b) → post (some (.long (jv_l r))) h) (ha : -9223372036854775808 ≤ a ∧ a ≤ 9223372036854775807 := by omega) (hb : -9223372036854775808 ≤ b ∧ b ≤ 9223372036854775807 := by omega) : jv_Ct yJ9_max_f86c9 cJ9_max_f86c9 4 (some .long) K [.long (jv_l a), .long (jv_l b)] h post := by
  refine jv_entryF (own := RJ9) (by decide +kernel) rfl (Nat.le_of_ble_eq_true rfl) (fun X hq => ?_)
  refine jv_lload_n dJ9_max_f86c9_0 rfl ?_
  refine jv_lload_n dJ9_max_f86c9_1 rfl ?_
  refine jv_lcmp_lt 10 dJ9_max_f86c9_2 dJ9_max_f86c9_3 (fun c2 => ?_) (fun c2 => ?_)
  · refine jv_lload_n dJ9_max_f86c9_10 rfl ?_
    exact jv_lret dJ9_max_f86c9_11 hq (hp _ (by omega))
  · refine jv_lload_n dJ9_max_f86c9_6 rfl ?_
    refine jv_goto 11 dJ9_max_f86c9_7 ?_
    exact jv_lret dJ9_max_f86c9_11 hq (hp _ (by omega))
theorem ct_J9_min {h : List jv_E} {a b : Int} (K : Nat) {post : Option Value → List jv_E → Prop} (hp : ∀ r : Int, r ≤ a ∧ r ≤ b ∧ (r = a ∨ r = b) → post (some (.long (jv_l r))) h) (ha : -9223372036854775808 ≤ a ∧ a ≤ 9223372036854775807 := by omega) (hb : -9223372036854775808 ≤ b ∧ b ≤ 9223372036854775807 := by omega) : jv_Ct yJ9_min_f86c9 cJ9_min_f86c9 4 (some .long) K [.long (jv_l a), .long (jv_l b)] h post := by
  refine jv_entryF (own := RJ9) (by decide +kernel) rfl (Nat.le_of_ble_eq_true rfl) (fun X hq => ?_)
  refine jv_lload_n dJ9_min_f86c9_0 rfl ?_
  refine jv_lload_n dJ9_min_f86c9_1 rfl ?_
  refine jv_lcmp_gt 10 dJ9_min_f86c9_2 dJ9_min_f86c9_3 (fun c2 => ?_) (fun c2 => ?_)
  · refine jv_lload_n dJ9_min_f86c9_10 rfl ?_
    exact jv_lret dJ9_min_f86c9_11 hq (hp _ (by omega))
  · refine jv_lload_n dJ9_min_f86c9_6 rfl ?_
    refine jv_goto 11 dJ9_min_f86c9_7 ?_
    exact jv_lret dJ9_min_f86c9_11 hq (hp _ (by omega))
