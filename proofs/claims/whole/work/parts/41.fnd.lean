/-! StateRows.findSpans, firstAt, leastHead -/
/-- state s has its span by the tests a to b -/
def jq_sp (rl : Int → Int) (F : Int → Int → Int) (va lo hi : Int → Int) (a b s : Nat) : Prop := ((0 ≤ lo s ∧ lo s ≤ 10000000000000) ∧ (-10000000000000 ≤ hi s ∧ hi s ≤ 10000000000000)) ∧ ∀ y, (lo s ≤ y ∧ y ≤ hi s) ↔ ((0 ≤ y ∧ y ≤ 20000) ∧ ∀ g : Nat, a ≤ g → g < b → jq_ho (rl g) (jq_dot (F g) (jq_x va y)))
theorem jq_sp_k {rl : Int → Int} {F : Int → Int → Int} {va lo hi lo' hi' : Int → Int} {a b s : Nat} (h : jq_sp rl F va lo hi a b s) (e : lo' s = lo s ∧ hi' s = hi s) : jq_sp rl F va lo' hi' a b s := by
  unfold jq_sp
  rw [e.1, e.2]
  exact h
theorem jq_sp_s {rl : Int → Int} {F : Int → Int → Int} {va lo hi lo' hi' : Int → Int} {a g s : Nat} (h : jq_sp rl F va lo hi a g s) (ha : a ≤ g) (hb : (0 ≤ lo' s ∧ lo' s ≤ 10000000000000) ∧ (-10000000000000 ≤ hi' s ∧ hi' s ≤ 10000000000000)) (hi1 : ∀ y, (lo' s ≤ y ∧ y ≤ hi' s) ↔ ((lo s ≤ y ∧ y ≤ hi s) ∧ jq_ho (rl g) (jq_dot (F g) (jq_x va y)))) : jq_sp rl F va lo' hi' a (g + 1) s := by
  refine ⟨hb, fun y => ?_⟩
  rw [hi1 y, h.2 y]
  constructor
  · rintro ⟨⟨z1, z2⟩, z3⟩
    refine ⟨z1, fun j y1 y2 => ?_⟩
    by_cases e : j = g
    · rw [e]; exact z3
    · exact z2 j y1 (by omega)
  · rintro ⟨z1, z2⟩
    exact ⟨⟨z1, fun j y1 y2 => z2 j y1 (by omega)⟩, z2 g ha (by omega)⟩
section FS
variable {h : List jv_E} {p u t : Nat} {en rl lo hi va : Int → Int} {F : Int → Int → Int} {post : Option Value → List jv_E → Prop}
theorem ct_X6_findSpans (b : Nat → Nat) (K : Nat) (hp17 : 17 ≤ p) (w : jw_T h p u t en rl lo hi F) (wv : h[14]? = some (jv_ai 8 va)) (hu : u ≤ 6) (hb0 : b 0 = 0) (hb : ∀ s : Nat, s < u → en s = b (s + 1) ∧ b s ≤ b (s + 1)) (hb3 : ∀ s : Nat, s ≤ u → b s ≤ b u) (hb30 : b u ≤ 30) (hr : ∀ g : Nat, g < b u → (0 ≤ rl g ∧ rl g ≤ 126) ∧ jq_bd (F g) 800000) (hv : ∀ c : Int, 1 ≤ c → c < 8 → -100000 ≤ va c ∧ va c ≤ 100000) (hp : ∀ h' lo' hi', jw_T h' p u t en rl lo' hi' F → (∀ s : Nat, s < u → jq_sp rl F va lo' hi' (b s) (b (s + 1)) s) → jv_fr p (p + 35) h h' → post none h') : jv_Ct yX6_findSpans cX6_findSpans 4 none (K + 3) [.ref p, .ref 14] h post := by
  refine jv_entry (own := RX6) (by decide) rfl (Nat.le_of_ble_eq_true rfl) (fun X hq => ?_)
  have loop : ∀ (f s : Nat) (h1 : List jv_E) (lo1 hi1 : Int → Int), s + f = u → jw_T h1 p u t en rl lo1 hi1 F → (∀ j : Nat, j < s → jq_sp rl F va lo1 hi1 (b j) (b (j + 1)) j) → jv_fr p (p + 35) h h1 → jv_J X cX6_findSpans RX6 (K + 3) 4 [some (.ref p), some (.ref 14), some (.int (jv_i (b s))), some (.int (jv_i s))] [] h1 := by
    intro f
    induction f with
    | zero =>
      intro s h1 lo1 hi1 e w dn fr
      have w0 := w
      obtain ⟨w1, w2, w3, w4, w5, w6, w7⟩ := w
      refine jv_iload_n dX6_findSpans_4 rfl ?_
      refine jv_aload_n dX6_findSpans_5 rfl ?_
      refine jv_getf dX6_findSpans_6 jf_X6_31 (by repeat' (first | assumption | exact ⟨_, by assumption⟩ | refine jv_h1 (by decide) ?_ | refine jv_h0 ?_ | refine jv_h1 (by omega) ?_ | refine jv_hs ?_)) (by exact rfl) ?_
      refine jv_icmp_ge 57 dX6_findSpans_9 (fun c9 => ?_) (fun c9 => ?_)
      · exact jv_vret dX6_findSpans_57 hq (hp h1 lo1 hi1 w0 (fun j z => dn j (by omega)) fr)
      · exact absurd c9 (by omega)
    | succ f ih =>
      intro s h1 lo1 hi1 e w dn fr
      obtain ⟨b1, b2⟩ := hb s (by omega)
      have b3 := hb3 (s + 1) (by omega)
      have inner : ∀ (k g : Nat) (h2 : List jv_E) (lo2 hi2 : Int → Int), g + k = b (s + 1) → b s ≤ g → jw_T h2 p u t en rl lo2 hi2 F → (∀ j : Nat, j < s → jq_sp rl F va lo2 hi2 (b j) (b (j + 1)) j) → jq_sp rl F va lo2 hi2 (b s) g s → jv_fr p (p + 35) h h2 → jv_J X cX6_findSpans RX6 (K + 3) 28 [some (.ref p), some (.ref 14), some (.int (jv_i g)), some (.int (jv_i s))] [] h2 := by
        intro k
        induction k with
        | zero =>
          intro g h2 lo2 hi2 e2 e3 w dn2 d2 fr2
          obtain rfl : g = b (s + 1) := by omega
          have nx := ih (s + 1) h2 lo2 hi2 (by omega) w (fun j z => by by_cases e : j = s; rw [e]; exact d2; exact dn2 j (by omega)) fr2
          obtain ⟨w1, w2, w3, w4, w5, w6, w7⟩ := w
          refine jv_iload_n dX6_findSpans_28 rfl ?_
          refine jv_aload_n dX6_findSpans_29 rfl ?_
          refine jv_getf dX6_findSpans_30 jf_X6_9 (by repeat' (first | assumption | exact ⟨_, by assumption⟩ | refine jv_h1 (by decide) ?_ | refine jv_h0 ?_ | refine jv_h1 (by omega) ?_ | refine jv_hs ?_)) (by exact rfl) ?_
          refine jv_iload_n dX6_findSpans_33 rfl ?_
          refine jv_iald dX6_findSpans_34 (by repeat' (first | assumption | exact ⟨_, by assumption⟩ | refine jv_h1 (by decide) ?_ | refine jv_h0 ?_ | refine jv_h1 (by omega) ?_ | refine jv_hs ?_)) ?_
          refine jv_icmp_ge 51 dX6_findSpans_35 (fun c35 => ?_) (fun c35 => ?_)
          · refine jv_iinc dX6_findSpans_51 rfl rfl ?_
            refine jv_goto 4 dX6_findSpans_54 ?_
            exact nx
          · exact absurd c35 (by omega)
        | succ k ih2 =>
          intro g h2 lo2 hi2 e2 e3 w dn2 d2 fr2
          have w0 := w
          have hg := hr g (by omega)
          obtain ⟨w1, w2, w3, w4, w5, w6, w7⟩ := w
          refine jv_iload_n dX6_findSpans_28 rfl ?_
          refine jv_aload_n dX6_findSpans_29 rfl ?_
          refine jv_getf dX6_findSpans_30 jf_X6_9 (by repeat' (first | assumption | exact ⟨_, by assumption⟩ | refine jv_h1 (by decide) ?_ | refine jv_h0 ?_ | refine jv_h1 (by omega) ?_ | refine jv_hs ?_)) (by exact rfl) ?_
          refine jv_iload_n dX6_findSpans_33 rfl ?_
          refine jv_iald dX6_findSpans_34 (by repeat' (first | assumption | exact ⟨_, by assumption⟩ | refine jv_h1 (by decide) ?_ | refine jv_h0 ?_ | refine jv_h1 (by omega) ?_ | refine jv_hs ?_)) ?_
          refine jv_icmp_ge 51 dX6_findSpans_35 (fun c35 => ?_) (fun c35 => ?_)
          · exact absurd c35 (by omega)
          · refine jv_aload_n dX6_findSpans_38 rfl ?_
            refine jv_iload_n dX6_findSpans_39 rfl ?_
            refine jv_iload_n dX6_findSpans_40 rfl ?_
            refine jv_aload_n dX6_findSpans_41 rfl ?_
            refine jv_cV dX6_findSpans_42 jm_X6_40 rfl (by repeat' (first | assumption | exact ⟨_, by assumption⟩ | refine jv_h1 (by decide) ?_ | refine jv_h0 ?_ | refine jv_h1 (by omega) ?_ | refine jv_hs ?_)) rfl (ct_X6_narrowByTest K hp17 w0 (by rw [fr2 14 (by omega)]; exact wv) (by omega) (by omega) hg.1 d2.1 hg.2 hv (fun h3 lo3 hi3 w3' k3 b3' i3 f3 => ?_))
            refine jv_iinc dX6_findSpans_45 rfl rfl ?_
            refine jv_goto 28 dX6_findSpans_48 ?_
            exact ih2 (g + 1) h3 lo3 hi3 (by omega) (by omega) w3' (fun j z => jq_sp_k (dn2 j z) (k3 j (by omega))) (jq_sp_s d2 e3 b3' i3) (fun i z => (f3 i z).trans (fr2 i z))
      have w0 := w
      obtain ⟨w1, w2, w3, w4, w5, w6, w7⟩ := w
      refine jv_iload_n dX6_findSpans_4 rfl ?_
      refine jv_aload_n dX6_findSpans_5 rfl ?_
      refine jv_getf dX6_findSpans_6 jf_X6_31 (by repeat' (first | assumption | exact ⟨_, by assumption⟩ | refine jv_h1 (by decide) ?_ | refine jv_h0 ?_ | refine jv_h1 (by omega) ?_ | refine jv_hs ?_)) (by exact rfl) ?_
      refine jv_icmp_ge 57 dX6_findSpans_9 (fun c9 => ?_) (fun c9 => ?_)
      · exact absurd c9 (by omega)
      · refine jv_aload_n dX6_findSpans_12 rfl ?_
        refine jv_getf dX6_findSpans_13 jf_X6_24 (by repeat' (first | assumption | exact ⟨_, by assumption⟩ | refine jv_h1 (by decide) ?_ | refine jv_h0 ?_ | refine jv_h1 (by omega) ?_ | refine jv_hs ?_)) (by exact rfl) ?_
        refine jv_iload_n dX6_findSpans_16 rfl ?_
        refine jv_lconst 0 dX6_findSpans_17 ?_
        refine jv_last dX6_findSpans_18 (by repeat' (first | assumption | exact ⟨_, by assumption⟩ | refine jv_h1 (by decide) ?_ | refine jv_h0 ?_ | refine jv_h1 (by omega) ?_ | refine jv_hs ?_)) ?_
        refine jv_aload_n dX6_findSpans_19 rfl ?_
        refine jv_getf dX6_findSpans_20 jf_X6_28 (by repeat' (first | assumption | exact ⟨_, by assumption⟩ | refine jv_h1 (by decide) ?_ | refine jv_h0 ?_ | refine jv_h1 (by omega) ?_ | refine jv_hs ?_)) (by exact rfl) ?_
        refine jv_iload_n dX6_findSpans_23 rfl ?_
        refine jv_ldc2 dX6_findSpans_24 jk_X6_38 ?_
        refine jv_last dX6_findSpans_27 (by repeat' (first | assumption | exact ⟨_, by assumption⟩ | refine jv_h1 (by decide) ?_ | refine jv_h0 ?_ | refine jv_h1 (by omega) ?_ | refine jv_hs ?_)) ?_
        exact inner (b (s + 1) - b s) (b s) _ (jv_up lo1 s 0) (jv_up hi1 s 20000) (by omega) (by omega) ⟨(by repeat' (first | assumption | exact ⟨_, by assumption⟩ | refine jv_h1 (by decide) ?_ | refine jv_h0 ?_ | refine jv_h1 (by omega) ?_ | refine jv_hs ?_)), (by repeat' (first | assumption | exact ⟨_, by assumption⟩ | refine jv_h1 (by decide) ?_ | refine jv_h0 ?_ | refine jv_h1 (by omega) ?_ | refine jv_hs ?_)), (by repeat' (first | assumption | exact ⟨_, by assumption⟩ | refine jv_h1 (by decide) ?_ | refine jv_h0 ?_ | refine jv_h1 (by omega) ?_ | refine jv_hs ?_)), (by repeat' (first | assumption | exact ⟨_, by assumption⟩ | refine jv_h1 (by decide) ?_ | refine jv_h0 ?_ | refine jv_h1 (by omega) ?_ | refine jv_hs ?_)), (by repeat' (first | assumption | exact ⟨_, by assumption⟩ | refine jv_h1 (by decide) ?_ | refine jv_h0 ?_ | refine jv_h1 (by omega) ?_ | refine jv_hs ?_)), (by repeat' (first | assumption | exact ⟨_, by assumption⟩ | refine jv_h1 (by decide) ?_ | refine jv_h0 ?_ | refine jv_h1 (by omega) ?_ | refine jv_hs ?_)), fun i hi => jv_h1 (by omega) (jv_h1 (by omega) (w7 i hi))⟩ (fun j z => jq_sp_k (dn j z) ⟨jv_up_n _ (by omega), jv_up_n _ (by omega)⟩) ⟨by rw [jv_up_s, jv_up_s]; omega, fun y => by rw [jv_up_s, jv_up_s]; exact ⟨fun z => ⟨z, fun j y1 y2 => by omega⟩, fun z => z.1⟩⟩ (jv_fr_set (by omega) (jv_fr_set (by omega) fr))
  have nx := loop u 0 h lo hi (by omega) w (fun j z => by omega) jv_fr_rf
  rw [hb0] at nx
  refine jv_iconst dX6_findSpans_0 ?_
  refine jv_istore_n dX6_findSpans_1 rfl (Nat.le_of_ble_eq_true rfl) ?_
  refine jv_iconst dX6_findSpans_2 ?_
  refine jv_istore_n dX6_findSpans_3 rfl (Nat.le_of_ble_eq_true rfl) ?_
  exact nx
/-- the first state that spans y, or -1 -/
def jq_fa (u : Nat) (P : Nat → Prop) (r : Int) : Prop := (r = -1 ∧ ∀ s, s < u → ¬ P s) ∨ ∃ s, s < u ∧ r = s ∧ P s ∧ ∀ j, j < s → ¬ P j
theorem jq_fa_un {u : Nat} {P Q : Nat → Prop} {r r' : Int} (h : jq_fa u P r) (h' : jq_fa u Q r') (e : ∀ s, s < u → (P s ↔ Q s)) : r = r' := by
  rcases h with ⟨h1, h2⟩ | ⟨s, h1, h2, h3, h4⟩ <;> rcases h' with ⟨g1, g2⟩ | ⟨s', g1, g2, g3, g4⟩
  · omega
  · exact absurd ((e s' g1).mpr g3) (h2 s' g1)
  · exact absurd ((e s h1).mp h3) (g2 s h1)
  · by_cases e1 : s < s'
    · exact absurd ((e s h1).mp h3) (g4 s e1)
    · by_cases e2 : s' < s
      · exact absurd ((e s' g1).mpr g3) (h4 s' e2)
      · omega
theorem ct_X6_firstAt {y : Int} (K : Nat) (w : jw_T h p u t en rl lo hi F) (hu : u ≤ 6) (hy : 0 ≤ y ∧ y ≤ 20000) (hb : ∀ s : Nat, s < u → (0 ≤ lo s ∧ lo s ≤ 10000000000000) ∧ (-10000000000000 ≤ hi s ∧ hi s ≤ 10000000000000)) (hp : ∀ r, jq_fa u (fun s => (lo s ≤ y ∧ y ≤ hi s)) r → post (some (.int (jv_i r))) h) : jv_Ct yX6_firstAt cX6_firstAt 3 (some .int) (K + 1) [.ref p, .int (jv_i y)] h post := by
  have w1 := w.1
  refine jv_entry (own := RX6) (by decide) rfl (Nat.le_of_ble_eq_true rfl) (fun X hq => ?_)
  have loop : ∀ (f s : Nat), s + f = u → (∀ j : Nat, j < s → ¬ (lo j ≤ y ∧ y ≤ hi j)) → jv_J X cX6_firstAt RX6 (K + 1) 2 [some (.ref p), some (.int (jv_i y)), some (.int (jv_i s))] [] h := by
    intro f
    induction f with
    | zero =>
      intro s e dn
      refine jv_iload_n dX6_firstAt_2 rfl ?_
      refine jv_aload_n dX6_firstAt_3 rfl ?_
      refine jv_getf dX6_firstAt_4 jf_X6_31 (by repeat' (first | assumption | exact ⟨_, by assumption⟩ | refine jv_h1 (by decide) ?_ | refine jv_h0 ?_ | refine jv_h1 (by omega) ?_ | refine jv_hs ?_)) (by exact rfl) ?_
      refine jv_icmp_ge 28 dX6_firstAt_7 (fun c7 => ?_) (fun c7 => ?_)
      · refine jv_iconst dX6_firstAt_28 ?_
        exact jv_iret dX6_firstAt_29 hq (hp (-1) (Or.inl ⟨rfl, fun j z => dn j (by omega)⟩)) (by first | rfl | decide)
      · exact absurd c7 (by omega)
    | succ f ih =>
      intro s e dn
      have hb1 := hb s (by omega)
      refine jv_iload_n dX6_firstAt_2 rfl ?_
      refine jv_aload_n dX6_firstAt_3 rfl ?_
      refine jv_getf dX6_firstAt_4 jf_X6_31 (by repeat' (first | assumption | exact ⟨_, by assumption⟩ | refine jv_h1 (by decide) ?_ | refine jv_h0 ?_ | refine jv_h1 (by omega) ?_ | refine jv_hs ?_)) (by exact rfl) ?_
      refine jv_icmp_ge 28 dX6_firstAt_7 (fun c7 => ?_) (fun c7 => ?_)
      · exact absurd c7 (by omega)
      · refine jv_aload_n dX6_firstAt_10 rfl ?_
        refine jv_iload_n dX6_firstAt_11 rfl ?_
        refine jv_iload_n dX6_firstAt_12 rfl ?_
        refine jv_i2l dX6_firstAt_13 ?_
        refine jv_cV dX6_firstAt_14 jm_X6_62 rfl (by repeat' (first | assumption | exact ⟨_, by assumption⟩ | refine jv_h1 (by decide) ?_ | refine jv_h0 ?_ | refine jv_h1 (by omega) ?_ | refine jv_hs ?_)) rfl (ct_X6_spans K w (by omega) (by omega) (by omega) (by omega) (fun r q1 q2 q3 => ?_))
        refine jv_if_eq 22 dX6_firstAt_17 (fun c17 => ?_) (fun c17 => ?_)
        · refine jv_iinc dX6_firstAt_22 rfl rfl ?_
          refine jv_goto 2 dX6_firstAt_25 ?_
          exact ih (s + 1) (by omega) (fun j z => by by_cases e : j = s; rw [e]; omega; exact dn j (by omega))
        · refine jv_iload_n dX6_firstAt_20 rfl ?_
          exact jv_iret dX6_firstAt_21 hq (hp s (Or.inr ⟨s, by omega, rfl, by omega, dn⟩))
  refine jv_iconst dX6_firstAt_0 ?_
  refine jv_istore_n dX6_firstAt_1 rfl (Nat.le_of_ble_eq_true rfl) ?_
  exact loop u 0 (by omega) (fun j z => by omega)
/-- how many of the first spans end below y -/
def jq_cn (hi : Int → Int) (y : Int) : Nat → Nat
  | 0 => 0
  | k + 1 => jq_cn hi y k + if hi k < y then 1 else 0
theorem jq_cn_le (hi : Int → Int) (y : Int) : ∀ k, jq_cn hi y k ≤ k ∧ (jq_cn hi y k = k → ∀ s : Nat, s < k → hi s < y)
  | 0 => ⟨Nat.le_refl _, fun _ s z => by omega⟩
  | k + 1 => by
    obtain ⟨h1, h2⟩ := jq_cn_le hi y k
    rw [jq_cn]
    split
    · next q =>
      refine ⟨by omega, fun z s z1 => ?_⟩
      by_cases e : s = k
      · rw [e]; exact q
      · exact h2 (by omega) s (by omega)
    · exact ⟨by omega, fun z => by omega⟩
theorem jq_cn_up (hi : Int → Int) {y y' : Int} (h : y ≤ y') : ∀ k, jq_cn hi y k ≤ jq_cn hi y' k ∧ ∀ s : Nat, s < k → y ≤ hi s → hi s < y' → jq_cn hi y k + 1 ≤ jq_cn hi y' k
  | 0 => ⟨Nat.le_refl _, fun s z => by omega⟩
  | k + 1 => by
    obtain ⟨h1, h2⟩ := jq_cn_up hi h k
    rw [jq_cn, jq_cn]
    refine ⟨by split <;> split <;> omega, fun s z z1 z2 => ?_⟩
    by_cases e : s = k
    · subst e
      rw [if_neg (by omega), if_pos z2]
      omega
    · have := h2 s (by omega) z1 z2
      split <;> split <;> omega
/-- the least of W that no earlier one has, or -1 -/
def jq_lh (w : Nat) (P : Nat → Int → Prop) (r : Int) : Prop := (r = -1 ∧ ∀ y, P w y → ∃ s, s < w ∧ P s y) ∨ (P w r ∧ (∀ s, s < w → ¬ P s r) ∧ ∀ y, y < r → P w y → ∃ s, s < w ∧ P s y)
theorem jq_lh_un {w : Nat} {P Q : Nat → Int → Prop} {r r' : Int} (h : jq_lh w P r) (h' : jq_lh w Q r') (e : ∀ s y, s ≤ w → (P s y ↔ Q s y)) : r = r' := by
  have k1 : ∀ y, (∀ s, s < w → ¬ P s y) → ¬ ∃ s, s < w ∧ P s y := fun y z ⟨s, z1, z2⟩ => z s z1 z2
  have k2 : ∀ y, (∀ s, s < w → ¬ Q s y) → ¬ ∃ s, s < w ∧ P s y := fun y z ⟨s, z1, z2⟩ => z s z1 ((e s y (by omega)).mp z2)
  have k3 : ∀ y, (∀ s, s < w → ¬ P s y) → ¬ ∃ s, s < w ∧ Q s y := fun y z ⟨s, z1, z2⟩ => z s z1 ((e s y (by omega)).mpr z2)
  rcases h with ⟨h1, h2⟩ | ⟨h1, h2, h3⟩ <;> rcases h' with ⟨g1, g2⟩ | ⟨g1, g2, g3⟩
  · omega
  · exact absurd (h2 r' ((e w r' (Nat.le_refl _)).mpr g1)) (k2 r' g2)
  · exact absurd (g2 r ((e w r (Nat.le_refl _)).mp h1)) (k3 r h2)
  · by_cases e1 : r < r'
    · exact absurd (g3 r e1 ((e w r (Nat.le_refl _)).mp h1)) (k3 r h2)
    · by_cases e2 : r' < r
      · exact absurd (h3 r' e2 ((e w r' (Nat.le_refl _)).mpr g1)) (k2 r' g2)
      · omega
theorem ct_X6_leastHead {wn : Nat} (K : Nat) (w : jw_T h p u t en rl lo hi F) (hu : u ≤ 6) (hw : wn < u) (hb : ∀ s : Nat, s < u → (0 ≤ lo s ∧ lo s ≤ 10000000000000) ∧ (-10000000000000 ≤ hi s ∧ hi s ≤ 10000000000000)) (hp : ∀ r, jq_lh wn (fun s y => (lo s ≤ y ∧ y ≤ hi s)) r → post (some (.int (jv_i r))) h) : jv_Ct yX6_leastHead cX6_leastHead 6 (some .int) (K + 1) [.ref p, .int (jv_i wn)] h post := by
  have w0 := w
  obtain ⟨w1, w2, w3, w4, w5, w6, w7⟩ := w
  have hbw := hb wn hw
  refine jv_entry (own := RX6) (by decide) rfl (Nat.le_of_ble_eq_true rfl) (fun X hq => ?_)
  have fin : ∀ (y : Int) (x5 : Option Value), 0 ≤ y ∧ y ≤ 10000000000001 → lo wn ≤ y → (∀ z, lo wn ≤ z → z < y → ∃ s : Nat, s < wn ∧ (lo s ≤ z ∧ z ≤ hi s)) → (wn ≤ jq_cn hi y wn ∨ ∀ s : Nat, s < wn → ¬ (lo s ≤ y ∧ y ≤ hi s)) → jv_J X cX6_leastHead RX6 (K + 1) 28 [some (.ref p), some (.int (jv_i wn)), some (.long (jv_l y)), none, some (.int (jv_i wn)), x5] [] h := by
    intro y x5 hy hl cv dj
    have hn : ∀ s : Nat, s < wn → ¬ (lo s ≤ y ∧ y ≤ hi s) := by
      rcases dj with q | q
      · obtain ⟨g1, g2⟩ := jq_cn_le hi y wn
        intro s z1 z2
        have := g2 (by omega) s z1
        omega
      · exact q
    refine jv_iload dX6_leastHead_28 rfl ?_
    refine jv_iload_n dX6_leastHead_30 rfl ?_
    refine jv_icmp_ge 75 dX6_leastHead_31 (fun c31 => ?_) (fun c31 => ?_)
    · refine jv_lload_n dX6_leastHead_75 rfl ?_
      refine jv_aload_n dX6_leastHead_76 rfl ?_
      refine jv_getf dX6_leastHead_77 jf_X6_28 (by repeat' (first | assumption | exact ⟨_, by assumption⟩ | refine jv_h1 (by decide) ?_ | refine jv_h0 ?_ | refine jv_h1 (by omega) ?_ | refine jv_hs ?_)) (by exact rfl) ?_
      refine jv_iload_n dX6_leastHead_80 rfl ?_
      refine jv_lald dX6_leastHead_81 (by repeat' (first | assumption | exact ⟨_, by assumption⟩ | refine jv_h1 (by decide) ?_ | refine jv_h0 ?_ | refine jv_h1 (by omega) ?_ | refine jv_hs ?_)) ?_
      refine jv_lcmp_gt 91 dX6_leastHead_82 dX6_leastHead_83 (fun c82 => ?_) (fun c82 => ?_)
      · refine jv_iconst dX6_leastHead_91 ?_
        exact jv_iret dX6_leastHead_92 hq (hp (-1) (Or.inl ⟨rfl, fun z zz => cv z zz.1 (by omega)⟩))
      · refine jv_lload_n dX6_leastHead_86 rfl ?_
        refine jv_l2i dX6_leastHead_87 ?_
        refine jv_goto 92 dX6_leastHead_88 ?_
        exact jv_iret dX6_leastHead_92 hq (hp y (Or.inr ⟨⟨hl, c82⟩, hn, fun z z1 zz => cv z zz.1 z1⟩))
    · exact absurd c31 (by omega)
  have loop : ∀ (f r : Nat) (y : Int) (x5 : Option Value), r + f = wn → 0 ≤ y ∧ y ≤ 10000000000001 → lo wn ≤ y → (∀ z, lo wn ≤ z → z < y → ∃ s : Nat, s < wn ∧ (lo s ≤ z ∧ z ≤ hi s)) → (r ≤ jq_cn hi y wn ∨ ∀ s : Nat, s < wn → ¬ (lo s ≤ y ∧ y ≤ hi s)) → jv_J X cX6_leastHead RX6 (K + 1) 28 [some (.ref p), some (.int (jv_i wn)), some (.long (jv_l y)), none, some (.int (jv_i r)), x5] [] h := by
    intro f
    induction f with
    | zero =>
      intro r y x5 e hy hl cv dj
      obtain rfl : r = wn := by omega
      exact fin y x5 hy hl cv dj
    | succ f ih =>
      intro r y x5 e hy hl cv dj
      have inner : ∀ (k j : Nat) (y : Int), j + k = wn → 0 ≤ y ∧ y ≤ 10000000000001 → lo wn ≤ y → (∀ z, lo wn ≤ z → z < y → ∃ s : Nat, s < wn ∧ (lo s ≤ z ∧ z ≤ hi s)) → (((r ≤ jq_cn hi y wn ∨ ∀ s : Nat, s < wn → ¬ (lo s ≤ y ∧ y ≤ hi s)) ∧ ∀ s : Nat, s < j → ¬ (lo s ≤ y ∧ y ≤ hi s)) ∨ r + 1 ≤ jq_cn hi y wn) → jv_J X cX6_leastHead RX6 (K + 1) 37 [some (.ref p), some (.int (jv_i wn)), some (.long (jv_l y)), none, some (.int (jv_i r)), some (.int (jv_i j))] [] h := by
        intro k
        induction k with
        | zero =>
          intro j y e2 hy hl cv dj
          have nx := ih (r + 1) y (some (.int (jv_i j))) (by omega) hy hl cv (by
            rcases dj with q | q
            · exact Or.inr (fun s z => q.2 s (by omega))
            · exact Or.inl q)
          refine jv_iload dX6_leastHead_37 rfl ?_
          refine jv_iload_n dX6_leastHead_39 rfl ?_
          refine jv_icmp_ge 69 dX6_leastHead_40 (fun c40 => ?_) (fun c40 => ?_)
          · refine jv_iinc dX6_leastHead_69 rfl rfl ?_
            refine jv_goto 28 dX6_leastHead_72 ?_
            exact nx
          · exact absurd c40 (by omega)
        | succ k ih2 =>
          intro j y e2 hy hl cv dj
          have hbj := hb j (by omega)
          refine jv_iload dX6_leastHead_37 rfl ?_
          refine jv_iload_n dX6_leastHead_39 rfl ?_
          refine jv_icmp_ge 69 dX6_leastHead_40 (fun c40 => ?_) (fun c40 => ?_)
          · exact absurd c40 (by omega)
          · refine jv_aload_n dX6_leastHead_43 rfl ?_
            refine jv_iload dX6_leastHead_44 rfl ?_
            refine jv_lload_n dX6_leastHead_46 rfl ?_
            refine jv_cV dX6_leastHead_47 jm_X6_62 rfl (by repeat' (first | assumption | exact ⟨_, by assumption⟩ | refine jv_h1 (by decide) ?_ | refine jv_h0 ?_ | refine jv_h1 (by omega) ?_ | refine jv_hs ?_)) rfl (ct_X6_spans K w0 (by omega) (by omega) (by omega) (by omega) (fun rr q1 q2 q3 => ?_))
            refine jv_if_eq 63 dX6_leastHead_50 (fun c50 => ?_) (fun c50 => ?_)
            · refine jv_iinc dX6_leastHead_63 rfl rfl ?_
              refine jv_goto 37 dX6_leastHead_66 ?_
              refine ih2 (j + 1) y (by omega) hy hl cv ?_
              rcases dj with q | q
              · exact Or.inl ⟨q.1, fun s z => by by_cases e : s = j; rw [e]; omega; exact q.2 s (by omega)⟩
              · exact Or.inr q
            · refine jv_aload_n dX6_leastHead_53 rfl ?_
              refine jv_getf dX6_leastHead_54 jf_X6_28 (by repeat' (first | assumption | exact ⟨_, by assumption⟩ | refine jv_h1 (by decide) ?_ | refine jv_h0 ?_ | refine jv_h1 (by omega) ?_ | refine jv_hs ?_)) (by exact rfl) ?_
              refine jv_iload dX6_leastHead_57 rfl ?_
              refine jv_lald dX6_leastHead_59 (by repeat' (first | assumption | exact ⟨_, by assumption⟩ | refine jv_h1 (by decide) ?_ | refine jv_h0 ?_ | refine jv_h1 (by omega) ?_ | refine jv_hs ?_)) ?_
              refine jv_lconst 1 dX6_leastHead_60 ?_
              refine jv_ladd dX6_leastHead_61 ?_
              refine jv_lstore_n dX6_leastHead_62 rfl (Nat.le_of_ble_eq_true rfl) ?_
              refine jv_iinc dX6_leastHead_63 rfl rfl ?_
              refine jv_goto 37 dX6_leastHead_66 ?_
              have hin : lo j ≤ y ∧ y ≤ hi j := by omega
              obtain ⟨g1, g2⟩ := jq_cn_up hi (y := y) (y' := hi j + 1) (by omega) wn
              have g3 := g2 j (by omega) hin.2 (by omega)
              refine ih2 (j + 1) (hi j + 1) (by omega) (by omega) (by omega) (fun z z1 z2 => ?_) (Or.inr ?_)
              · by_cases e : z < y
                · exact cv z z1 e
                · exact ⟨j, by omega, by omega⟩
              · rcases dj with q | q
                · rcases q.1 with q5 | q5
                  · omega
                  · exact absurd hin (q5 j (by omega))
                · omega
      have nx := inner wn 0 y (by omega) hy hl cv (Or.inl ⟨dj, fun s z => by omega⟩)
      refine jv_iload dX6_leastHead_28 rfl ?_
      refine jv_iload_n dX6_leastHead_30 rfl ?_
      refine jv_icmp_ge 75 dX6_leastHead_31 (fun c31 => ?_) (fun c31 => ?_)
      · exact absurd c31 (by omega)
      · refine jv_iconst dX6_leastHead_34 ?_
        refine jv_istore dX6_leastHead_35 rfl (Nat.le_of_ble_eq_true rfl) ?_
        exact nx
  refine jv_iload_n dX6_leastHead_0 rfl ?_
  refine jv_i2l dX6_leastHead_1 ?_
  refine jv_lconst 0 dX6_leastHead_2 ?_
  refine jv_aload_n dX6_leastHead_3 rfl ?_
  refine jv_getf dX6_leastHead_4 jf_X6_31 (by repeat' (first | assumption | exact ⟨_, by assumption⟩ | refine jv_h1 (by decide) ?_ | refine jv_h0 ?_ | refine jv_h1 (by omega) ?_ | refine jv_hs ?_)) (by exact rfl) ?_
  refine jv_iconst dX6_leastHead_7 ?_
  refine jv_isub dX6_leastHead_8 ?_
  refine jv_i2l dX6_leastHead_9 ?_
  refine jv_cN dX6_leastHead_10 jm_X6_66 (ct_X7_within K (fun r q1 q2 q3 => ?_))
  refine jv_if_ne 18 dX6_leastHead_13 (fun c13 => ?_) (fun c13 => ?_)
  · refine jv_aload_n dX6_leastHead_18 rfl ?_
    refine jv_getf dX6_leastHead_19 jf_X6_24 (by repeat' (first | assumption | exact ⟨_, by assumption⟩ | refine jv_h1 (by decide) ?_ | refine jv_h0 ?_ | refine jv_h1 (by omega) ?_ | refine jv_hs ?_)) (by exact rfl) ?_
    refine jv_iload_n dX6_leastHead_22 rfl ?_
    refine jv_lald dX6_leastHead_23 (by repeat' (first | assumption | exact ⟨_, by assumption⟩ | refine jv_h1 (by decide) ?_ | refine jv_h0 ?_ | refine jv_h1 (by omega) ?_ | refine jv_hs ?_)) ?_
    refine jv_lstore_n dX6_leastHead_24 rfl (Nat.le_of_ble_eq_true rfl) ?_
    refine jv_iconst dX6_leastHead_25 ?_
    refine jv_istore dX6_leastHead_26 rfl (Nat.le_of_ble_eq_true rfl) ?_
    exact loop wn 0 (lo wn) none (by omega) (by omega) (by omega) (fun z z1 z2 => by omega) (Or.inl (by omega))
  · exact absurd c13 (by omega)
end FS
