/-! the face's state, head; count on both sides -/
theorem jq_fl {R : List (List (Int × List (Int × Int) × List (Int × Int)))} {s : Nat} {l : List (Int × List (Int × Int) × List (Int × Int))} (h : R[s]? = some l) : (R.take (s + 1)).flatten.length = (R.take s).flatten.length + l.length ∧ ∀ j, j < l.length → R.flatten[(R.take s).flatten.length + j]? = l[j]? := by
  have hs := (List.getElem?_eq_some_iff.mp h).1
  have hl := (List.getElem?_eq_some_iff.mp h).2
  have e1 : R.take (s + 1) = R.take s ++ [l] := by rw [List.take_succ_eq_append_getElem hs, hl]
  refine ⟨by rw [e1]; simp, fun j hj => ?_⟩
  have e2 : R = R.take s ++ (l :: R.drop (s + 1)) := by
    conv => lhs; rw [← List.take_append_drop s R, List.drop_eq_getElem_cons hs, hl]
  have e3 : R.flatten = (R.take s).flatten ++ (l ++ (R.drop (s + 1)).flatten) := by
    conv => lhs; rw [e2]
    simp
  rw [e3, List.getElem?_append_right (by omega), Nat.add_sub_cancel_left, List.getElem?_append_left hj]
/-- what the columns are, by the class's rows -/
def jq_xc (wi he le fa : Int → Int) (c t q y : Int) : Int → Int := fun i => if i = 0 then y else if i = 1 then t else if i = 2 then wi c else if i = 3 then he c else if i = 4 then le c else if i = 5 then fa c else if i = 6 then q else 1
theorem jq_xc_d {va wi he le fa : Int → Int} {c t q : Int} (h : jq_va va wi he le fa c t q) (r : Int → Int) (y : Int) : jq_dot r (jq_x va y) = jq_dot r (jq_xc wi he le fa c t q y) := by
  obtain ⟨h1, h2, h3, h4, h5, h6, h7⟩ := h
  simp [jq_dot, jq_x, jq_xc, h1, h2, h3, h4, h5, h6, h7]
theorem jq_sp_P {R : List (List (Int × List (Int × Int) × List (Int × Int)))} {rl va lo hi wi he le fa : Int → Int} {F : Int → Int → Int} {c t q : Int} {s : Nat} (hF : jq_Fo R.flatten rl F) (hv : jq_va va wi he le fa c t q) (hs : s < R.length) (h : jq_sp rl F va lo hi (R.take s).flatten.length (R.take (s + 1)).flatten.length s) (y : Int) : (lo s ≤ y ∧ y ≤ hi s) ↔ ((0 ≤ y ∧ y ≤ 20000) ∧ jq_Ps R (jq_xc wi he le fa c t q y) s) := by
  obtain ⟨l, hl⟩ : ∃ l, R[s]? = some l := ⟨_, List.getElem?_eq_getElem hs⟩
  obtain ⟨f1, f2⟩ := jq_fl hl
  rw [h.2 y]
  refine and_congr_right fun _ => ⟨fun z => ⟨l, hl, fun T hT => ?_⟩, fun ⟨l', z1, z2⟩ g g1 g2 => ?_⟩
  · obtain ⟨j, hj, ej⟩ := List.getElem_of_mem hT
    have k1 := f2 j hj
    rw [List.getElem?_eq_getElem hj, ej] at k1
    have k2 := z ((R.take s).flatten.length + j) (by omega) (by omega)
    obtain ⟨k3, k4, -⟩ := hF _ T k1
    rw [k3, jq_xc_d hv, k4] at k2
    exact k2
  · rw [hl] at z1
    cases z1
    obtain ⟨j, rfl⟩ : ∃ j, g = (R.take s).flatten.length + j := ⟨g - (R.take s).flatten.length, by omega⟩
    have hj : j < l.length := by omega
    have k1 := f2 j hj
    rw [List.getElem?_eq_getElem hj] at k1
    obtain ⟨k3, k4, -⟩ := hF _ _ k1
    rw [k3, jq_xc_d hv, k4]
    exact z2 _ (List.getElem_mem hj)
theorem jq_tkm {α : Type} (R : List (List α)) : ∀ (b a : Nat), a ≤ b → (R.take a).flatten.length ≤ (R.take b).flatten.length := fun b a h => by
  have e : R.take a = (R.take b).take a := by rw [List.take_take]; congr 1; omega
  have e2 : R.take b = (R.take b).take a ++ (R.take b).drop a := (List.take_append_drop a _).symm
  rw [e]
  conv => rhs; rw [e2]
  rw [List.flatten_append, List.length_append]
  omega
theorem jq_flen {α : Type} {k : Nat} : ∀ (R : List (List α)), (∀ l ∈ R, l.length ≤ k) → R.flatten.length ≤ k * R.length
  | [], _ => by simp
  | l :: R, h => by
    have h1 := jq_flen R (fun z y => h z (List.mem_cons_of_mem _ y))
    have h2 := h l List.mem_cons_self
    rw [List.flatten_cons, List.length_append, List.length_cons, Nat.mul_add]
    omega
/-- nothing but the culverts' values and the rows at p differs -/
def jv_f9 (p : Nat) (h h' : List jv_E) : Prop := ∀ i, ¬ (9 ≤ i ∧ i ≤ 14) → ¬ (p ≤ i ∧ i ≤ p + 35) → h'[i]? = h[i]?
section SH
variable {h : List jv_E} {t0 d0 n : Nat} {en rl lo hi wi he le fa va : Int → Int} {F : Int → Int → Int} {R : List (List (Int × List (Int × Int) × List (Int × Int)))} {post : Option Value → List jv_E → Prop}
theorem jq_R30 (hR : jq_gR R) : R.flatten.length ≤ 30 := by
  have h1 := jq_flen R (fun l z => (hR.2 l z).1)
  have := hR.1
  omega
theorem jq_find {c t q : Int} {u : Nat} (K : Nat) (ht0 : 17 ≤ t0) (bb : jw_B h t0 d0) (w : jw_C h n wi he le fa va) (wt : jw_T h t0 R.length R.flatten.length en rl lo hi F) (hF : jq_Fo R.flatten rl F) (hE : jq_En R en) (hR : jq_gR R) (hC : jq_C n wi he le fa) (hu : u = R.length) (hc : 0 ≤ c ∧ c < n) (ht : 0 ≤ t ∧ t ≤ 20000) (hq : 0 ≤ q ∧ q ≤ 20000) (hva : jq_va va wi he le fa c t q) (hp : ∀ h' lo' hi', jw_T h' t0 R.length R.flatten.length en rl lo' hi' F → (∀ s : Nat, s < R.length → ((0 ≤ lo' s ∧ lo' s ≤ 10000000000000) ∧ (-10000000000000 ≤ hi' s ∧ hi' s ≤ 10000000000000)) ∧ ∀ y, (lo' s ≤ y ∧ y ≤ hi' s) ↔ ((0 ≤ y ∧ y ≤ 20000) ∧ jq_Ps R (jq_xc wi he le fa c t q y) s)) → jv_fr t0 (t0 + 35) h h' → post none h') : jv_Ct yX6_findSpans cX6_findSpans 4 none (K + 3) [.ref t0, .ref 14] h post := by
  have c1 := hC.2 c
  refine ct_X6_findSpans (fun s => (R.take s).flatten.length) K ht0 wt w.2.2.2.2.2 hR.1 (by simp) (fun s z => ⟨hE s z, jq_tkm R _ _ (by omega)⟩) (fun s z => jq_tkm R _ _ z) (by rw [List.take_length]; exact jq_R30 hR) (fun g z => ?_) (fun i z1 z2 => ?_) (fun h' lo' hi' k1 k2 k3 => hp h' lo' hi' k1 (fun s z => ⟨(k2 s z).1, jq_sp_P hF hva z (k2 s z)⟩) k3)
  · rw [List.take_length] at z
    obtain ⟨k1, k2, k3⟩ := hF g _ (List.getElem?_eq_getElem z)
    refine ⟨?_, k3⟩
    have hm := List.getElem_mem z
    obtain ⟨l, hl, hT⟩ := List.mem_flatten.mp hm
    have := ((hR.2 l hl).2 _ hT).1
    omega
  · obtain ⟨h1, h2, h3, h4, h5, h6, h7⟩ := hva
    rcases (show i = 1 ∨ i = 2 ∨ i = 3 ∨ i = 4 ∨ i = 5 ∨ i = 6 ∨ i = 7 by omega) with rfl | rfl | rfl | rfl | rfl | rfl | rfl <;> omega
theorem ct_X7_state {c y t q : Int} (K : Nat) (ht0 : 17 ≤ t0) (bb : jw_B h t0 d0) (w : jw_C h n wi he le fa va) (wt : jw_T h t0 R.length R.flatten.length en rl lo hi F) (hF : jq_Fo R.flatten rl F) (hE : jq_En R en) (hR : jq_gR R) (hC : jq_C n wi he le fa) (hc : jq_rg c) (hy : jq_rg y) (ht : jq_rg t) (hqq : jq_rg q) (hp1 : jq_okS n c y t q → ∀ h' va' lo' hi' r, jw_C h' n wi he le fa va' → jw_T h' t0 R.length R.flatten.length en rl lo' hi' F → jv_f9 t0 h h' → jq_fa R.length (fun s => jq_Ps R (jq_xc wi he le fa c t q y) s) r → post (some (.int (jv_i r))) h') (hp2 : ¬ jq_okS n c y t q → post (some (.int (jv_i (-1)))) h) : jv_Ct yX7_state cX7_state 5 (some .int) (K + 4) [.ref 0, .int (jv_i c), .int (jv_i y), .int (jv_i t), .int (jv_i q)] h post := by
  unfold jw_B at bb
  have w1 := w.1
  have v0 := wt.1
  unfold jq_okS at hp1 hp2
  refine jv_entry (own := RX7) (by decide) rfl (Nat.le_of_ble_eq_true rfl) (fun X hq => ?_)
  refine jv_aload_n dX7_state_0 rfl ?_
  refine jv_getf dX7_state_1 jf_X7_26 (by repeat' (first | assumption | exact ⟨_, by assumption⟩ | refine jv_h1 (by decide) ?_ | refine jv_h0 ?_ | refine jv_h1 (by omega) ?_ | refine jv_hs ?_)) (by exact rfl) ?_
  refine jv_iload_n dX7_state_4 rfl ?_
  refine jv_cV dX7_state_5 jm_X7_147 rfl (by repeat' (first | assumption | exact ⟨_, by assumption⟩ | refine jv_h1 (by decide) ?_ | refine jv_h0 ?_ | refine jv_h1 (by omega) ?_ | refine jv_hs ?_)) rfl (ct_X0_has K w hC.1 hc (fun r1 q11 q12 q13 => ?_))
  refine jv_if_eq 33 dX7_state_8 (fun c8 => ?_) (fun c8 => ?_)
  · refine jv_iconst dX7_state_33 ?_
    exact jv_iret dX7_state_34 hq (hp2 (by omega))
  · refine jv_iload_n dX7_state_11 rfl ?_
    refine jv_cS dX7_state_12 jm_X7_150 (ct_X7_isWaterOrFlow K hy (fun r2 q21 q22 q23 => ?_))
    refine jv_if_eq 33 dX7_state_15 (fun c15 => ?_) (fun c15 => ?_)
    · refine jv_iconst dX7_state_33 ?_
      exact jv_iret dX7_state_34 hq (hp2 (by omega))
    · refine jv_iload_n dX7_state_18 rfl ?_
      refine jv_cS dX7_state_19 jm_X7_150 (ct_X7_isWaterOrFlow K ht (fun r3 q31 q32 q33 => ?_))
      refine jv_if_eq 33 dX7_state_22 (fun c22 => ?_) (fun c22 => ?_)
      · refine jv_iconst dX7_state_33 ?_
        exact jv_iret dX7_state_34 hq (hp2 (by omega))
      · refine jv_iload dX7_state_25 rfl ?_
        refine jv_cS dX7_state_27 jm_X7_150 (ct_X7_isWaterOrFlow K hqq (fun r4 q41 q42 q43 => ?_))
        refine jv_if_ne 35 dX7_state_30 (fun c30 => ?_) (fun c30 => ?_)
        · refine jv_aload_n dX7_state_35 rfl ?_
          refine jv_getf dX7_state_36 jf_X7_40 (by repeat' (first | assumption | exact ⟨_, by assumption⟩ | refine jv_h1 (by decide) ?_ | refine jv_h0 ?_ | refine jv_h1 (by omega) ?_ | refine jv_hs ?_)) (by exact rfl) ?_
          refine jv_aload_n dX7_state_39 rfl ?_
          refine jv_getf dX7_state_40 jf_X7_26 (by repeat' (first | assumption | exact ⟨_, by assumption⟩ | refine jv_h1 (by decide) ?_ | refine jv_h0 ?_ | refine jv_h1 (by omega) ?_ | refine jv_hs ?_)) (by exact rfl) ?_
          refine jv_iload_n dX7_state_43 rfl ?_
          refine jv_iload_n dX7_state_44 rfl ?_
          refine jv_iload dX7_state_45 rfl ?_
          refine jv_cV dX7_state_47 jm_X7_153 rfl (by repeat' (first | assumption | exact ⟨_, by assumption⟩ | refine jv_h1 (by decide) ?_ | refine jv_h0 ?_ | refine jv_h1 (by omega) ?_ | refine jv_hs ?_)) rfl (ct_X0_valuesFor K w hC.1 (by omega) (fun h2 va2 qv w2 f2 => ?_))
          have wt2 : jw_T h2 t0 R.length R.flatten.length en rl lo hi F := jw_T_g wt (fun i z1 z2 => f2 i (by omega))
          have b2 : jw_B h2 t0 d0 := by unfold jw_B; rw [f2 0 (by omega)]; exact bb
          have v1 := wt2.1
          refine jv_cV dX7_state_50 jm_X7_157 rfl (by repeat' (first | assumption | exact ⟨_, by assumption⟩ | refine jv_h1 (by decide) ?_ | refine jv_h0 ?_ | refine jv_h1 (by omega) ?_ | refine jv_hs ?_)) rfl (jq_find K ht0 b2 w2 wt2 hF hE hR hC rfl (c := c) (t := t) (q := q) (by omega) (by omega) (by omega) qv (fun h3 lo3 hi3 wt3 sp3 f3 => ?_))
          have b3 : h3[0]? = some (jv_ob 7 [.ref 1, .ref 5, .ref 9, .ref 15, .ref t0, .ref d0, .ref 89, .ref 95]) := by rw [f3 0 (by omega)]; exact b2
          have w3 : jw_C h3 n wi he le fa va2 := by
            obtain ⟨k1, k2, k3, k4, k5, k6⟩ := w2
            exact ⟨by rw [f3 _ (by omega)]; exact k1, by rw [f3 _ (by omega)]; exact k2, by rw [f3 _ (by omega)]; exact k3, by rw [f3 _ (by omega)]; exact k4, by rw [f3 _ (by omega)]; exact k5, by rw [f3 _ (by omega)]; exact k6⟩
          have v3 := wt3.1
          refine jv_aload_n dX7_state_53 rfl ?_
          refine jv_getf dX7_state_54 jf_X7_40 (by repeat' (first | assumption | exact ⟨_, by assumption⟩ | refine jv_h1 (by decide) ?_ | refine jv_h0 ?_ | refine jv_h1 (by omega) ?_ | refine jv_hs ?_)) (by exact rfl) ?_
          refine jv_iload_n dX7_state_57 rfl ?_
          refine jv_cV dX7_state_58 jm_X7_161 rfl (by repeat' (first | assumption | exact ⟨_, by assumption⟩ | refine jv_h1 (by decide) ?_ | refine jv_h0 ?_ | refine jv_h1 (by omega) ?_ | refine jv_hs ?_)) rfl (ct_X6_firstAt (K + 1) wt3 hR.1 (by omega) (fun s z => (sp3 s z).1) (fun r fa => ?_))
          refine jv_iret dX7_state_61 hq (hp1 (by omega) h3 va2 lo3 hi3 r w3 wt3 (fun i z1 z2 => by rw [f3 i (by omega), f2 i (by omega)]) ?_)
          rcases fa with ⟨z1, z2⟩ | ⟨s, z1, z2, z3, z4⟩
          · exact Or.inl ⟨z1, fun s z zz => z2 s z (((sp3 s z).2 y).mpr ⟨by omega, zz⟩)⟩
          · exact Or.inr ⟨s, z1, z2, (((sp3 s z1).2 y).mp z3).2, fun j z zz => z4 j z (((sp3 j (by omega)).2 y).mpr ⟨by omega, zz⟩)⟩
        · refine jv_iconst dX7_state_33 ?_
          exact jv_iret dX7_state_34 hq (hp2 (by omega))
theorem ct_X7_head {c s t q : Int} (K : Nat) (ht0 : 17 ≤ t0) (bb : jw_B h t0 d0) (w : jw_C h n wi he le fa va) (wt : jw_T h t0 R.length R.flatten.length en rl lo hi F) (hF : jq_Fo R.flatten rl F) (hE : jq_En R en) (hR : jq_gR R) (hC : jq_C n wi he le fa) (hc : jq_rg c) (hs : jq_rg s) (ht : jq_rg t) (hqq : jq_rg q) (hp1 : jq_okH n R.length c s t q → ∀ h' va' lo' hi' r, jw_C h' n wi he le fa va' → jw_T h' t0 R.length R.flatten.length en rl lo' hi' F → jv_f9 t0 h h' → ∀ wn : Nat, s = wn → jq_lh wn (fun s y => (0 ≤ y ∧ y ≤ 20000) ∧ jq_Ps R (jq_xc wi he le fa c t q y) s) r → post (some (.int (jv_i r))) h') (hp2 : ¬ jq_okH n R.length c s t q → post (some (.int (jv_i (-1)))) h) : jv_Ct yX7_head cX7_head 5 (some .int) (K + 4) [.ref 0, .int (jv_i c), .int (jv_i s), .int (jv_i t), .int (jv_i q)] h post := by
  unfold jw_B at bb
  have w1 := w.1
  have v0 := wt.1
  have hR6 := hR.1
  have hs' := hs
  unfold jq_rg at hs'
  unfold jq_okH at hp1 hp2
  refine jv_entry (own := RX7) (by decide) rfl (Nat.le_of_ble_eq_true rfl) (fun X hq => ?_)
  refine jv_aload_n dX7_head_0 rfl ?_
  refine jv_getf dX7_head_1 jf_X7_26 (by repeat' (first | assumption | exact ⟨_, by assumption⟩ | refine jv_h1 (by decide) ?_ | refine jv_h0 ?_ | refine jv_h1 (by omega) ?_ | refine jv_hs ?_)) (by exact rfl) ?_
  refine jv_iload_n dX7_head_4 rfl ?_
  refine jv_cV dX7_head_5 jm_X7_147 rfl (by repeat' (first | assumption | exact ⟨_, by assumption⟩ | refine jv_h1 (by decide) ?_ | refine jv_h0 ?_ | refine jv_h1 (by omega) ?_ | refine jv_hs ?_)) rfl (ct_X0_has K w hC.1 hc (fun r1 q11 q12 q13 => ?_))
  refine jv_if_eq 45 dX7_head_8 (fun c8 => ?_) (fun c8 => ?_)
  · refine jv_iconst dX7_head_45 ?_
    exact jv_iret dX7_head_46 hq (hp2 (by omega))
  · refine jv_iload_n dX7_head_11 rfl ?_
    refine jv_i2l dX7_head_12 ?_
    refine jv_lconst 0 dX7_head_13 ?_
    refine jv_aload_n dX7_head_14 rfl ?_
    refine jv_getf dX7_head_15 jf_X7_40 (by repeat' (first | assumption | exact ⟨_, by assumption⟩ | refine jv_h1 (by decide) ?_ | refine jv_h0 ?_ | refine jv_h1 (by omega) ?_ | refine jv_hs ?_)) (by exact rfl) ?_
    refine jv_cV dX7_head_18 jm_X7_137 rfl (by repeat' (first | assumption | exact ⟨_, by assumption⟩ | refine jv_h1 (by decide) ?_ | refine jv_h0 ?_ | refine jv_h1 (by omega) ?_ | refine jv_hs ?_)) rfl (ct_X6_size K wt ?_)
    refine jv_iconst dX7_head_21 ?_
    refine jv_isub dX7_head_22 ?_
    refine jv_i2l dX7_head_23 ?_
    refine jv_cS dX7_head_24 jm_X7_63 (ct_X7_within K (fun r2 q21 q22 q23 => ?_))
    refine jv_if_eq 45 dX7_head_27 (fun c27 => ?_) (fun c27 => ?_)
    · refine jv_iconst dX7_head_45 ?_
      exact jv_iret dX7_head_46 hq (hp2 (by omega))
    · refine jv_iload_n dX7_head_30 rfl ?_
      refine jv_cS dX7_head_31 jm_X7_150 (ct_X7_isWaterOrFlow K ht (fun r3 q31 q32 q33 => ?_))
      refine jv_if_eq 45 dX7_head_34 (fun c34 => ?_) (fun c34 => ?_)
      · refine jv_iconst dX7_head_45 ?_
        exact jv_iret dX7_head_46 hq (hp2 (by omega))
      · refine jv_iload dX7_head_37 rfl ?_
        refine jv_cS dX7_head_39 jm_X7_150 (ct_X7_isWaterOrFlow K hqq (fun r4 q41 q42 q43 => ?_))
        refine jv_if_ne 47 dX7_head_42 (fun c42 => ?_) (fun c42 => ?_)
        · refine jv_aload_n dX7_head_47 rfl ?_
          refine jv_getf dX7_head_48 jf_X7_40 (by repeat' (first | assumption | exact ⟨_, by assumption⟩ | refine jv_h1 (by decide) ?_ | refine jv_h0 ?_ | refine jv_h1 (by omega) ?_ | refine jv_hs ?_)) (by exact rfl) ?_
          refine jv_aload_n dX7_head_51 rfl ?_
          refine jv_getf dX7_head_52 jf_X7_26 (by repeat' (first | assumption | exact ⟨_, by assumption⟩ | refine jv_h1 (by decide) ?_ | refine jv_h0 ?_ | refine jv_h1 (by omega) ?_ | refine jv_hs ?_)) (by exact rfl) ?_
          refine jv_iload_n dX7_head_55 rfl ?_
          refine jv_iload_n dX7_head_56 rfl ?_
          refine jv_iload dX7_head_57 rfl ?_
          refine jv_cV dX7_head_59 jm_X7_153 rfl (by repeat' (first | assumption | exact ⟨_, by assumption⟩ | refine jv_h1 (by decide) ?_ | refine jv_h0 ?_ | refine jv_h1 (by omega) ?_ | refine jv_hs ?_)) rfl (ct_X0_valuesFor K w hC.1 (by omega) (fun h2 va2 qv w2 f2 => ?_))
          have wt2 : jw_T h2 t0 R.length R.flatten.length en rl lo hi F := jw_T_g wt (fun i z1 z2 => f2 i (by omega))
          have b2 : jw_B h2 t0 d0 := by unfold jw_B; rw [f2 0 (by omega)]; exact bb
          have v1 := wt2.1
          refine jv_cV dX7_head_62 jm_X7_157 rfl (by repeat' (first | assumption | exact ⟨_, by assumption⟩ | refine jv_h1 (by decide) ?_ | refine jv_h0 ?_ | refine jv_h1 (by omega) ?_ | refine jv_hs ?_)) rfl (jq_find K ht0 b2 w2 wt2 hF hE hR hC rfl (c := c) (t := t) (q := q) (by omega) (by omega) (by omega) qv (fun h3 lo3 hi3 wt3 sp3 f3 => ?_))
          have b3 : h3[0]? = some (jv_ob 7 [.ref 1, .ref 5, .ref 9, .ref 15, .ref t0, .ref d0, .ref 89, .ref 95]) := by rw [f3 0 (by omega)]; exact b2
          have w3 : jw_C h3 n wi he le fa va2 := by
            obtain ⟨k1, k2, k3, k4, k5, k6⟩ := w2
            exact ⟨by rw [f3 _ (by omega)]; exact k1, by rw [f3 _ (by omega)]; exact k2, by rw [f3 _ (by omega)]; exact k3, by rw [f3 _ (by omega)]; exact k4, by rw [f3 _ (by omega)]; exact k5, by rw [f3 _ (by omega)]; exact k6⟩
          have v3 := wt3.1
          obtain ⟨wn, rfl⟩ : ∃ wn : Nat, s = wn := ⟨s.toNat, by omega⟩
          refine jv_aload_n dX7_head_65 rfl ?_
          refine jv_getf dX7_head_66 jf_X7_40 (by repeat' (first | assumption | exact ⟨_, by assumption⟩ | refine jv_h1 (by decide) ?_ | refine jv_h0 ?_ | refine jv_h1 (by omega) ?_ | refine jv_hs ?_)) (by exact rfl) ?_
          refine jv_iload_n dX7_head_69 rfl ?_
          refine jv_cV dX7_head_70 jm_X7_164 rfl (by repeat' (first | assumption | exact ⟨_, by assumption⟩ | refine jv_h1 (by decide) ?_ | refine jv_h0 ?_ | refine jv_h1 (by omega) ?_ | refine jv_hs ?_)) rfl (ct_X6_leastHead (K + 1) wt3 hR.1 (by omega) (fun s z => (sp3 s z).1) (fun r lh => ?_))
          refine jv_iret dX7_head_73 hq (hp1 (by omega) h3 va2 lo3 hi3 r w3 wt3 (fun i z1 z2 => by rw [f3 i (by omega), f2 i (by omega)]) wn rfl ?_)
          have hwn : wn < R.length := by omega
          rcases lh with ⟨z1, z2⟩ | ⟨z1, z2, z3⟩
          · refine Or.inl ⟨z1, fun y zz => ?_⟩
            obtain ⟨j, y1, y2⟩ := z2 y (((sp3 wn hwn).2 y).mpr zz)
            exact ⟨j, y1, ((sp3 j (by omega)).2 y).mp y2⟩
          · refine Or.inr ⟨((sp3 wn hwn).2 r).mp z1, fun j y1 y2 => z2 j y1 (((sp3 j (by omega)).2 r).mpr y2), fun y yl zz => ?_⟩
            obtain ⟨j, y1, y2⟩ := z3 y yl (((sp3 wn hwn).2 y).mpr zz)
            exact ⟨j, y1, ((sp3 j (by omega)).2 y).mp y2⟩
        · refine jv_iconst dX7_head_45 ?_
          exact jv_iret dX7_head_46 hq (hp2 (by omega))
end SH
/-- what count answers -/
def jq_cu (wh a0 a1 a2 a3 a4 a5 a6 : Int) : Int := if wh = 0 then a0 else if wh = 1 then a1 else if wh = 2 then a2 else if wh = 3 then a3 else if wh = 4 then a4 else if wh = 5 then a5 else if wh = 6 then a6 else -1
section CO
variable {h : List jv_E} {t0 d0 n0 n1 n2 n4 u t : Nat} {n5 n6 a al hr : Int} {ys ms ds lv ar co wi he le fa va en rl lo hi cm hd go ab so sg wy : Int → Int} {F : Int → Int → Int} {post : Option Value → List jv_E → Prop}
theorem ct_X7_count {wh : Int} (K : Nat) (bb : jw_B h t0 d0) (wr : jw_R h n0 ys ms ds) (wp : jw_P h n1 lv ar co) (wc : jw_C h n2 wi he le fa va) (wt : jw_T h t0 u t en rl lo hi F) (wd : jw_D h n4 cm hd go ab so al hr) (ww : jw_W h n5 wy) (ws : jw_S h n6 a sg) (hw : jq_rg wh) (hp : post (some (.int (jv_i (jq_cu wh n0 n1 n2 u n4 n5 n6)))) h) : jv_Ct yX7_count cX7_count 2 (some .int) (K + 1) [.ref 0, .int (jv_i wh)] h post := by
  unfold jw_B at bb
  have r1 := wr.1
  have r2 := wp.1
  have r3 := wc.1
  have r4 := wt.1
  have r5 := wd.1
  have r6 := ww.1
  have r7 := ws.1
  unfold jq_rg at hw
  unfold jq_cu at hp
  refine jv_entry (own := RX7) (by decide) rfl (Nat.le_of_ble_eq_true rfl) (fun X hq => ?_)
  refine jv_iload_n dX7_count_0 rfl ?_
  by_cases e0 : wh = 0
  · subst e0
    refine jv_tabIn 44 dX7_count_1 (by decide) (by decide) rfl ?_
    refine jv_aload_n dX7_count_44 rfl ?_
    refine jv_getf dX7_count_45 jf_X7_10 (by repeat' (first | assumption | exact ⟨_, by assumption⟩ | refine jv_h1 (by decide) ?_ | refine jv_h0 ?_ | refine jv_h1 (by omega) ?_ | refine jv_hs ?_)) (by exact rfl) ?_
    refine jv_cV dX7_count_48 jm_X7_192 rfl (by repeat' (first | assumption | exact ⟨_, by assumption⟩ | refine jv_h1 (by decide) ?_ | refine jv_h0 ?_ | refine jv_h1 (by omega) ?_ | refine jv_hs ?_)) rfl (ct_X3_size K wr ?_)
    exact jv_iret dX7_count_51 hq (hp) (by first | rfl | decide)
  rw [if_neg e0] at hp
  by_cases e1 : wh = 1
  · subst e1
    refine jv_tabIn 52 dX7_count_1 (by decide) (by decide) rfl ?_
    refine jv_aload_n dX7_count_52 rfl ?_
    refine jv_getf dX7_count_53 jf_X7_19 (by repeat' (first | assumption | exact ⟨_, by assumption⟩ | refine jv_h1 (by decide) ?_ | refine jv_h0 ?_ | refine jv_h1 (by omega) ?_ | refine jv_hs ?_)) (by exact rfl) ?_
    refine jv_cV dX7_count_56 jm_X7_193 rfl (by repeat' (first | assumption | exact ⟨_, by assumption⟩ | refine jv_h1 (by decide) ?_ | refine jv_h0 ?_ | refine jv_h1 (by omega) ?_ | refine jv_hs ?_)) rfl (ct_X2_size K wp ?_)
    exact jv_iret dX7_count_59 hq (hp) (by first | rfl | decide)
  rw [if_neg e1] at hp
  by_cases e2 : wh = 2
  · subst e2
    refine jv_tabIn 60 dX7_count_1 (by decide) (by decide) rfl ?_
    refine jv_aload_n dX7_count_60 rfl ?_
    refine jv_getf dX7_count_61 jf_X7_26 (by repeat' (first | assumption | exact ⟨_, by assumption⟩ | refine jv_h1 (by decide) ?_ | refine jv_h0 ?_ | refine jv_h1 (by omega) ?_ | refine jv_hs ?_)) (by exact rfl) ?_
    refine jv_cV dX7_count_64 jm_X7_194 rfl (by repeat' (first | assumption | exact ⟨_, by assumption⟩ | refine jv_h1 (by decide) ?_ | refine jv_h0 ?_ | refine jv_h1 (by omega) ?_ | refine jv_hs ?_)) rfl (ct_X0_size K wc ?_)
    exact jv_iret dX7_count_67 hq (hp) (by first | rfl | decide)
  rw [if_neg e2] at hp
  by_cases e3 : wh = 3
  · subst e3
    refine jv_tabIn 68 dX7_count_1 (by decide) (by decide) rfl ?_
    refine jv_aload_n dX7_count_68 rfl ?_
    refine jv_getf dX7_count_69 jf_X7_40 (by repeat' (first | assumption | exact ⟨_, by assumption⟩ | refine jv_h1 (by decide) ?_ | refine jv_h0 ?_ | refine jv_h1 (by omega) ?_ | refine jv_hs ?_)) (by exact rfl) ?_
    refine jv_cV dX7_count_72 jm_X7_137 rfl (by repeat' (first | assumption | exact ⟨_, by assumption⟩ | refine jv_h1 (by decide) ?_ | refine jv_h0 ?_ | refine jv_h1 (by omega) ?_ | refine jv_hs ?_)) rfl (ct_X6_size K wt ?_)
    exact jv_iret dX7_count_75 hq (hp) (by first | rfl | decide)
  rw [if_neg e3] at hp
  by_cases e4 : wh = 4
  · subst e4
    refine jv_tabIn 76 dX7_count_1 (by decide) (by decide) rfl ?_
    refine jv_aload_n dX7_count_76 rfl ?_
    refine jv_getf dX7_count_77 jf_X7_50 (by repeat' (first | assumption | exact ⟨_, by assumption⟩ | refine jv_h1 (by decide) ?_ | refine jv_h0 ?_ | refine jv_h1 (by omega) ?_ | refine jv_hs ?_)) (by exact rfl) ?_
    refine jv_cV dX7_count_80 jm_X7_195 rfl (by repeat' (first | assumption | exact ⟨_, by assumption⟩ | refine jv_h1 (by decide) ?_ | refine jv_h0 ?_ | refine jv_h1 (by omega) ?_ | refine jv_hs ?_)) rfl (ct_X1_size K wd ?_)
    exact jv_iret dX7_count_83 hq (hp) (by first | rfl | decide)
  rw [if_neg e4] at hp
  by_cases e5 : wh = 5
  · subst e5
    refine jv_tabIn 84 dX7_count_1 (by decide) (by decide) rfl ?_
    refine jv_aload_n dX7_count_84 rfl ?_
    refine jv_getf dX7_count_85 jf_X7_57 (by repeat' (first | assumption | exact ⟨_, by assumption⟩ | refine jv_h1 (by decide) ?_ | refine jv_h0 ?_ | refine jv_h1 (by omega) ?_ | refine jv_hs ?_)) (by exact rfl) ?_
    refine jv_cV dX7_count_88 jm_X7_196 rfl (by repeat' (first | assumption | exact ⟨_, by assumption⟩ | refine jv_h1 (by decide) ?_ | refine jv_h0 ?_ | refine jv_h1 (by omega) ?_ | refine jv_hs ?_)) rfl (ct_X4_size K ww ?_)
    exact jv_iret dX7_count_91 hq (hp) (by first | rfl | decide)
  rw [if_neg e5] at hp
  by_cases e6 : wh = 6
  · subst e6
    refine jv_tabIn 92 dX7_count_1 (by decide) (by decide) rfl ?_
    refine jv_aload_n dX7_count_92 rfl ?_
    refine jv_getf dX7_count_93 jf_X7_33 (by repeat' (first | assumption | exact ⟨_, by assumption⟩ | refine jv_h1 (by decide) ?_ | refine jv_h0 ?_ | refine jv_h1 (by omega) ?_ | refine jv_hs ?_)) (by exact rfl) ?_
    refine jv_cV dX7_count_96 jm_X7_197 rfl (by repeat' (first | assumption | exact ⟨_, by assumption⟩ | refine jv_h1 (by decide) ?_ | refine jv_h0 ?_ | refine jv_h1 (by omega) ?_ | refine jv_hs ?_)) rfl (ct_X5_size K ws ?_)
    exact jv_iret dX7_count_99 hq (hp) (by first | rfl | decide)
  rw [if_neg e6] at hp
  refine jv_tabOut 100 dX7_count_1 (by omega) ?_
  refine jv_iconst dX7_count_100 ?_
  exact jv_iret dX7_count_101 hq (hp) (by first | rfl | decide)
end CO
section CM
variable {h : List jv_E} {rr lv cu si st a wr da ra wa : Int} {post : Option Value → List jv_E → Prop}
theorem ct_X8_count {wh : Int} (K : Nat) (o : jw_O h rr lv cu si st a wr da ra wa) (hw : jq_rg wh) (hp : post (some (.int (jv_i (jq_cu wh rr lv cu st da wa si)))) h) : jv_Ct yX8_count cX8_count 2 (some .int) K [.ref 97, .int (jv_i wh)] h post := by
  unfold jw_O at o
  unfold jq_rg at hw
  unfold jq_cu at hp
  refine jv_entry (own := RX8) (by decide) rfl (Nat.le_of_ble_eq_true rfl) (fun X hq => ?_)
  refine jv_iload_n dX8_count_0 rfl ?_
  by_cases e0 : wh = 0
  · subst e0
    refine jv_tabIn 44 dX8_count_1 (by decide) (by decide) rfl ?_
    refine jv_aload_n dX8_count_44 rfl ?_
    refine jv_getf dX8_count_45 jf_X8_72 (by repeat' (first | assumption | exact ⟨_, by assumption⟩ | refine jv_h1 (by decide) ?_ | refine jv_h0 ?_ | refine jv_h1 (by omega) ?_ | refine jv_hs ?_)) (by exact rfl) ?_
    exact jv_iret dX8_count_48 hq (hp) (by first | rfl | decide)
  rw [if_neg e0] at hp
  by_cases e1 : wh = 1
  · subst e1
    refine jv_tabIn 49 dX8_count_1 (by decide) (by decide) rfl ?_
    refine jv_aload_n dX8_count_49 rfl ?_
    refine jv_getf dX8_count_50 jf_X8_96 (by repeat' (first | assumption | exact ⟨_, by assumption⟩ | refine jv_h1 (by decide) ?_ | refine jv_h0 ?_ | refine jv_h1 (by omega) ?_ | refine jv_hs ?_)) (by exact rfl) ?_
    exact jv_iret dX8_count_53 hq (hp) (by first | rfl | decide)
  rw [if_neg e1] at hp
  by_cases e2 : wh = 2
  · subst e2
    refine jv_tabIn 54 dX8_count_1 (by decide) (by decide) rfl ?_
    refine jv_aload_n dX8_count_54 rfl ?_
    refine jv_getf dX8_count_55 jf_X8_113 (by repeat' (first | assumption | exact ⟨_, by assumption⟩ | refine jv_h1 (by decide) ?_ | refine jv_h0 ?_ | refine jv_h1 (by omega) ?_ | refine jv_hs ?_)) (by exact rfl) ?_
    exact jv_iret dX8_count_58 hq (hp) (by first | rfl | decide)
  rw [if_neg e2] at hp
  by_cases e3 : wh = 3
  · subst e3
    refine jv_tabIn 59 dX8_count_1 (by decide) (by decide) rfl ?_
    refine jv_aload_n dX8_count_59 rfl ?_
    refine jv_getf dX8_count_60 jf_X8_149 (by repeat' (first | assumption | exact ⟨_, by assumption⟩ | refine jv_h1 (by decide) ?_ | refine jv_h0 ?_ | refine jv_h1 (by omega) ?_ | refine jv_hs ?_)) (by exact rfl) ?_
    exact jv_iret dX8_count_63 hq (hp) (by first | rfl | decide)
  rw [if_neg e3] at hp
  by_cases e4 : wh = 4
  · subst e4
    refine jv_tabIn 64 dX8_count_1 (by decide) (by decide) rfl ?_
    refine jv_aload_n dX8_count_64 rfl ?_
    refine jv_getf dX8_count_65 jf_X8_174 (by repeat' (first | assumption | exact ⟨_, by assumption⟩ | refine jv_h1 (by decide) ?_ | refine jv_h0 ?_ | refine jv_h1 (by omega) ?_ | refine jv_hs ?_)) (by exact rfl) ?_
    exact jv_iret dX8_count_68 hq (hp) (by first | rfl | decide)
  rw [if_neg e4] at hp
  by_cases e5 : wh = 5
  · subst e5
    refine jv_tabIn 69 dX8_count_1 (by decide) (by decide) rfl ?_
    refine jv_aload_n dX8_count_69 rfl ?_
    refine jv_getf dX8_count_70 jf_X8_192 (by repeat' (first | assumption | exact ⟨_, by assumption⟩ | refine jv_h1 (by decide) ?_ | refine jv_h0 ?_ | refine jv_h1 (by omega) ?_ | refine jv_hs ?_)) (by exact rfl) ?_
    exact jv_iret dX8_count_73 hq (hp) (by first | rfl | decide)
  rw [if_neg e5] at hp
  by_cases e6 : wh = 6
  · subst e6
    refine jv_tabIn 74 dX8_count_1 (by decide) (by decide) rfl ?_
    refine jv_aload_n dX8_count_74 rfl ?_
    refine jv_getf dX8_count_75 jf_X8_120 (by repeat' (first | assumption | exact ⟨_, by assumption⟩ | refine jv_h1 (by decide) ?_ | refine jv_h0 ?_ | refine jv_h1 (by omega) ?_ | refine jv_hs ?_)) (by exact rfl) ?_
    exact jv_iret dX8_count_78 hq (hp) (by first | rfl | decide)
  rw [if_neg e6] at hp
  refine jv_tabOut 79 dX8_count_1 (by omega) ?_
  refine jv_iconst dX8_count_79 ?_
  exact jv_iret dX8_count_80 hq (hp) (by first | rfl | decide)
end CM
