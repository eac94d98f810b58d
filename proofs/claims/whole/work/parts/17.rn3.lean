/-! THE FACE'S RAINS, and the reference's -/
def jq_rg (x : Int) : Prop := -2147483648 ≤ x ∧ x ≤ 2147483647
def jv_fs (P : List Nat) (h h' : List jv_E) : Prop := ∀ i, i ∉ P → h'[i]? = h[i]?
theorem jv_fs_rf {P : List Nat} {h : List jv_E} : jv_fs P h h := fun _ _ => rfl
theorem jv_fs_set {P : List Nat} {a : Nat} {h h' : List jv_E} {c : jv_E} (ha : a ∈ P) (q : jv_fs P h h') : jv_fs P h (h'.set a c) := fun i hi => by
  rw [List.getElem?_set_ne (show a ≠ i from fun e => hi (e ▸ ha))]
  exact q i hi
/-- the object of the face: told and draft at places t and d -/
def jw_B (h : List jv_E) (t d : Nat) : Prop := h[0]? = some (jv_ob 7 [.ref 1, .ref 5, .ref 9, .ref 15, .ref t, .ref d, .ref 89, .ref 95])
def jq_okR (n : Nat) (ys ms ds : Int → Int) (y mi de : Int) : Prop := (1 ≤ y ∧ y ≤ 1000) ∧ (1 ≤ mi ∧ mi ≤ 10000) ∧ (1 ≤ de ∧ de ≤ 100000) ∧ jq_ok n ys ms ds y mi de
def jq_wst (n : Nat) (ys ms ds : Int → Int) (y ar ou : Int) : Int := if (0 ≤ ar ∧ ar ≤ 1000000) ∧ (0 ≤ ou ∧ ou ≤ 100000) then jq_bst ys (jq_nd ms ds ar ou) y n else -1
def jq_vol (n : Nat) (ys ms ds : Int → Int) (y ar ou : Int) : Int := if jq_wst n ys ms ds y ar ou = -1 then -1 else max 0 (jq_nd ms ds ar ou (jq_wst n ys ms ds y ar ou))
def jq_by (n : Nat) (ys ms ds : Int → Int) (y ar ou : Int) : Int := if jq_wst n ys ms ds y ar ou = -1 then -1 else ms (jq_wst n ys ms ds y ar ou)
def jq_out (n : Nat) (ys ms ds : Int → Int) (y ar ro : Int) : Int := if (0 ≤ ar ∧ ar ≤ 1000000) ∧ (0 ≤ ro ∧ ro ≤ 1125899906842624) ∧ (0 ≤ jq_lo ys (jq_lf ms ds ar ro) y n ∧ jq_lo ys (jq_lf ms ds ar ro) y n ≤ 100000) then jq_lo ys (jq_lf ms ds ar ro) y n else -1
theorem jq_wst_in {n : Nat} {ys ms ds : Int → Int} {y ar ou : Int} : jq_wst n ys ms ds y ar ou = -1 ∨ (((0 ≤ ar ∧ ar ≤ 1000000) ∧ (0 ≤ ou ∧ ou ≤ 100000)) ∧ 0 ≤ jq_wst n ys ms ds y ar ou ∧ jq_wst n ys ms ds y ar ou < n) := by
  unfold jq_wst
  split
  · have := jq_bst_in ys (jq_nd ms ds ar ou) y n
    omega
  · exact Or.inl rfl
section RN3
variable {h : List jv_E} {n t d : Nat} {ys ms ds : Int → Int} {post : Option Value → List jv_E → Prop}
theorem ct_X7_rain {y mi de : Int} (K : Nat) (b : jw_B h t d) (w : jw_R h n ys ms ds) (hR : jq_R n ys ms ds) (hy : jq_rg y) (hm : jq_rg mi) (hd : jq_rg de) (hp1 : jq_okR n ys ms ds y mi de → ∀ h', jw_R h' (n + 1) (jv_up ys n y) (jv_up ms n mi) (jv_up ds n de) → jv_fr 1 4 h h' → post (some (.int (jv_i (jq_cnt ys y n + 1)))) h') (hp2 : ¬ jq_okR n ys ms ds y mi de → post (some (.int (jv_i (-1)))) h) : jv_Ct yX7_rain cX7_rain 4 (some .int) (K + 2) [.ref 0, .int (jv_i y), .int (jv_i mi), .int (jv_i de)] h post := by
  have b0 := b
  unfold jw_B at b
  have w1 := w.1
  unfold jq_rg at hy hm hd
  refine jv_entry (own := RX7) (by decide) rfl (Nat.le_of_ble_eq_true rfl) (fun X hq => ?_)
  refine jv_iload_n dX7_rain_0 rfl ?_
  refine jv_i2l dX7_rain_1 ?_
  refine jv_lconst 1 dX7_rain_2 ?_
  refine jv_ldc2 dX7_rain_3 jk_X7_61 ?_
  refine jv_cS dX7_rain_6 jm_X7_63 (ct_X7_within K (fun r1 q11 q12 q13 => ?_))
  refine jv_if_eq 36 dX7_rain_9 (fun c9 => ?_) (fun c9 => ?_)
  · refine jv_iconst dX7_rain_36 ?_
    exact jv_iret dX7_rain_37 hq (hp2 (fun z => by have z1 := z.1; have z2 := z.2.1; have z3 := z.2.2.1; omega))
  · refine jv_iload_n dX7_rain_12 rfl ?_
    refine jv_i2l dX7_rain_13 ?_
    refine jv_lconst 1 dX7_rain_14 ?_
    refine jv_ldc2 dX7_rain_15 jk_X7_67 ?_
    refine jv_cS dX7_rain_18 jm_X7_63 (ct_X7_within K (fun r2 q21 q22 q23 => ?_))
    refine jv_if_eq 36 dX7_rain_21 (fun c21 => ?_) (fun c21 => ?_)
    · refine jv_iconst dX7_rain_36 ?_
      exact jv_iret dX7_rain_37 hq (hp2 (fun z => by have z1 := z.1; have z2 := z.2.1; have z3 := z.2.2.1; omega))
    · refine jv_iload_n dX7_rain_24 rfl ?_
      refine jv_i2l dX7_rain_25 ?_
      refine jv_lconst 1 dX7_rain_26 ?_
      refine jv_ldc2 dX7_rain_27 jk_X7_69 ?_
      refine jv_cS dX7_rain_30 jm_X7_63 (ct_X7_within K (fun r3 q31 q32 q33 => ?_))
      refine jv_if_ne 38 dX7_rain_33 (fun c33 => ?_) (fun c33 => ?_)
      · refine jv_aload_n dX7_rain_38 rfl ?_
        refine jv_getf dX7_rain_39 jf_X7_10 (by repeat' (first | assumption | exact ⟨_, by assumption⟩ | refine jv_h1 (by omega) ?_ | refine jv_h0 ?_ | refine jv_hs ?_)) (by exact rfl) ?_
        refine jv_iload_n dX7_rain_42 rfl ?_
        refine jv_iload_n dX7_rain_43 rfl ?_
        refine jv_iload_n dX7_rain_44 rfl ?_
        refine jv_cV dX7_rain_45 jm_X7_71 rfl (by repeat' (first | assumption | exact ⟨_, by assumption⟩ | refine jv_h1 (by omega) ?_ | refine jv_h0 ?_ | refine jv_hs ?_)) rfl (ct_X3_add K w hR (by omega) (by omega) (by omega) (fun q h' w' fr => ?_) (fun q => ?_))
        · exact jv_iret dX7_rain_48 hq (hp1 ⟨by omega, by omega, by omega, q⟩ h' w' fr)
        · exact jv_iret dX7_rain_48 hq (hp2 (fun z => q z.2.2.2))
      · refine jv_iconst dX7_rain_36 ?_
        exact jv_iret dX7_rain_37 hq (hp2 (fun z => by have z1 := z.1; have z2 := z.2.1; have z3 := z.2.2.1; omega))
theorem ct_X7_neediestRain {y ar ou : Int} (K : Nat) (b : jw_B h t d) (w : jw_R h n ys ms ds) (hR : jq_R n ys ms ds) (hy : jq_rg y) (ha : jq_rg ar) (ho : jq_rg ou) (hp : post (some (.int (jv_i (jq_wst n ys ms ds y ar ou)))) h) : jv_Ct yX7_neediestRain cX7_neediestRain 4 (some .int) (K + 3) [.ref 0, .int (jv_i y), .int (jv_i ar), .int (jv_i ou)] h post := by
  unfold jw_B at b
  have w1 := w.1
  unfold jq_rg at hy ha ho
  refine jv_entry (own := RX7) (by decide) rfl (Nat.le_of_ble_eq_true rfl) (fun X hq => ?_)
  refine jv_iload_n dX7_neediestRain_0 rfl ?_
  refine jv_i2l dX7_neediestRain_1 ?_
  refine jv_lconst 0 dX7_neediestRain_2 ?_
  refine jv_ldc2 dX7_neediestRain_3 jk_X7_94 ?_
  refine jv_cS dX7_neediestRain_6 jm_X7_63 (ct_X7_within K (fun r1 q11 q12 q13 => ?_))
  refine jv_if_eq 24 dX7_neediestRain_9 (fun c9 => ?_) (fun c9 => ?_)
  · refine jv_iconst dX7_neediestRain_24 ?_
    exact jv_iret dX7_neediestRain_25 hq (by rw [jq_wst, if_neg (by omega)] at hp; exact hp)
  · refine jv_iload_n dX7_neediestRain_12 rfl ?_
    refine jv_i2l dX7_neediestRain_13 ?_
    refine jv_lconst 0 dX7_neediestRain_14 ?_
    refine jv_ldc2 dX7_neediestRain_15 jk_X7_69 ?_
    refine jv_cS dX7_neediestRain_18 jm_X7_63 (ct_X7_within K (fun r2 q21 q22 q23 => ?_))
    refine jv_if_ne 26 dX7_neediestRain_21 (fun c21 => ?_) (fun c21 => ?_)
    · refine jv_aload_n dX7_neediestRain_26 rfl ?_
      refine jv_getf dX7_neediestRain_27 jf_X7_10 (by repeat' (first | assumption | exact ⟨_, by assumption⟩ | refine jv_h1 (by omega) ?_ | refine jv_h0 ?_ | refine jv_hs ?_)) (by exact rfl) ?_
      refine jv_iload_n dX7_neediestRain_30 rfl ?_
      refine jv_iload_n dX7_neediestRain_31 rfl ?_
      refine jv_iload_n dX7_neediestRain_32 rfl ?_
      refine jv_cV dX7_neediestRain_33 jm_X7_198 rfl (by repeat' (first | assumption | exact ⟨_, by assumption⟩ | refine jv_h1 (by omega) ?_ | refine jv_h0 ?_ | refine jv_hs ?_)) rfl (ct_X3_neediest K w hR hy (by omega) (by omega) ?_)
      exact jv_iret dX7_neediestRain_36 hq (by rw [jq_wst, if_pos (by omega)] at hp; exact hp)
    · refine jv_iconst dX7_neediestRain_24 ?_
      exact jv_iret dX7_neediestRain_25 hq (by rw [jq_wst, if_neg (by omega)] at hp; exact hp)
theorem ct_X7_volume {y ar ou : Int} (K : Nat) (b : jw_B h t d) (w : jw_R h n ys ms ds) (hR : jq_R n ys ms ds) (hy : jq_rg y) (ha : jq_rg ar) (ho : jq_rg ou) (hp : post (some (.long (jv_l (jq_vol n ys ms ds y ar ou)))) h) : jv_Ct yX7_volume cX7_volume 5 (some .long) (K + 4) [.ref 0, .int (jv_i y), .int (jv_i ar), .int (jv_i ou)] h post := by
  have b0 := b
  unfold jw_B at b
  have w1 := w.1
  have hn := hR.1
  have r9 := jq_wst_in (n := n) (ys := ys) (ms := ms) (ds := ds) (y := y) (ar := ar) (ou := ou)
  refine jv_entry (own := RX7) (by decide) rfl (Nat.le_of_ble_eq_true rfl) (fun X hq => ?_)
  refine jv_aload_n dX7_volume_0 rfl ?_
  refine jv_iload_n dX7_volume_1 rfl ?_
  refine jv_iload_n dX7_volume_2 rfl ?_
  refine jv_iload_n dX7_volume_3 rfl ?_
  refine jv_cV dX7_volume_4 jm_X7_75 rfl (by repeat' (first | assumption | exact ⟨_, by assumption⟩ | refine jv_h1 (by omega) ?_ | refine jv_h0 ?_ | refine jv_hs ?_)) rfl (ct_X7_neediestRain K b0 w hR hy ha ho ?_)
  refine jv_istore dX7_volume_7 rfl (Nat.le_of_ble_eq_true rfl) ?_
  refine jv_iload dX7_volume_9 rfl ?_
  refine jv_iconst dX7_volume_11 ?_
  refine jv_icmp_ne 21 dX7_volume_12 (fun c12 => ?_) (fun c12 => ?_)
  · refine jv_lconst 0 dX7_volume_21 ?_
    refine jv_aload_n dX7_volume_22 rfl ?_
    refine jv_getf dX7_volume_23 jf_X7_10 (by repeat' (first | assumption | exact ⟨_, by assumption⟩ | refine jv_h1 (by omega) ?_ | refine jv_h0 ?_ | refine jv_hs ?_)) (by exact rfl) ?_
    refine jv_iload dX7_volume_26 rfl ?_
    refine jv_iload_n dX7_volume_28 rfl ?_
    refine jv_iload_n dX7_volume_29 rfl ?_
    refine jv_cV dX7_volume_30 jm_X7_80 rfl (by repeat' (first | assumption | exact ⟨_, by assumption⟩ | refine jv_h1 (by omega) ?_ | refine jv_h0 ?_ | refine jv_hs ?_)) rfl (ct_X3_need K w hR (by omega) (by omega) (by omega) ?_)
    have r8 := jq_nd_in hR (ar := ar) (ou := ou) (by omega) (by omega) (jq_wst n ys ms ds y ar ou)
    refine jv_cS dX7_volume_33 jm_X7_84 (ct_J9_max K (fun r q => ?_))
    exact jv_lret dX7_volume_36 hq (by rw [jq_vol, if_neg c12] at hp; rw [show r = max 0 (jq_nd ms ds ar ou (jq_wst n ys ms ds y ar ou)) by omega]; exact hp)
  · refine jv_ldc2 dX7_volume_15 jk_X7_78 ?_
    refine jv_goto 36 dX7_volume_18 ?_
    exact jv_lret dX7_volume_36 hq (by rw [jq_vol, if_pos c12] at hp; exact hp)
theorem ct_X7_by {y ar ou : Int} (K : Nat) (b : jw_B h t d) (w : jw_R h n ys ms ds) (hR : jq_R n ys ms ds) (hy : jq_rg y) (ha : jq_rg ar) (ho : jq_rg ou) (hp : post (some (.int (jv_i (jq_by n ys ms ds y ar ou)))) h) : jv_Ct yX7_by cX7_by 5 (some .int) (K + 4) [.ref 0, .int (jv_i y), .int (jv_i ar), .int (jv_i ou)] h post := by
  have b0 := b
  unfold jw_B at b
  have w1 := w.1
  have hn := hR.1
  have r9 := jq_wst_in (n := n) (ys := ys) (ms := ms) (ds := ds) (y := y) (ar := ar) (ou := ou)
  refine jv_entry (own := RX7) (by decide) rfl (Nat.le_of_ble_eq_true rfl) (fun X hq => ?_)
  refine jv_aload_n dX7_by_0 rfl ?_
  refine jv_iload_n dX7_by_1 rfl ?_
  refine jv_iload_n dX7_by_2 rfl ?_
  refine jv_iload_n dX7_by_3 rfl ?_
  refine jv_cV dX7_by_4 jm_X7_75 rfl (by repeat' (first | assumption | exact ⟨_, by assumption⟩ | refine jv_h1 (by omega) ?_ | refine jv_h0 ?_ | refine jv_hs ?_)) rfl (ct_X7_neediestRain K b0 w hR hy ha ho ?_)
  refine jv_istore dX7_by_7 rfl (Nat.le_of_ble_eq_true rfl) ?_
  refine jv_iload dX7_by_9 rfl ?_
  refine jv_iconst dX7_by_11 ?_
  refine jv_icmp_ne 19 dX7_by_12 (fun c12 => ?_) (fun c12 => ?_)
  · refine jv_aload_n dX7_by_19 rfl ?_
    refine jv_getf dX7_by_20 jf_X7_10 (by repeat' (first | assumption | exact ⟨_, by assumption⟩ | refine jv_h1 (by omega) ?_ | refine jv_h0 ?_ | refine jv_hs ?_)) (by exact rfl) ?_
    refine jv_iload dX7_by_23 rfl ?_
    refine jv_cV dX7_by_25 jm_X7_90 rfl (by repeat' (first | assumption | exact ⟨_, by assumption⟩ | refine jv_h1 (by omega) ?_ | refine jv_h0 ?_ | refine jv_hs ?_)) rfl (ct_X3_minutesOf K w hn (by omega) ?_)
    exact jv_iret dX7_by_28 hq (by rw [jq_by, if_neg c12] at hp; exact hp)
  · refine jv_iconst dX7_by_15 ?_
    refine jv_goto 28 dX7_by_16 ?_
    exact jv_iret dX7_by_28 hq (by rw [jq_by, if_pos c12] at hp; exact hp)
theorem ct_X7_outflow {y ar ro : Int} (K : Nat) (b : jw_B h t d) (w : jw_R h n ys ms ds) (hR : jq_R n ys ms ds) (hy : jq_rg y) (ha : jq_rg ar) (hr : -9223372036854775808 ≤ ro ∧ ro ≤ 9223372036854775807) (hp : post (some (.int (jv_i (jq_out n ys ms ds y ar ro)))) h) : jv_Ct yX7_outflow cX7_outflow 7 (some .int) (K + 3) [.ref 0, .int (jv_i y), .int (jv_i ar), .long (jv_l ro)] h post := by
  have b0 := b
  unfold jw_B at b
  have w1 := w.1
  unfold jq_rg at hy ha
  refine jv_entry (own := RX7) (by decide) rfl (Nat.le_of_ble_eq_true rfl) (fun X hq => ?_)
  refine jv_iload_n dX7_outflow_0 rfl ?_
  refine jv_i2l dX7_outflow_1 ?_
  refine jv_lconst 0 dX7_outflow_2 ?_
  refine jv_ldc2 dX7_outflow_3 jk_X7_94 ?_
  refine jv_cS dX7_outflow_6 jm_X7_63 (ct_X7_within K (fun r1 q11 q12 q13 => ?_))
  refine jv_if_eq 23 dX7_outflow_9 (fun c9 => ?_) (fun c9 => ?_)
  · refine jv_iconst dX7_outflow_23 ?_
    exact jv_iret dX7_outflow_24 hq (by rw [jq_out, if_neg (by omega)] at hp; exact hp)
  · refine jv_lload_n dX7_outflow_12 rfl ?_
    refine jv_lconst 0 dX7_outflow_13 ?_
    refine jv_ldc2 dX7_outflow_14 jk_X7_96 ?_
    refine jv_cS dX7_outflow_17 jm_X7_63 (ct_X7_within K (fun r2 q21 q22 q23 => ?_))
    refine jv_if_ne 25 dX7_outflow_20 (fun c20 => ?_) (fun c20 => ?_)
    · refine jv_aload_n dX7_outflow_25 rfl ?_
      refine jv_getf dX7_outflow_26 jf_X7_10 (by repeat' (first | assumption | exact ⟨_, by assumption⟩ | refine jv_h1 (by omega) ?_ | refine jv_h0 ?_ | refine jv_hs ?_)) (by exact rfl) ?_
      refine jv_iload_n dX7_outflow_29 rfl ?_
      refine jv_iload_n dX7_outflow_30 rfl ?_
      refine jv_lload_n dX7_outflow_31 rfl ?_
      refine jv_cV dX7_outflow_32 jm_X7_98 rfl (by repeat' (first | assumption | exact ⟨_, by assumption⟩ | refine jv_h1 (by omega) ?_ | refine jv_h0 ?_ | refine jv_hs ?_)) rfl (ct_X3_leastOutflow K w hR hy (by omega) (by omega) ?_)
      refine jv_lstore dX7_outflow_35 rfl (Nat.le_of_ble_eq_true rfl) ?_
      refine jv_lload dX7_outflow_37 rfl ?_
      refine jv_lconst 0 dX7_outflow_39 ?_
      refine jv_ldc2 dX7_outflow_40 jk_X7_69 ?_
      have r9 := jq_lo_in (ys := ys) (y := y) (jq_lf_in hR (ar := ar) (ro := ro) (by omega) (by omega)) n
      refine jv_cS dX7_outflow_43 jm_X7_63 (ct_X7_within K (fun r3 q31 q32 q33 => ?_))
      refine jv_if_eq 55 dX7_outflow_46 (fun c46 => ?_) (fun c46 => ?_)
      · refine jv_iconst dX7_outflow_55 ?_
        exact jv_iret dX7_outflow_56 hq (by rw [jq_out, if_neg (by omega)] at hp; exact hp)
      · refine jv_lload dX7_outflow_49 rfl ?_
        refine jv_l2i dX7_outflow_51 ?_
        refine jv_goto 56 dX7_outflow_52 ?_
        exact jv_iret dX7_outflow_56 hq (by rw [jq_out, if_pos (by omega)] at hp; exact hp)
    · refine jv_iconst dX7_outflow_23 ?_
      exact jv_iret dX7_outflow_24 hq (by rw [jq_out, if_neg (by omega)] at hp; exact hp)
end RN3
/-! the reference: its object, its rains -/
def jw_O (h : List jv_E) (r lv cu si st at_ wr da ra wa : Int) : Prop := h[97]? = some (jv_ob 8 [.int (jv_i r), .ref 98, .ref 99, .ref 100, .int (jv_i lv), .ref 101, .ref 102, .int (jv_i cu), .ref 103, .int (jv_i si), .ref 104, .int (jv_i st), .ref 105, .ref 106, .ref 107, .ref 108, .ref 109, .int (jv_i at_), .int (jv_i wr), .int (jv_i da), .ref 110, .int (jv_i ra), .ref 111, .ref 112, .ref 113, .int (jv_i wa), .ref 114])
def jw_MR (h : List jv_E) (ys ms ds : Int → Int) : Prop := h[98]? = some (jv_ai 40 ys) ∧ h[99]? = some (jv_ai 40 ms) ∧ h[100]? = some (jv_ai 40 ds)
def jq_lo0 (ys : Int → Int) (g : Int → Int) (y : Int) : Nat → Int
  | 0 => 0
  | k + 1 => if ys k = y then max (jq_lo0 ys g y k) (g k) else jq_lo0 ys g y k
theorem jq_lo0_in {ys g : Int → Int} {y : Int} (hg : ∀ i, 0 ≤ g i ∧ g i ≤ 20000000000) : ∀ k : Nat, 0 ≤ jq_lo0 ys g y k ∧ jq_lo0 ys g y k ≤ 20000000000
  | 0 => by simp [jq_lo0]
  | k + 1 => by
    have h1 := jq_lo0_in (ys := ys) (y := y) hg k
    have h2 := hg k
    rw [jq_lo0]
    split <;> omega
theorem jq_lo_eq {ys g g2 : Int → Int} {y : Int} (hg : ∀ i, 0 ≤ g i ∧ g i ≤ 20000000000) : ∀ k : Nat, (jq_bst ys g2 y k = -1 → jq_lo ys g y k = -1) ∧ (jq_bst ys g2 y k ≠ -1 → jq_lo ys g y k = jq_lo0 ys g y k)
  | 0 => by simp [jq_bst, jq_lo]
  | k + 1 => by
    obtain ⟨h1, h2⟩ := jq_lo_eq (ys := ys) (g2 := g2) (y := y) hg k
    have h3 := hg k
    have h4 := jq_lo0_in (ys := ys) (y := y) hg k
    have h5 := jq_bst_in ys g2 y k
    rw [jq_bst, jq_lo, jq_lo0]
    by_cases e : ys k = y
    · rw [if_pos e, if_pos e]
      by_cases e2 : jq_bst ys g2 y k = -1
      · rw [if_pos ⟨e, Or.inl e2⟩]
        have := h1 e2
        refine ⟨fun q => by omega, fun _ => ?_⟩
        have h6 : jq_lo0 ys g y k = 0 := by
          clear h3 h4 h5 h2
          have z : ∀ j : Nat, jq_bst ys g2 y j = -1 → jq_lo0 ys g y j = 0 := by
            intro j
            induction j with
            | zero => intro _; rfl
            | succ j ih =>
              intro q
              have h5 := jq_bst_in ys g2 y j
              rw [jq_bst] at q
              rw [jq_lo0]
              by_cases e3 : ys j = y
              · by_cases e4 : jq_bst ys g2 y j = -1
                · rw [if_pos ⟨e3, Or.inl e4⟩] at q; omega
                · split at q <;> omega
              · rw [if_neg (fun w => e3 w.1)] at q
                rw [if_neg e3]
                exact ih q
          exact z k e2
        omega
      · have := h2 e2
        split <;> refine ⟨fun q => by omega, fun _ => by omega⟩
    · rw [if_neg e, if_neg e, if_neg (fun w => e w.1)]
      exact ⟨h1, h2⟩
section MR
variable {h : List jv_E} {n : Nat} {lv cu si st at_ wr da ra wa : Int} {ys ms ds : Int → Int} {post : Option Value → List jv_E → Prop}
theorem ct_X8_in {x a b : Int} (K : Nat) (hp : ∀ r : Int, (a ≤ x ∧ x ≤ b → r = 1) → (¬ (a ≤ x ∧ x ≤ b) → r = 0) → 0 ≤ r ∧ r ≤ 1 → post (some (.int (jv_i r))) h) (hx : -9223372036854775808 ≤ x ∧ x ≤ 9223372036854775807 := by omega) (ha : -9223372036854775808 ≤ a ∧ a ≤ 9223372036854775807 := by omega) (hb : -9223372036854775808 ≤ b ∧ b ≤ 9223372036854775807 := by omega) : jv_Ct yX8_in cX8_in 6 (some .boolean) K [.long (jv_l x), .long (jv_l a), .long (jv_l b)] h post := by
  refine jv_entry (own := RX8) (by decide) rfl (Nat.le_of_ble_eq_true rfl) (fun X hq => ?_)
  refine jv_lload_n dX8_in_0 rfl ?_
  refine jv_lload_n dX8_in_1 rfl ?_
  refine jv_lcmp_lt 17 dX8_in_2 dX8_in_3 (fun c2 => ?_) (fun c2 => ?_)
  · refine jv_iconst dX8_in_17 ?_
    exact jv_iret dX8_in_18 hq (hp _ (by omega) (by omega) (by omega)) (by first | rfl | decide)
  · refine jv_lload_n dX8_in_6 rfl ?_
    refine jv_lload dX8_in_7 rfl ?_
    refine jv_lcmp_gt 17 dX8_in_9 dX8_in_10 (fun c9 => ?_) (fun c9 => ?_)
    · refine jv_iconst dX8_in_17 ?_
      exact jv_iret dX8_in_18 hq (hp _ (by omega) (by omega) (by omega)) (by first | rfl | decide)
    · refine jv_iconst dX8_in_13 ?_
      refine jv_goto 18 dX8_in_14 ?_
      exact jv_iret dX8_in_18 hq (hp _ (by omega) (by omega) (by omega)) (by first | rfl | decide)
theorem ct_X8_need {i ar ou : Int} (K : Nat) (o : jw_O h n lv cu si st at_ wr da ra wa) (w : jw_MR h ys ms ds) (hR : jq_R n ys ms ds) (hi : 0 ≤ i ∧ i < n) (ha : 0 ≤ ar ∧ ar ≤ 1000000) (ho : 0 ≤ ou ∧ ou ≤ 100000) (hp : post (some (.long (jv_l (jq_nd ms ds ar ou i)))) h) : jv_Ct yX8_need cX8_need 4 (some .long) K [.ref 97, .int (jv_i i), .int (jv_i ar), .int (jv_i ou)] h post := by
  unfold jw_O at o
  obtain ⟨w1, w2, w3⟩ := w
  have hn := hR.1
  obtain ⟨-, r1, r2⟩ := hR.2 i
  have m1 := jq_mul r2 ha
  have e : jq_nd ms ds ar ou i = ds i * ar / 10 - 60 * ou * ms i := by
    unfold jq_nd jq_cm
    rw [Int.mul_comm 60 ou, Int.mul_assoc]
  rw [e] at hp
  refine jv_entry (own := RX8) (by decide) rfl (Nat.le_of_ble_eq_true rfl) (fun X hq => ?_)
  refine jv_aload_n dX8_need_0 rfl ?_
  refine jv_getf dX8_need_1 jf_X8_16 (by repeat' (first | assumption | exact ⟨_, by assumption⟩ | refine jv_h1 (by omega) ?_ | refine jv_h0 ?_ | refine jv_hs ?_)) (by exact rfl) ?_
  refine jv_iload_n dX8_need_4 rfl ?_
  refine jv_iald dX8_need_5 (by repeat' (first | assumption | exact ⟨_, by assumption⟩ | refine jv_h1 (by omega) ?_ | refine jv_h0 ?_ | refine jv_hs ?_)) ?_
  refine jv_i2l dX8_need_6 ?_
  refine jv_iload_n dX8_need_7 rfl ?_
  refine jv_i2l dX8_need_8 ?_
  refine jv_lmul dX8_need_9 ?_
  refine jv_ldc2 dX8_need_10 jk_X8_82 ?_
  refine jv_ldiv dX8_need_13 ?_
  refine jv_ldc2 dX8_need_14 jk_X8_84 ?_
  refine jv_iload_n dX8_need_17 rfl ?_
  refine jv_i2l dX8_need_18 ?_
  refine jv_lmul dX8_need_19 ?_
  refine jv_aload_n dX8_need_20 rfl ?_
  refine jv_getf dX8_need_21 jf_X8_13 (by repeat' (first | assumption | exact ⟨_, by assumption⟩ | refine jv_h1 (by omega) ?_ | refine jv_h0 ?_ | refine jv_hs ?_)) (by exact rfl) ?_
  refine jv_iload_n dX8_need_24 rfl ?_
  refine jv_iald dX8_need_25 (by repeat' (first | assumption | exact ⟨_, by assumption⟩ | refine jv_h1 (by omega) ?_ | refine jv_h0 ?_ | refine jv_hs ?_)) ?_
  refine jv_i2l dX8_need_26 ?_
  refine jv_lmul dX8_need_27 ?_
  refine jv_lsub dX8_need_28 ?_
  exact jv_lret dX8_need_29 hq (hp)
theorem ct_X8_worst {y ar ou : Int} (K : Nat) (o : jw_O h n lv cu si st at_ wr da ra wa) (w : jw_MR h ys ms ds) (hR : jq_R n ys ms ds) (hy : jq_rg y) (ha : jq_rg ar) (ho : jq_rg ou) (hp : post (some (.int (jv_i (jq_wst n ys ms ds y ar ou)))) h) : jv_Ct yX8_worst cX8_worst 6 (some .int) (K + 1) [.ref 97, .int (jv_i y), .int (jv_i ar), .int (jv_i ou)] h post := by
  have o9 := o
  have w9 := w
  unfold jw_O at o
  obtain ⟨w1, w2, w3⟩ := w
  have hn := hR.1
  unfold jq_rg at hy ha ho
  refine jv_entry (own := RX8) (by decide) rfl (Nat.le_of_ble_eq_true rfl) (fun X hq => ?_)
  have step : ∀ (i : Nat) (b : Int), (0 ≤ ar ∧ ar ≤ 1000000) → (0 ≤ ou ∧ ou ≤ 100000) → i ≤ n → -1 ≤ b ∧ b < i → (i = n → post (some (.int (jv_i b))) h) → (∀ b', i < n → b' = (if ys i = y ∧ (b = -1 ∨ jq_nd ms ds ar ou b < jq_nd ms ds ar ou i) then (i : Int) else b) → jv_J X cX8_worst RX8 (K + 1) 32 [some (.ref 97), some (.int (jv_i y)), some (.int (jv_i ar)), some (.int (jv_i ou)), some (.int (jv_i b')), some (.int (jv_i (i + 1)))] [] h) → jv_J X cX8_worst RX8 (K + 1) 32 [some (.ref 97), some (.int (jv_i y)), some (.int (jv_i ar)), some (.int (jv_i ou)), some (.int (jv_i b)), some (.int (jv_i i))] [] h := by
    intro i b ha ho hi hb p1 p2
    have r1 := (hR.2 i).1
    have r2 := jq_nd_in hR ha ho i
    have r3 := jq_nd_in hR ha ho b
    refine jv_iload dX8_worst_32 rfl ?_
    refine jv_aload_n dX8_worst_34 rfl ?_
    refine jv_getf dX8_worst_35 jf_X8_72 (by repeat' (first | assumption | exact ⟨_, by assumption⟩ | refine jv_h1 (by omega) ?_ | refine jv_h0 ?_ | refine jv_hs ?_)) (by exact rfl) ?_
    refine jv_icmp_ge 88 dX8_worst_38 (fun c38 => ?_) (fun c38 => ?_)
    · refine jv_iload dX8_worst_88 rfl ?_
      exact jv_iret dX8_worst_90 hq (p1 (by omega)) (by first | rfl | decide)
    · refine jv_aload_n dX8_worst_41 rfl ?_
      refine jv_getf dX8_worst_42 jf_X8_7 (by repeat' (first | assumption | exact ⟨_, by assumption⟩ | refine jv_h1 (by omega) ?_ | refine jv_h0 ?_ | refine jv_hs ?_)) (by exact rfl) ?_
      refine jv_iload dX8_worst_45 rfl ?_
      refine jv_iald dX8_worst_47 (by repeat' (first | assumption | exact ⟨_, by assumption⟩ | refine jv_h1 (by omega) ?_ | refine jv_h0 ?_ | refine jv_hs ?_)) ?_
      refine jv_iload_n dX8_worst_48 rfl ?_
      refine jv_icmp_ne 82 dX8_worst_49 (fun c49 => ?_) (fun c49 => ?_)
      · refine jv_iinc dX8_worst_82 rfl rfl ?_
        refine jv_goto 32 dX8_worst_85 ?_
        exact p2 _ (by omega) (by rw [if_neg (fun q => c49 q.1)])
      · refine jv_iload dX8_worst_52 rfl ?_
        refine jv_iconst dX8_worst_54 ?_
        refine jv_icmp_eq 78 dX8_worst_55 (fun c55 => ?_) (fun c55 => ?_)
        · refine jv_iload dX8_worst_78 rfl ?_
          refine jv_istore dX8_worst_80 rfl (Nat.le_of_ble_eq_true rfl) ?_
          refine jv_iinc dX8_worst_82 rfl rfl ?_
          refine jv_goto 32 dX8_worst_85 ?_
          exact p2 _ (by omega) (by rw [if_pos ⟨c49, Or.inl c55⟩])
        · refine jv_aload_n dX8_worst_58 rfl ?_
          refine jv_iload dX8_worst_59 rfl ?_
          refine jv_iload_n dX8_worst_61 rfl ?_
          refine jv_iload_n dX8_worst_62 rfl ?_
          refine jv_cV dX8_worst_63 jm_X8_78 rfl (by repeat' (first | assumption | exact ⟨_, by assumption⟩ | refine jv_h1 (by omega) ?_ | refine jv_h0 ?_ | refine jv_hs ?_)) rfl (ct_X8_need (i := i) K o9 w9 hR (by omega) ha ho ?_)
          refine jv_aload_n dX8_worst_66 rfl ?_
          refine jv_iload dX8_worst_67 rfl ?_
          refine jv_iload_n dX8_worst_69 rfl ?_
          refine jv_iload_n dX8_worst_70 rfl ?_
          refine jv_cV dX8_worst_71 jm_X8_78 rfl (by repeat' (first | assumption | exact ⟨_, by assumption⟩ | refine jv_h1 (by omega) ?_ | refine jv_h0 ?_ | refine jv_hs ?_)) rfl (ct_X8_need (i := b) K o9 w9 hR (by omega) ha ho ?_)
          refine jv_lcmp_le 82 dX8_worst_74 dX8_worst_75 (fun c74 => ?_) (fun c74 => ?_)
          · refine jv_iinc dX8_worst_82 rfl rfl ?_
            refine jv_goto 32 dX8_worst_85 ?_
            exact p2 _ (by omega) (by rw [if_neg (fun q => by rcases q.2 with z | z; exact c55 z; omega)])
          · refine jv_iload dX8_worst_78 rfl ?_
            refine jv_istore dX8_worst_80 rfl (Nat.le_of_ble_eq_true rfl) ?_
            refine jv_iinc dX8_worst_82 rfl rfl ?_
            refine jv_goto 32 dX8_worst_85 ?_
            exact p2 _ (by omega) (by rw [if_pos ⟨c49, Or.inr c74⟩])
  have loop : ∀ (k i : Nat) (b : Int), (0 ≤ ar ∧ ar ≤ 1000000) → (0 ≤ ou ∧ ou ≤ 100000) → i + k = n → b = jq_bst ys (jq_nd ms ds ar ou) y i → jv_J X cX8_worst RX8 (K + 1) 32 [some (.ref 97), some (.int (jv_i y)), some (.int (jv_i ar)), some (.int (jv_i ou)), some (.int (jv_i b)), some (.int (jv_i i))] [] h := by
    intro k
    induction k with
    | zero =>
      intro i b ha ho e eb
      have := jq_bst_in ys (jq_nd ms ds ar ou) y i
      refine step i b ha ho (by omega) (by omega) (fun q => ?_) (fun b' q => by omega)
      rw [eb, q]
      rw [jq_wst, if_pos ⟨ha, ho⟩] at hp
      exact hp
    | succ k ih =>
      intro i b ha ho e eb
      have := jq_bst_in ys (jq_nd ms ds ar ou) y i
      refine step i b ha ho (by omega) (by omega) (fun q => by omega) (fun b' q e' => ?_)
      exact ih (i + 1) b' ha ho (by omega) (by rw [e', jq_bst, ← eb])
  refine jv_iconst dX8_worst_0 ?_
  refine jv_istore dX8_worst_1 rfl (Nat.le_of_ble_eq_true rfl) ?_
  refine jv_iload_n dX8_worst_3 rfl ?_
  refine jv_i2l dX8_worst_4 ?_
  refine jv_lconst 0 dX8_worst_5 ?_
  refine jv_ldc2 dX8_worst_6 jk_X8_76 ?_
  refine jv_cS dX8_worst_9 jm_X8_64 (ct_X8_in K (fun r1 q11 q12 q13 => ?_))
  refine jv_if_eq 27 dX8_worst_12 (fun c12 => ?_) (fun c12 => ?_)
  · refine jv_iconst dX8_worst_27 ?_
    exact jv_iret dX8_worst_28 hq (by rw [jq_wst, if_neg (by omega)] at hp; exact hp)
  · refine jv_iload_n dX8_worst_15 rfl ?_
    refine jv_i2l dX8_worst_16 ?_
    refine jv_lconst 0 dX8_worst_17 ?_
    refine jv_ldc2 dX8_worst_18 jk_X8_70 ?_
    refine jv_cS dX8_worst_21 jm_X8_64 (ct_X8_in K (fun r2 q21 q22 q23 => ?_))
    refine jv_if_ne 29 dX8_worst_24 (fun c24 => ?_) (fun c24 => ?_)
    · refine jv_iconst dX8_worst_29 ?_
      refine jv_istore dX8_worst_30 rfl (Nat.le_of_ble_eq_true rfl) ?_
      exact loop n 0 (-1) (by omega) (by omega) (by omega) rfl
    · refine jv_iconst dX8_worst_27 ?_
      exact jv_iret dX8_worst_28 hq (by rw [jq_wst, if_neg (by omega)] at hp; exact hp)
theorem ct_X8_volume {y ar ou : Int} (K : Nat) (o : jw_O h n lv cu si st at_ wr da ra wa) (w : jw_MR h ys ms ds) (hR : jq_R n ys ms ds) (hy : jq_rg y) (ha : jq_rg ar) (ho : jq_rg ou) (hp : post (some (.long (jv_l (jq_vol n ys ms ds y ar ou)))) h) : jv_Ct yX8_volume cX8_volume 7 (some .long) (K + 2) [.ref 97, .int (jv_i y), .int (jv_i ar), .int (jv_i ou)] h post := by
  have o9 := o
  unfold jw_O at o
  have hn := hR.1
  have r9 := jq_wst_in (n := n) (ys := ys) (ms := ms) (ds := ds) (y := y) (ar := ar) (ou := ou)
  refine jv_entry (own := RX8) (by decide) rfl (Nat.le_of_ble_eq_true rfl) (fun X hq => ?_)
  refine jv_aload_n dX8_volume_0 rfl ?_
  refine jv_iload_n dX8_volume_1 rfl ?_
  refine jv_iload_n dX8_volume_2 rfl ?_
  refine jv_iload_n dX8_volume_3 rfl ?_
  refine jv_cV dX8_volume_4 jm_X8_86 rfl (by repeat' (first | assumption | exact ⟨_, by assumption⟩ | refine jv_h1 (by omega) ?_ | refine jv_h0 ?_ | refine jv_hs ?_)) rfl (ct_X8_worst K o9 w hR hy ha ho ?_)
  refine jv_istore dX8_volume_7 rfl (Nat.le_of_ble_eq_true rfl) ?_
  refine jv_iload dX8_volume_9 rfl ?_
  refine jv_iconst dX8_volume_11 ?_
  refine jv_icmp_ne 19 dX8_volume_12 (fun c12 => ?_) (fun c12 => ?_)
  · refine jv_aload_n dX8_volume_19 rfl ?_
    refine jv_iload dX8_volume_20 rfl ?_
    refine jv_iload_n dX8_volume_22 rfl ?_
    refine jv_iload_n dX8_volume_23 rfl ?_
    refine jv_cV dX8_volume_24 jm_X8_78 rfl (by repeat' (first | assumption | exact ⟨_, by assumption⟩ | refine jv_h1 (by omega) ?_ | refine jv_h0 ?_ | refine jv_hs ?_)) rfl (ct_X8_need K o9 w hR (by omega) (by omega) (by omega) ?_)
    refine jv_lstore dX8_volume_27 rfl (Nat.le_of_ble_eq_true rfl) ?_
    refine jv_lload dX8_volume_29 rfl ?_
    refine jv_lconst 0 dX8_volume_31 ?_
    have r8 := jq_nd_in hR (ar := ar) (ou := ou) (by omega) (by omega) (jq_wst n ys ms ds y ar ou)
    rw [jq_vol, if_neg c12] at hp
    generalize jq_nd ms ds ar ou (jq_wst n ys ms ds y ar ou) = nd at *
    refine jv_lcmp_ge 40 dX8_volume_32 dX8_volume_33 (fun c32 => ?_) (fun c32 => ?_)
    · refine jv_lload dX8_volume_40 rfl ?_
      exact jv_lret dX8_volume_42 hq (by rw [show max 0 nd = nd by omega] at hp; exact hp)
    · refine jv_lconst 0 dX8_volume_36 ?_
      refine jv_goto 42 dX8_volume_37 ?_
      exact jv_lret dX8_volume_42 hq (by rw [show max 0 nd = 0 by omega] at hp; exact hp)
  · refine jv_ldc2 dX8_volume_15 jk_X8_90 ?_
    exact jv_lret dX8_volume_18 hq (by rw [jq_vol, if_pos c12] at hp; exact hp)
theorem ct_X8_by {y ar ou : Int} (K : Nat) (o : jw_O h n lv cu si st at_ wr da ra wa) (w : jw_MR h ys ms ds) (hR : jq_R n ys ms ds) (hy : jq_rg y) (ha : jq_rg ar) (ho : jq_rg ou) (hp : post (some (.int (jv_i (jq_by n ys ms ds y ar ou)))) h) : jv_Ct yX8_by cX8_by 5 (some .int) (K + 2) [.ref 97, .int (jv_i y), .int (jv_i ar), .int (jv_i ou)] h post := by
  have o9 := o
  unfold jw_O at o
  have hn := hR.1
  have w9 := w
  obtain ⟨w1, w2, w3⟩ := w
  have r9 := jq_wst_in (n := n) (ys := ys) (ms := ms) (ds := ds) (y := y) (ar := ar) (ou := ou)
  refine jv_entry (own := RX8) (by decide) rfl (Nat.le_of_ble_eq_true rfl) (fun X hq => ?_)
  refine jv_aload_n dX8_by_0 rfl ?_
  refine jv_iload_n dX8_by_1 rfl ?_
  refine jv_iload_n dX8_by_2 rfl ?_
  refine jv_iload_n dX8_by_3 rfl ?_
  refine jv_cV dX8_by_4 jm_X8_86 rfl (by repeat' (first | assumption | exact ⟨_, by assumption⟩ | refine jv_h1 (by omega) ?_ | refine jv_h0 ?_ | refine jv_hs ?_)) rfl (ct_X8_worst K o9 w9 hR hy ha ho ?_)
  refine jv_istore dX8_by_7 rfl (Nat.le_of_ble_eq_true rfl) ?_
  refine jv_iload dX8_by_9 rfl ?_
  refine jv_iconst dX8_by_11 ?_
  refine jv_icmp_ne 19 dX8_by_12 (fun c12 => ?_) (fun c12 => ?_)
  · refine jv_aload_n dX8_by_19 rfl ?_
    refine jv_getf dX8_by_20 jf_X8_13 (by repeat' (first | assumption | exact ⟨_, by assumption⟩ | refine jv_h1 (by omega) ?_ | refine jv_h0 ?_ | refine jv_hs ?_)) (by exact rfl) ?_
    refine jv_iload dX8_by_23 rfl ?_
    refine jv_iald dX8_by_25 (by repeat' (first | assumption | exact ⟨_, by assumption⟩ | refine jv_h1 (by omega) ?_ | refine jv_h0 ?_ | refine jv_hs ?_)) ?_
    exact jv_iret dX8_by_26 hq (by rw [jq_by, if_neg c12] at hp; exact hp)
  · refine jv_iconst dX8_by_15 ?_
    refine jv_goto 26 dX8_by_16 ?_
    exact jv_iret dX8_by_26 hq (by rw [jq_by, if_pos c12] at hp; exact hp)
end MR
