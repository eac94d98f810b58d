/-! THE FACE'S DAYS -/
def jq_lr (n : Nat) (cm : Int → Int) (ou mo r : Int) : Prop := 0 ≤ r ∧ jq_ct cm ou r n ≤ mo ∧ ∀ r', 0 ≤ r' → r' < r → mo < jq_ct cm ou r' n
theorem jq_lr_un {n : Nat} {cm : Int → Int} {ou mo r s : Int} (h1 : jq_lr n cm ou mo r) (h2 : jq_lr n cm ou mo s) : r = s := by
  rcases Int.lt_trichotomy r s with q | q | q
  · have := h2.2.2 r h1.1 q; have := h1.2.1; omega
  · exact q
  · have := h1.2.2 s h2.1 q; have := h2.2.1; omega
def jq_lg (x : Int) : Prop := -9223372036854775808 ≤ x ∧ x ≤ 9223372036854775807
def jq_w15 (x : Int) : Prop := 0 ≤ x ∧ x ≤ 1000000000000000
section DF
variable {h : List jv_E} {n t d : Nat} {cm he go ab so : Int → Int} {al hr : Int} {post : Option Value → List jv_E → Prop}
theorem ct_X7_day {wt : Int} (K : Nat) (b : jw_B h t d) (w : jw_D h n cm he go ab so al hr) (hD : jq_D n cm al) (hw : jq_lg wt) (hp1 : (0 ≤ wt ∧ wt ≤ 1000000000000) ∧ n < 400 → ∀ h', jw_D h' (n + 1) (jv_up cm n wt) he go ab so (al + wt) 0 → jv_fr 89 94 h h' → post (some (.int (jv_i (n + 1)))) h') (hp2 : ¬ ((0 ≤ wt ∧ wt ≤ 1000000000000) ∧ n < 400) → post (some (.int (jv_i (-1)))) h) : jv_Ct yX7_day cX7_day 3 (some .int) (K + 1) [.ref 0, .long (jv_l wt)] h post := by
  unfold jw_B at b
  have w1 := w.1
  unfold jq_lg at hw
  refine jv_entry (own := RX7) (by decide) rfl (Nat.le_of_ble_eq_true rfl) (fun X hq => ?_)
  refine jv_lload_n dX7_day_0 rfl ?_
  refine jv_lconst 0 dX7_day_1 ?_
  refine jv_ldc2 dX7_day_2 jk_X7_167 ?_
  refine jv_cS dX7_day_5 jm_X7_63 (ct_X7_within K (fun r1 q11 q12 q13 => ?_))
  refine jv_if_eq 22 dX7_day_8 (fun c8 => ?_) (fun c8 => ?_)
  · refine jv_iconst dX7_day_22 ?_
    exact jv_iret dX7_day_23 hq (hp2 (by omega)) (by first | rfl | decide)
  · refine jv_aload_n dX7_day_11 rfl ?_
    refine jv_getf dX7_day_12 jf_X7_50 (by repeat' (first | assumption | exact ⟨_, by assumption⟩ | refine jv_h1 (by decide) ?_ | refine jv_h0 ?_ | refine jv_h1 (by omega) ?_ | refine jv_hs ?_)) (by exact rfl) ?_
    refine jv_lload_n dX7_day_15 rfl ?_
    refine jv_cV dX7_day_16 jm_X7_169 rfl (by repeat' (first | assumption | exact ⟨_, by assumption⟩ | refine jv_h1 (by decide) ?_ | refine jv_h0 ?_ | refine jv_h1 (by omega) ?_ | refine jv_hs ?_)) rfl (ct_X1_add K w hD (fun q h' w' fr => ?_) (fun q => ?_))
    · refine jv_goto 23 dX7_day_19 ?_
      exact jv_iret dX7_day_23 hq (hp1 (by omega) h' w' fr)
    · refine jv_goto 23 dX7_day_19 ?_
      exact jv_iret dX7_day_23 hq (hp2 (by omega))
theorem ct_X7_run {ou ro : Int} (K : Nat) (b : jw_B h t d) (w : jw_D h n cm he go ab so al hr) (hD : jq_D n cm al) (ho : jq_lg ou) (hr0 : jq_lg ro) (hp1 : jq_w15 ou ∧ jq_w15 ro → ∀ h' he' go' ab' so', jw_D h' n cm he' go' ab' so' al 1 → jq_run n cm ou ro he' go' ab' so' → jv_fr 89 94 h h' → post (some (.int (jv_i (jq_ct cm ou ro n)))) h') (hp2 : ¬ (jq_w15 ou ∧ jq_w15 ro) → post (some (.int (jv_i (-1)))) h) : jv_Ct yX7_run cX7_run 5 (some .int) (K + 3) [.ref 0, .long (jv_l ou), .long (jv_l ro)] h post := by
  unfold jw_B at b
  have w1 := w.1
  unfold jq_lg at ho hr0
  unfold jq_w15 at hp1 hp2
  refine jv_entry (own := RX7) (by decide) rfl (Nat.le_of_ble_eq_true rfl) (fun X hq => ?_)
  refine jv_lload_n dX7_run_0 rfl ?_
  refine jv_lconst 0 dX7_run_1 ?_
  refine jv_ldc2 dX7_run_2 jk_X7_171 ?_
  refine jv_cS dX7_run_5 jm_X7_63 (ct_X7_within K (fun r1 q11 q12 q13 => ?_))
  refine jv_if_eq 22 dX7_run_8 (fun c8 => ?_) (fun c8 => ?_)
  · refine jv_iconst dX7_run_22 ?_
    exact jv_iret dX7_run_23 hq (hp2 (by omega))
  · refine jv_lload_n dX7_run_11 rfl ?_
    refine jv_lconst 0 dX7_run_12 ?_
    refine jv_ldc2 dX7_run_13 jk_X7_171 ?_
    refine jv_cS dX7_run_16 jm_X7_63 (ct_X7_within K (fun r2 q21 q22 q23 => ?_))
    refine jv_if_ne 24 dX7_run_19 (fun c19 => ?_) (fun c19 => ?_)
    · refine jv_aload_n dX7_run_24 rfl ?_
      refine jv_getf dX7_run_25 jf_X7_50 (by repeat' (first | assumption | exact ⟨_, by assumption⟩ | refine jv_h1 (by decide) ?_ | refine jv_h0 ?_ | refine jv_h1 (by omega) ?_ | refine jv_hs ?_)) (by exact rfl) ?_
      refine jv_lload_n dX7_run_28 rfl ?_
      refine jv_lload_n dX7_run_29 rfl ?_
      refine jv_cV dX7_run_30 jm_X7_173 rfl (by repeat' (first | assumption | exact ⟨_, by assumption⟩ | refine jv_h1 (by decide) ?_ | refine jv_h0 ?_ | refine jv_h1 (by omega) ?_ | refine jv_hs ?_)) rfl (ct_X1_keepRun K w hD (by omega) (by omega) (fun h' he' go' ab' so' w' f' fr' => ?_))
      exact jv_iret dX7_run_33 hq (hp1 (by omega) h' he' go' ab' so' w' f' fr') (by first | rfl | decide)
    · refine jv_iconst dX7_run_22 ?_
      exact jv_iret dX7_run_23 hq (hp2 (by omega))
theorem ct_X7_behind {dy wh : Int} (K : Nat) (b : jw_B h t d) (w : jw_D h n cm he go ab so al hr) (hD : jq_D n cm al) (hr1 : 0 ≤ hr ∧ hr ≤ 1) (hd : jq_rg dy) (hw : jq_rg wh) (hp : post (some (.long (jv_l (jq_rc n hr he go ab so dy wh)))) h) : jv_Ct yX7_behind cX7_behind 3 (some .long) (K + 2) [.ref 0, .int (jv_i dy), .int (jv_i wh)] h post := by
  unfold jw_B at b
  have w1 := w.1
  refine jv_entry (own := RX7) (by decide) rfl (Nat.le_of_ble_eq_true rfl) (fun X hq => ?_)
  refine jv_aload_n dX7_behind_0 rfl ?_
  refine jv_getf dX7_behind_1 jf_X7_50 (by repeat' (first | assumption | exact ⟨_, by assumption⟩ | refine jv_h1 (by decide) ?_ | refine jv_h0 ?_ | refine jv_h1 (by omega) ?_ | refine jv_hs ?_)) (by exact rfl) ?_
  refine jv_iload_n dX7_behind_4 rfl ?_
  refine jv_iload_n dX7_behind_5 rfl ?_
  refine jv_cV dX7_behind_6 jm_X7_177 rfl (by repeat' (first | assumption | exact ⟨_, by assumption⟩ | refine jv_h1 (by decide) ?_ | refine jv_h0 ?_ | refine jv_h1 (by omega) ?_ | refine jv_hs ?_)) rfl (ct_X1_recall K w hD hr1 hd hw ?_)
  exact jv_lret dX7_behind_9 hq (hp)
theorem ct_X7_room {ou mo : Int} (K : Nat) (b : jw_B h t d) (w : jw_D h n cm he go ab so al hr) (hD : jq_D n cm al) (ho : jq_lg ou) (hm : jq_rg mo) (hp1 : jq_w15 ou ∧ (0 ≤ mo ∧ mo ≤ 400) → ∀ r h' he' go' ab' so', jw_D h' n cm he' go' ab' so' al 0 → jq_lr n cm ou mo r → jv_fr 89 94 h h' → post (some (.long (jv_l r))) h') (hp2 : ¬ (jq_w15 ou ∧ (0 ≤ mo ∧ mo ≤ 400)) → post (some (.long (jv_l (-1)))) h) : jv_Ct yX7_room cX7_room 4 (some .long) (K + 3) [.ref 0, .long (jv_l ou), .int (jv_i mo)] h post := by
  unfold jw_B at b
  have w1 := w.1
  unfold jq_lg at ho
  unfold jq_rg at hm
  unfold jq_w15 at hp1 hp2
  refine jv_entry (own := RX7) (by decide) rfl (Nat.le_of_ble_eq_true rfl) (fun X hq => ?_)
  refine jv_lload_n dX7_room_0 rfl ?_
  refine jv_lconst 0 dX7_room_1 ?_
  refine jv_ldc2 dX7_room_2 jk_X7_171 ?_
  refine jv_cS dX7_room_5 jm_X7_63 (ct_X7_within K (fun r1 q11 q12 q13 => ?_))
  refine jv_if_eq 23 dX7_room_8 (fun c8 => ?_) (fun c8 => ?_)
  · refine jv_ldc2 dX7_room_23 jk_X7_78 ?_
    exact jv_lret dX7_room_26 hq (hp2 (by omega))
  · refine jv_iload_n dX7_room_11 rfl ?_
    refine jv_i2l dX7_room_12 ?_
    refine jv_lconst 0 dX7_room_13 ?_
    refine jv_ldc2 dX7_room_14 jk_X7_181 ?_
    refine jv_cS dX7_room_17 jm_X7_63 (ct_X7_within K (fun r2 q21 q22 q23 => ?_))
    refine jv_if_ne 27 dX7_room_20 (fun c20 => ?_) (fun c20 => ?_)
    · refine jv_aload_n dX7_room_27 rfl ?_
      refine jv_getf dX7_room_28 jf_X7_50 (by repeat' (first | assumption | exact ⟨_, by assumption⟩ | refine jv_h1 (by decide) ?_ | refine jv_h0 ?_ | refine jv_h1 (by omega) ?_ | refine jv_hs ?_)) (by exact rfl) ?_
      refine jv_lload_n dX7_room_31 rfl ?_
      refine jv_iload_n dX7_room_32 rfl ?_
      refine jv_cV dX7_room_33 jm_X7_183 rfl (by repeat' (first | assumption | exact ⟨_, by assumption⟩ | refine jv_h1 (by decide) ?_ | refine jv_h0 ?_ | refine jv_h1 (by omega) ?_ | refine jv_hs ?_)) rfl (ct_X1_leastRoom K w hD (by omega) (by omega) (fun r h' he' go' ab' so' w' f' fr' => ?_))
      exact jv_lret dX7_room_36 hq (hp1 (by omega) r h' he' go' ab' so' w' f' fr')
    · refine jv_ldc2 dX7_room_23 jk_X7_78 ?_
      exact jv_lret dX7_room_26 hq (hp2 (by omega))
end DF
/-! the reference's days: comes 110, holds 111, went 112, over 113 -/
def jw_MD (h : List jv_E) (cm ho we ov : Int → Int) : Prop := h[110]? = some (jv_al 400 cm) ∧ h[111]? = some (jv_al 400 ho) ∧ h[112]? = some (jv_al 400 we) ∧ h[113]? = some (jv_al 400 ov)
def jq_mrun (n : Nat) (cm : Int → Int) (ou ro : Int) (ho we ov : Int → Int) : Prop := ∀ j : Nat, j < n → ho j = jq_wt cm ou ro (j + 1) ∧ we j = jq_gn cm ou ro j ∧ ov j = jq_av cm ou ro j
theorem jq_mrun_s {i : Nat} {cm ho we ov : Int → Int} {ou ro : Int} (h : jq_mrun i cm ou ro ho we ov) : jq_mrun (i + 1) cm ou ro (jv_up ho i (jq_wt cm ou ro (i + 1))) (jv_up we i (jq_gn cm ou ro i)) (jv_up ov i (jq_av cm ou ro i)) := fun j hj => by
  by_cases e : j = i
  · subst e
    simp [jv_up]
  · have e2 : (j : Int) ≠ i := by omega
    obtain ⟨h1, h2, h3⟩ := h j (by omega)
    simp [jv_up, e2, h1, h2, h3]
theorem jv_fs_tr {P : List Nat} {a b c : List jv_E} (h1 : jv_fs P a b) (h2 : jv_fs P b c) : jv_fs P a c := fun i q => (h2 i q).trans (h1 i q)
section MD
variable {h : List jv_E} {n : Nat} {rr lv cu si st at_ wr ra wa : Int} {cm ho we ov : Int → Int} {al : Int} {post : Option Value → List jv_E → Prop}
theorem ct_X8_day {wt : Int} (K : Nat) (o : jw_O h rr lv cu si st at_ wr n ra wa) (w : jw_MD h cm ho we ov) (hD : jq_D n cm al) (hw : jq_lg wt) (hp1 : (0 ≤ wt ∧ wt ≤ 1000000000000) ∧ n < 400 → ∀ h', jw_O h' rr lv cu si st at_ wr (n + 1) 0 wa → jw_MD h' (jv_up cm n wt) ho we ov → jv_fs [97, 110, 111, 112, 113] h h' → post (some (.int (jv_i (n + 1)))) h') (hp2 : ¬ ((0 ≤ wt ∧ wt ≤ 1000000000000) ∧ n < 400) → post (some (.int (jv_i (-1)))) h) : jv_Ct yX8_day cX8_day 3 (some .int) (K + 1) [.ref 97, .long (jv_l wt)] h post := by
  unfold jw_O at o
  obtain ⟨w1, w2, w3, w4⟩ := w
  have hn := hD.1
  unfold jq_lg at hw
  refine jv_entry (own := RX8) (by decide) rfl (Nat.le_of_ble_eq_true rfl) (fun X hq => ?_)
  refine jv_lload_n dX8_day_0 rfl ?_
  refine jv_lconst 0 dX8_day_1 ?_
  refine jv_ldc2 dX8_day_2 jk_X8_172 ?_
  refine jv_cS dX8_day_5 jm_X8_64 (ct_X8_in K (fun r1 q11 q12 q13 => ?_))
  refine jv_if_eq 21 dX8_day_8 (fun c8 => ?_) (fun c8 => ?_)
  · refine jv_iconst dX8_day_21 ?_
    exact jv_iret dX8_day_22 hq (hp2 (by omega))
  · refine jv_aload_n dX8_day_11 rfl ?_
    refine jv_getf dX8_day_12 jf_X8_174 (by repeat' (first | assumption | exact ⟨_, by assumption⟩ | refine jv_h1 (by decide) ?_ | refine jv_h0 ?_ | refine jv_h1 (by omega) ?_ | refine jv_hs ?_)) (by exact rfl) ?_
    refine jv_sipush dX8_day_15 ?_
    refine jv_icmp_ne 23 dX8_day_18 (fun c18 => ?_) (fun c18 => ?_)
    · refine jv_aload_n dX8_day_23 rfl ?_
      refine jv_getf dX8_day_24 jf_X8_46 (by repeat' (first | assumption | exact ⟨_, by assumption⟩ | refine jv_h1 (by decide) ?_ | refine jv_h0 ?_ | refine jv_h1 (by omega) ?_ | refine jv_hs ?_)) (by exact rfl) ?_
      refine jv_aload_n dX8_day_27 rfl ?_
      refine jv_getf dX8_day_28 jf_X8_174 (by repeat' (first | assumption | exact ⟨_, by assumption⟩ | refine jv_h1 (by decide) ?_ | refine jv_h0 ?_ | refine jv_h1 (by omega) ?_ | refine jv_hs ?_)) (by exact rfl) ?_
      refine jv_lload_n dX8_day_31 rfl ?_
      refine jv_last dX8_day_32 (by repeat' (first | assumption | exact ⟨_, by assumption⟩ | refine jv_h1 (by decide) ?_ | refine jv_h0 ?_ | refine jv_h1 (by omega) ?_ | refine jv_hs ?_)) ?_
      refine jv_aload_n dX8_day_33 rfl ?_
      refine jv_dup dX8_day_34 rfl ?_
      refine jv_getf dX8_day_35 jf_X8_174 (by repeat' (first | assumption | exact ⟨_, by assumption⟩ | refine jv_h1 (by decide) ?_ | refine jv_h0 ?_ | refine jv_h1 (by omega) ?_ | refine jv_hs ?_)) (by exact rfl) ?_
      refine jv_iconst dX8_day_38 ?_
      refine jv_iadd dX8_day_39 ?_
      refine jv_putf dX8_day_40 jp_X8_174 (by repeat' (first | assumption | exact ⟨_, by assumption⟩ | refine jv_h1 (by decide) ?_ | refine jv_h0 ?_ | refine jv_h1 (by omega) ?_ | refine jv_hs ?_)) (by exact Nat.le_of_ble_eq_true rfl) ?_
      refine jv_aload_n dX8_day_43 rfl ?_
      refine jv_iconst dX8_day_44 ?_
      refine jv_putf dX8_day_45 jp_X8_177 (by repeat' (first | assumption | exact ⟨_, by assumption⟩ | refine jv_h1 (by decide) ?_ | refine jv_h0 ?_ | refine jv_h1 (by omega) ?_ | refine jv_hs ?_)) (by exact Nat.le_of_ble_eq_true rfl) ?_ (jv_bn (by omega)) (jv_bf (by omega))
      refine jv_aload_n dX8_day_48 rfl ?_
      refine jv_getf dX8_day_49 jf_X8_174 (by repeat' (first | assumption | exact ⟨_, by assumption⟩ | refine jv_h1 (by decide) ?_ | refine jv_h0 ?_ | refine jv_h1 (by omega) ?_ | refine jv_hs ?_)) (by exact rfl) ?_
      exact jv_iret dX8_day_52 hq (hp1 (by omega) _ (by repeat' (first | assumption | exact ⟨_, by assumption⟩ | refine jv_h1 (by decide) ?_ | refine jv_h0 ?_ | refine jv_h1 (by omega) ?_ | refine jv_hs ?_)) ⟨(by repeat' (first | assumption | exact ⟨_, by assumption⟩ | refine jv_h1 (by decide) ?_ | refine jv_h0 ?_ | refine jv_h1 (by omega) ?_ | refine jv_hs ?_)), (by repeat' (first | assumption | exact ⟨_, by assumption⟩ | refine jv_h1 (by decide) ?_ | refine jv_h0 ?_ | refine jv_h1 (by omega) ?_ | refine jv_hs ?_)), (by repeat' (first | assumption | exact ⟨_, by assumption⟩ | refine jv_h1 (by decide) ?_ | refine jv_h0 ?_ | refine jv_h1 (by omega) ?_ | refine jv_hs ?_)), (by repeat' (first | assumption | exact ⟨_, by assumption⟩ | refine jv_h1 (by decide) ?_ | refine jv_h0 ?_ | refine jv_h1 (by omega) ?_ | refine jv_hs ?_))⟩ (jv_fs_set (by decide) (jv_fs_set (by decide) (jv_fs_set (by decide) jv_fs_rf)))) (by first | rfl | decide)
    · refine jv_iconst dX8_day_21 ?_
      exact jv_iret dX8_day_22 hq (hp2 (by omega))
theorem ct_X8_go {ou ro : Int} (K : Nat) (o : jw_O h rr lv cu si st at_ wr n ra wa) (w : jw_MD h cm ho we ov) (hD : jq_D n cm al) (ho0 : 0 ≤ ou ∧ ou ≤ 1000000000000000) (hr0 : 0 ≤ ro ∧ ro ≤ 1000000000000000) (hp : ∀ h' ho' we' ov', jw_O h' rr lv cu si st at_ wr n ra wa → jw_MD h' cm ho' we' ov' → jq_mrun n cm ou ro ho' we' ov' → jv_fs [97, 110, 111, 112, 113] h h' → post (some (.int (jv_i (jq_ct cm ou ro n)))) h') : jv_Ct yX8_go cX8_go 9 (some .int) K [.ref 97, .long (jv_l ou), .long (jv_l ro)] h post := by
  have hn := hD.1
  refine jv_entry (own := RX8) (by decide) rfl (Nat.le_of_ble_eq_true rfl) (fun X hq => ?_)
  have loop : ∀ (k i : Nat) (h1 : List jv_E) (ho we ov : Int → Int), i + k = n → jw_O h1 rr lv cu si st at_ wr n ra wa → jw_MD h1 cm ho we ov → jq_mrun i cm ou ro ho we ov → jv_fs [97, 110, 111, 112, 113] h h1 → jv_J X cX8_go RX8 K 9 [some (.ref 97), some (.long (jv_l ou)), none, some (.long (jv_l ro)), none, some (.long (jv_l (jq_wt cm ou ro i))), none, some (.int (jv_i (jq_ct cm ou ro i))), some (.int (jv_i i))] [] h1 := by
    intro k
    induction k with
    | zero =>
      intro i h1 ho we ov e o w f fr
      have o9 := o
      unfold jw_O at o
      have e2 : i = n := by omega
      subst e2
      refine jv_iload dX8_go_9 rfl ?_
      refine jv_aload_n dX8_go_11 rfl ?_
      refine jv_getf dX8_go_12 jf_X8_174 (by repeat' (first | assumption | exact ⟨_, by assumption⟩ | refine jv_h1 (by decide) ?_ | refine jv_h0 ?_ | refine jv_h1 (by omega) ?_ | refine jv_hs ?_)) (by exact rfl) ?_
      refine jv_icmp_ge 133 dX8_go_15 (fun c15 => ?_) (fun c15 => ?_)
      · refine jv_iload dX8_go_133 rfl ?_
        exact jv_iret dX8_go_135 hq (hp h1 ho we ov o9 w f fr) (by first | rfl | decide)
      · exact absurd c15 (by omega)
    | succ k ih =>
      intro i h1 ho we ov e o w f fr
      unfold jw_O at o
      obtain ⟨w1, w2, w3, w4⟩ := w
      have b1 := jq_wt_in hD.2.1 ho0.1 hr0.1 i
      have b2 := hD.2.1 i
      have b3 := jq_ct_in cm ou ro i
      have e5 : jq_gn cm ou ro i = min (jq_wt cm ou ro i + cm i) ou := rfl
      have e6 : jq_av cm ou ro i = max 0 (jq_wt cm ou ro i + cm i - min (jq_wt cm ou ro i + cm i) ou - ro) := rfl
      have f2 := jq_mrun_s f
      refine jv_iload dX8_go_9 rfl ?_
      refine jv_aload_n dX8_go_11 rfl ?_
      refine jv_getf dX8_go_12 jf_X8_174 (by repeat' (first | assumption | exact ⟨_, by assumption⟩ | refine jv_h1 (by decide) ?_ | refine jv_h0 ?_ | refine jv_h1 (by omega) ?_ | refine jv_hs ?_)) (by exact rfl) ?_
      refine jv_icmp_ge 133 dX8_go_15 (fun c15 => ?_) (fun c15 => ?_)
      · exact absurd c15 (by omega)
      · refine jv_lload dX8_go_18 rfl ?_
        refine jv_aload_n dX8_go_20 rfl ?_
        refine jv_getf dX8_go_21 jf_X8_46 (by repeat' (first | assumption | exact ⟨_, by assumption⟩ | refine jv_h1 (by decide) ?_ | refine jv_h0 ?_ | refine jv_h1 (by omega) ?_ | refine jv_hs ?_)) (by exact rfl) ?_
        refine jv_iload dX8_go_24 rfl ?_
        refine jv_lald dX8_go_26 (by repeat' (first | assumption | exact ⟨_, by assumption⟩ | refine jv_h1 (by decide) ?_ | refine jv_h0 ?_ | refine jv_h1 (by omega) ?_ | refine jv_hs ?_)) ?_
        refine jv_ladd dX8_go_27 ?_
        refine jv_lstore dX8_go_28 rfl (Nat.le_of_ble_eq_true rfl) ?_
        refine jv_aload_n dX8_go_30 rfl ?_
        refine jv_getf dX8_go_31 jf_X8_53 (by repeat' (first | assumption | exact ⟨_, by assumption⟩ | refine jv_h1 (by decide) ?_ | refine jv_h0 ?_ | refine jv_h1 (by omega) ?_ | refine jv_hs ?_)) (by exact rfl) ?_
        refine jv_iload dX8_go_34 rfl ?_
        refine jv_lload dX8_go_36 rfl ?_
        refine jv_lload_n dX8_go_38 rfl ?_
        refine jv_lcmp_ge 48 dX8_go_39 dX8_go_40 (fun c39 => ?_) (fun c39 => ?_)
        · refine jv_lload_n dX8_go_48 rfl ?_
          refine jv_tl (b := jq_gn cm ou ro i) (by omega) ?_
          refine jv_last dX8_go_49 (by repeat' (first | assumption | exact ⟨_, by assumption⟩ | refine jv_h1 (by decide) ?_ | refine jv_h0 ?_ | refine jv_h1 (by omega) ?_ | refine jv_hs ?_)) ?_
          refine jv_lload dX8_go_50 rfl ?_
          refine jv_aload_n dX8_go_52 rfl ?_
          refine jv_getf dX8_go_53 jf_X8_53 (by repeat' (first | assumption | exact ⟨_, by assumption⟩ | refine jv_h1 (by decide) ?_ | refine jv_h0 ?_ | refine jv_h1 (by omega) ?_ | refine jv_hs ?_)) (by exact rfl) ?_
          refine jv_iload dX8_go_56 rfl ?_
          refine jv_lald dX8_go_58 (by repeat' (first | assumption | exact ⟨_, by assumption⟩ | refine jv_h1 (by decide) ?_ | refine jv_h0 ?_ | refine jv_h1 (by omega) ?_ | refine jv_hs ?_)) ?_
          rw [jv_up_s]
          refine jv_lsub dX8_go_59 ?_
          refine jv_lstore dX8_go_60 rfl (Nat.le_of_ble_eq_true rfl) ?_
          refine jv_aload_n dX8_go_62 rfl ?_
          refine jv_getf dX8_go_63 jf_X8_56 (by repeat' (first | assumption | exact ⟨_, by assumption⟩ | refine jv_h1 (by decide) ?_ | refine jv_h0 ?_ | refine jv_h1 (by omega) ?_ | refine jv_hs ?_)) (by exact rfl) ?_
          refine jv_iload dX8_go_66 rfl ?_
          refine jv_lload dX8_go_68 rfl ?_
          refine jv_lload_n dX8_go_70 rfl ?_
          refine jv_lcmp_le 82 dX8_go_71 dX8_go_72 (fun c71 => ?_) (fun c71 => ?_)
          · refine jv_lconst 0 dX8_go_82 ?_
            refine jv_tl (b := jq_av cm ou ro i) (by omega) ?_
            refine jv_last dX8_go_83 (by repeat' (first | assumption | exact ⟨_, by assumption⟩ | refine jv_h1 (by decide) ?_ | refine jv_h0 ?_ | refine jv_h1 (by omega) ?_ | refine jv_hs ?_)) ?_
            refine jv_lload dX8_go_84 rfl ?_
            refine jv_aload_n dX8_go_86 rfl ?_
            refine jv_getf dX8_go_87 jf_X8_56 (by repeat' (first | assumption | exact ⟨_, by assumption⟩ | refine jv_h1 (by decide) ?_ | refine jv_h0 ?_ | refine jv_h1 (by omega) ?_ | refine jv_hs ?_)) (by exact rfl) ?_
            refine jv_iload dX8_go_90 rfl ?_
            refine jv_lald dX8_go_92 (by repeat' (first | assumption | exact ⟨_, by assumption⟩ | refine jv_h1 (by decide) ?_ | refine jv_h0 ?_ | refine jv_h1 (by omega) ?_ | refine jv_hs ?_)) ?_
            rw [jv_up_s]
            refine jv_lsub dX8_go_93 ?_
            refine jv_lstore dX8_go_94 rfl (Nat.le_of_ble_eq_true rfl) ?_
            rw [← jq_wt_s]
            refine jv_aload_n dX8_go_96 rfl ?_
            refine jv_getf dX8_go_97 jf_X8_50 (by repeat' (first | assumption | exact ⟨_, by assumption⟩ | refine jv_h1 (by decide) ?_ | refine jv_h0 ?_ | refine jv_h1 (by omega) ?_ | refine jv_hs ?_)) (by exact rfl) ?_
            refine jv_iload dX8_go_100 rfl ?_
            refine jv_lload dX8_go_102 rfl ?_
            refine jv_last dX8_go_104 (by repeat' (first | assumption | exact ⟨_, by assumption⟩ | refine jv_h1 (by decide) ?_ | refine jv_h0 ?_ | refine jv_h1 (by omega) ?_ | refine jv_hs ?_)) ?_
            refine jv_iload dX8_go_105 rfl ?_
            refine jv_aload_n dX8_go_107 rfl ?_
            refine jv_getf dX8_go_108 jf_X8_56 (by repeat' (first | assumption | exact ⟨_, by assumption⟩ | refine jv_h1 (by decide) ?_ | refine jv_h0 ?_ | refine jv_h1 (by omega) ?_ | refine jv_hs ?_)) (by exact rfl) ?_
            refine jv_iload dX8_go_111 rfl ?_
            refine jv_lald dX8_go_113 (by repeat' (first | assumption | exact ⟨_, by assumption⟩ | refine jv_h1 (by decide) ?_ | refine jv_h0 ?_ | refine jv_h1 (by omega) ?_ | refine jv_hs ?_)) ?_
            rw [jv_up_s]
            refine jv_lconst 0 dX8_go_114 ?_
            refine jv_lcmp_le 123 dX8_go_115 dX8_go_116 (fun c115 => ?_) (fun c115 => ?_)
            · refine jv_iconst dX8_go_123 ?_
              refine jv_iadd dX8_go_124 ?_
              refine jv_istore dX8_go_125 rfl (Nat.le_of_ble_eq_true rfl) ?_
              refine jv_iinc dX8_go_127 rfl rfl ?_
              refine jv_goto 9 dX8_go_130 ?_
              have e3 : jq_ct cm ou ro (i + 1) = jq_ct cm ou ro i + 0 := by rw [jq_ct, if_neg (by omega), Int.add_zero]
              have nx := fun h1 o w fr => ih (i + 1) h1 _ _ _ (by omega) o w f2 fr
              rw [e3] at nx
              exact nx _ (by repeat' (first | assumption | exact ⟨_, by assumption⟩ | refine jv_h1 (by decide) ?_ | refine jv_h0 ?_ | refine jv_h1 (by omega) ?_ | refine jv_hs ?_)) ⟨(by repeat' (first | assumption | exact ⟨_, by assumption⟩ | refine jv_h1 (by decide) ?_ | refine jv_h0 ?_ | refine jv_h1 (by omega) ?_ | refine jv_hs ?_)), (by repeat' (first | assumption | exact ⟨_, by assumption⟩ | refine jv_h1 (by decide) ?_ | refine jv_h0 ?_ | refine jv_h1 (by omega) ?_ | refine jv_hs ?_)), (by repeat' (first | assumption | exact ⟨_, by assumption⟩ | refine jv_h1 (by decide) ?_ | refine jv_h0 ?_ | refine jv_h1 (by omega) ?_ | refine jv_hs ?_)), (by repeat' (first | assumption | exact ⟨_, by assumption⟩ | refine jv_h1 (by decide) ?_ | refine jv_h0 ?_ | refine jv_h1 (by omega) ?_ | refine jv_hs ?_))⟩ (jv_fs_set (by decide) (jv_fs_set (by decide) (jv_fs_set (by decide) fr)))
            · refine jv_iconst dX8_go_119 ?_
              refine jv_goto 124 dX8_go_120 ?_
              refine jv_iadd dX8_go_124 ?_
              refine jv_istore dX8_go_125 rfl (Nat.le_of_ble_eq_true rfl) ?_
              refine jv_iinc dX8_go_127 rfl rfl ?_
              refine jv_goto 9 dX8_go_130 ?_
              exact absurd c115 (by omega)
          · refine jv_lload dX8_go_75 rfl ?_
            refine jv_lload_n dX8_go_77 rfl ?_
            refine jv_lsub dX8_go_78 ?_
            refine jv_goto 83 dX8_go_79 ?_
            refine jv_tl (b := jq_av cm ou ro i) (by omega) ?_
            refine jv_last dX8_go_83 (by repeat' (first | assumption | exact ⟨_, by assumption⟩ | refine jv_h1 (by decide) ?_ | refine jv_h0 ?_ | refine jv_h1 (by omega) ?_ | refine jv_hs ?_)) ?_
            refine jv_lload dX8_go_84 rfl ?_
            refine jv_aload_n dX8_go_86 rfl ?_
            refine jv_getf dX8_go_87 jf_X8_56 (by repeat' (first | assumption | exact ⟨_, by assumption⟩ | refine jv_h1 (by decide) ?_ | refine jv_h0 ?_ | refine jv_h1 (by omega) ?_ | refine jv_hs ?_)) (by exact rfl) ?_
            refine jv_iload dX8_go_90 rfl ?_
            refine jv_lald dX8_go_92 (by repeat' (first | assumption | exact ⟨_, by assumption⟩ | refine jv_h1 (by decide) ?_ | refine jv_h0 ?_ | refine jv_h1 (by omega) ?_ | refine jv_hs ?_)) ?_
            rw [jv_up_s]
            refine jv_lsub dX8_go_93 ?_
            refine jv_lstore dX8_go_94 rfl (Nat.le_of_ble_eq_true rfl) ?_
            rw [← jq_wt_s]
            refine jv_aload_n dX8_go_96 rfl ?_
            refine jv_getf dX8_go_97 jf_X8_50 (by repeat' (first | assumption | exact ⟨_, by assumption⟩ | refine jv_h1 (by decide) ?_ | refine jv_h0 ?_ | refine jv_h1 (by omega) ?_ | refine jv_hs ?_)) (by exact rfl) ?_
            refine jv_iload dX8_go_100 rfl ?_
            refine jv_lload dX8_go_102 rfl ?_
            refine jv_last dX8_go_104 (by repeat' (first | assumption | exact ⟨_, by assumption⟩ | refine jv_h1 (by decide) ?_ | refine jv_h0 ?_ | refine jv_h1 (by omega) ?_ | refine jv_hs ?_)) ?_
            refine jv_iload dX8_go_105 rfl ?_
            refine jv_aload_n dX8_go_107 rfl ?_
            refine jv_getf dX8_go_108 jf_X8_56 (by repeat' (first | assumption | exact ⟨_, by assumption⟩ | refine jv_h1 (by decide) ?_ | refine jv_h0 ?_ | refine jv_h1 (by omega) ?_ | refine jv_hs ?_)) (by exact rfl) ?_
            refine jv_iload dX8_go_111 rfl ?_
            refine jv_lald dX8_go_113 (by repeat' (first | assumption | exact ⟨_, by assumption⟩ | refine jv_h1 (by decide) ?_ | refine jv_h0 ?_ | refine jv_h1 (by omega) ?_ | refine jv_hs ?_)) ?_
            rw [jv_up_s]
            refine jv_lconst 0 dX8_go_114 ?_
            refine jv_lcmp_le 123 dX8_go_115 dX8_go_116 (fun c115 => ?_) (fun c115 => ?_)
            · refine jv_iconst dX8_go_123 ?_
              refine jv_iadd dX8_go_124 ?_
              refine jv_istore dX8_go_125 rfl (Nat.le_of_ble_eq_true rfl) ?_
              refine jv_iinc dX8_go_127 rfl rfl ?_
              refine jv_goto 9 dX8_go_130 ?_
              exact absurd c115 (by omega)
            · refine jv_iconst dX8_go_119 ?_
              refine jv_goto 124 dX8_go_120 ?_
              refine jv_iadd dX8_go_124 ?_
              refine jv_istore dX8_go_125 rfl (Nat.le_of_ble_eq_true rfl) ?_
              refine jv_iinc dX8_go_127 rfl rfl ?_
              refine jv_goto 9 dX8_go_130 ?_
              have e3 : jq_ct cm ou ro (i + 1) = jq_ct cm ou ro i + 1 := by rw [jq_ct, if_pos c115]
              have nx := fun h1 o w fr => ih (i + 1) h1 _ _ _ (by omega) o w f2 fr
              rw [e3] at nx
              exact nx _ (by repeat' (first | assumption | exact ⟨_, by assumption⟩ | refine jv_h1 (by decide) ?_ | refine jv_h0 ?_ | refine jv_h1 (by omega) ?_ | refine jv_hs ?_)) ⟨(by repeat' (first | assumption | exact ⟨_, by assumption⟩ | refine jv_h1 (by decide) ?_ | refine jv_h0 ?_ | refine jv_h1 (by omega) ?_ | refine jv_hs ?_)), (by repeat' (first | assumption | exact ⟨_, by assumption⟩ | refine jv_h1 (by decide) ?_ | refine jv_h0 ?_ | refine jv_h1 (by omega) ?_ | refine jv_hs ?_)), (by repeat' (first | assumption | exact ⟨_, by assumption⟩ | refine jv_h1 (by decide) ?_ | refine jv_h0 ?_ | refine jv_h1 (by omega) ?_ | refine jv_hs ?_)), (by repeat' (first | assumption | exact ⟨_, by assumption⟩ | refine jv_h1 (by decide) ?_ | refine jv_h0 ?_ | refine jv_h1 (by omega) ?_ | refine jv_hs ?_))⟩ (jv_fs_set (by decide) (jv_fs_set (by decide) (jv_fs_set (by decide) fr)))
        · refine jv_lload dX8_go_43 rfl ?_
          refine jv_goto 49 dX8_go_45 ?_
          refine jv_tl (b := jq_gn cm ou ro i) (by omega) ?_
          refine jv_last dX8_go_49 (by repeat' (first | assumption | exact ⟨_, by assumption⟩ | refine jv_h1 (by decide) ?_ | refine jv_h0 ?_ | refine jv_h1 (by omega) ?_ | refine jv_hs ?_)) ?_
          refine jv_lload dX8_go_50 rfl ?_
          refine jv_aload_n dX8_go_52 rfl ?_
          refine jv_getf dX8_go_53 jf_X8_53 (by repeat' (first | assumption | exact ⟨_, by assumption⟩ | refine jv_h1 (by decide) ?_ | refine jv_h0 ?_ | refine jv_h1 (by omega) ?_ | refine jv_hs ?_)) (by exact rfl) ?_
          refine jv_iload dX8_go_56 rfl ?_
          refine jv_lald dX8_go_58 (by repeat' (first | assumption | exact ⟨_, by assumption⟩ | refine jv_h1 (by decide) ?_ | refine jv_h0 ?_ | refine jv_h1 (by omega) ?_ | refine jv_hs ?_)) ?_
          rw [jv_up_s]
          refine jv_lsub dX8_go_59 ?_
          refine jv_lstore dX8_go_60 rfl (Nat.le_of_ble_eq_true rfl) ?_
          refine jv_aload_n dX8_go_62 rfl ?_
          refine jv_getf dX8_go_63 jf_X8_56 (by repeat' (first | assumption | exact ⟨_, by assumption⟩ | refine jv_h1 (by decide) ?_ | refine jv_h0 ?_ | refine jv_h1 (by omega) ?_ | refine jv_hs ?_)) (by exact rfl) ?_
          refine jv_iload dX8_go_66 rfl ?_
          refine jv_lload dX8_go_68 rfl ?_
          refine jv_lload_n dX8_go_70 rfl ?_
          refine jv_lcmp_le 82 dX8_go_71 dX8_go_72 (fun c71 => ?_) (fun c71 => ?_)
          · refine jv_lconst 0 dX8_go_82 ?_
            refine jv_tl (b := jq_av cm ou ro i) (by omega) ?_
            refine jv_last dX8_go_83 (by repeat' (first | assumption | exact ⟨_, by assumption⟩ | refine jv_h1 (by decide) ?_ | refine jv_h0 ?_ | refine jv_h1 (by omega) ?_ | refine jv_hs ?_)) ?_
            refine jv_lload dX8_go_84 rfl ?_
            refine jv_aload_n dX8_go_86 rfl ?_
            refine jv_getf dX8_go_87 jf_X8_56 (by repeat' (first | assumption | exact ⟨_, by assumption⟩ | refine jv_h1 (by decide) ?_ | refine jv_h0 ?_ | refine jv_h1 (by omega) ?_ | refine jv_hs ?_)) (by exact rfl) ?_
            refine jv_iload dX8_go_90 rfl ?_
            refine jv_lald dX8_go_92 (by repeat' (first | assumption | exact ⟨_, by assumption⟩ | refine jv_h1 (by decide) ?_ | refine jv_h0 ?_ | refine jv_h1 (by omega) ?_ | refine jv_hs ?_)) ?_
            rw [jv_up_s]
            refine jv_lsub dX8_go_93 ?_
            refine jv_lstore dX8_go_94 rfl (Nat.le_of_ble_eq_true rfl) ?_
            rw [← jq_wt_s]
            refine jv_aload_n dX8_go_96 rfl ?_
            refine jv_getf dX8_go_97 jf_X8_50 (by repeat' (first | assumption | exact ⟨_, by assumption⟩ | refine jv_h1 (by decide) ?_ | refine jv_h0 ?_ | refine jv_h1 (by omega) ?_ | refine jv_hs ?_)) (by exact rfl) ?_
            refine jv_iload dX8_go_100 rfl ?_
            refine jv_lload dX8_go_102 rfl ?_
            refine jv_last dX8_go_104 (by repeat' (first | assumption | exact ⟨_, by assumption⟩ | refine jv_h1 (by decide) ?_ | refine jv_h0 ?_ | refine jv_h1 (by omega) ?_ | refine jv_hs ?_)) ?_
            refine jv_iload dX8_go_105 rfl ?_
            refine jv_aload_n dX8_go_107 rfl ?_
            refine jv_getf dX8_go_108 jf_X8_56 (by repeat' (first | assumption | exact ⟨_, by assumption⟩ | refine jv_h1 (by decide) ?_ | refine jv_h0 ?_ | refine jv_h1 (by omega) ?_ | refine jv_hs ?_)) (by exact rfl) ?_
            refine jv_iload dX8_go_111 rfl ?_
            refine jv_lald dX8_go_113 (by repeat' (first | assumption | exact ⟨_, by assumption⟩ | refine jv_h1 (by decide) ?_ | refine jv_h0 ?_ | refine jv_h1 (by omega) ?_ | refine jv_hs ?_)) ?_
            rw [jv_up_s]
            refine jv_lconst 0 dX8_go_114 ?_
            refine jv_lcmp_le 123 dX8_go_115 dX8_go_116 (fun c115 => ?_) (fun c115 => ?_)
            · refine jv_iconst dX8_go_123 ?_
              refine jv_iadd dX8_go_124 ?_
              refine jv_istore dX8_go_125 rfl (Nat.le_of_ble_eq_true rfl) ?_
              refine jv_iinc dX8_go_127 rfl rfl ?_
              refine jv_goto 9 dX8_go_130 ?_
              have e3 : jq_ct cm ou ro (i + 1) = jq_ct cm ou ro i + 0 := by rw [jq_ct, if_neg (by omega), Int.add_zero]
              have nx := fun h1 o w fr => ih (i + 1) h1 _ _ _ (by omega) o w f2 fr
              rw [e3] at nx
              exact nx _ (by repeat' (first | assumption | exact ⟨_, by assumption⟩ | refine jv_h1 (by decide) ?_ | refine jv_h0 ?_ | refine jv_h1 (by omega) ?_ | refine jv_hs ?_)) ⟨(by repeat' (first | assumption | exact ⟨_, by assumption⟩ | refine jv_h1 (by decide) ?_ | refine jv_h0 ?_ | refine jv_h1 (by omega) ?_ | refine jv_hs ?_)), (by repeat' (first | assumption | exact ⟨_, by assumption⟩ | refine jv_h1 (by decide) ?_ | refine jv_h0 ?_ | refine jv_h1 (by omega) ?_ | refine jv_hs ?_)), (by repeat' (first | assumption | exact ⟨_, by assumption⟩ | refine jv_h1 (by decide) ?_ | refine jv_h0 ?_ | refine jv_h1 (by omega) ?_ | refine jv_hs ?_)), (by repeat' (first | assumption | exact ⟨_, by assumption⟩ | refine jv_h1 (by decide) ?_ | refine jv_h0 ?_ | refine jv_h1 (by omega) ?_ | refine jv_hs ?_))⟩ (jv_fs_set (by decide) (jv_fs_set (by decide) (jv_fs_set (by decide) fr)))
            · refine jv_iconst dX8_go_119 ?_
              refine jv_goto 124 dX8_go_120 ?_
              refine jv_iadd dX8_go_124 ?_
              refine jv_istore dX8_go_125 rfl (Nat.le_of_ble_eq_true rfl) ?_
              refine jv_iinc dX8_go_127 rfl rfl ?_
              refine jv_goto 9 dX8_go_130 ?_
              exact absurd c115 (by omega)
          · refine jv_lload dX8_go_75 rfl ?_
            refine jv_lload_n dX8_go_77 rfl ?_
            refine jv_lsub dX8_go_78 ?_
            refine jv_goto 83 dX8_go_79 ?_
            refine jv_tl (b := jq_av cm ou ro i) (by omega) ?_
            refine jv_last dX8_go_83 (by repeat' (first | assumption | exact ⟨_, by assumption⟩ | refine jv_h1 (by decide) ?_ | refine jv_h0 ?_ | refine jv_h1 (by omega) ?_ | refine jv_hs ?_)) ?_
            refine jv_lload dX8_go_84 rfl ?_
            refine jv_aload_n dX8_go_86 rfl ?_
            refine jv_getf dX8_go_87 jf_X8_56 (by repeat' (first | assumption | exact ⟨_, by assumption⟩ | refine jv_h1 (by decide) ?_ | refine jv_h0 ?_ | refine jv_h1 (by omega) ?_ | refine jv_hs ?_)) (by exact rfl) ?_
            refine jv_iload dX8_go_90 rfl ?_
            refine jv_lald dX8_go_92 (by repeat' (first | assumption | exact ⟨_, by assumption⟩ | refine jv_h1 (by decide) ?_ | refine jv_h0 ?_ | refine jv_h1 (by omega) ?_ | refine jv_hs ?_)) ?_
            rw [jv_up_s]
            refine jv_lsub dX8_go_93 ?_
            refine jv_lstore dX8_go_94 rfl (Nat.le_of_ble_eq_true rfl) ?_
            rw [← jq_wt_s]
            refine jv_aload_n dX8_go_96 rfl ?_
            refine jv_getf dX8_go_97 jf_X8_50 (by repeat' (first | assumption | exact ⟨_, by assumption⟩ | refine jv_h1 (by decide) ?_ | refine jv_h0 ?_ | refine jv_h1 (by omega) ?_ | refine jv_hs ?_)) (by exact rfl) ?_
            refine jv_iload dX8_go_100 rfl ?_
            refine jv_lload dX8_go_102 rfl ?_
            refine jv_last dX8_go_104 (by repeat' (first | assumption | exact ⟨_, by assumption⟩ | refine jv_h1 (by decide) ?_ | refine jv_h0 ?_ | refine jv_h1 (by omega) ?_ | refine jv_hs ?_)) ?_
            refine jv_iload dX8_go_105 rfl ?_
            refine jv_aload_n dX8_go_107 rfl ?_
            refine jv_getf dX8_go_108 jf_X8_56 (by repeat' (first | assumption | exact ⟨_, by assumption⟩ | refine jv_h1 (by decide) ?_ | refine jv_h0 ?_ | refine jv_h1 (by omega) ?_ | refine jv_hs ?_)) (by exact rfl) ?_
            refine jv_iload dX8_go_111 rfl ?_
            refine jv_lald dX8_go_113 (by repeat' (first | assumption | exact ⟨_, by assumption⟩ | refine jv_h1 (by decide) ?_ | refine jv_h0 ?_ | refine jv_h1 (by omega) ?_ | refine jv_hs ?_)) ?_
            rw [jv_up_s]
            refine jv_lconst 0 dX8_go_114 ?_
            refine jv_lcmp_le 123 dX8_go_115 dX8_go_116 (fun c115 => ?_) (fun c115 => ?_)
            · refine jv_iconst dX8_go_123 ?_
              refine jv_iadd dX8_go_124 ?_
              refine jv_istore dX8_go_125 rfl (Nat.le_of_ble_eq_true rfl) ?_
              refine jv_iinc dX8_go_127 rfl rfl ?_
              refine jv_goto 9 dX8_go_130 ?_
              exact absurd c115 (by omega)
            · refine jv_iconst dX8_go_119 ?_
              refine jv_goto 124 dX8_go_120 ?_
              refine jv_iadd dX8_go_124 ?_
              refine jv_istore dX8_go_125 rfl (Nat.le_of_ble_eq_true rfl) ?_
              refine jv_iinc dX8_go_127 rfl rfl ?_
              refine jv_goto 9 dX8_go_130 ?_
              have e3 : jq_ct cm ou ro (i + 1) = jq_ct cm ou ro i + 1 := by rw [jq_ct, if_pos c115]
              have nx := fun h1 o w fr => ih (i + 1) h1 _ _ _ (by omega) o w f2 fr
              rw [e3] at nx
              exact nx _ (by repeat' (first | assumption | exact ⟨_, by assumption⟩ | refine jv_h1 (by decide) ?_ | refine jv_h0 ?_ | refine jv_h1 (by omega) ?_ | refine jv_hs ?_)) ⟨(by repeat' (first | assumption | exact ⟨_, by assumption⟩ | refine jv_h1 (by decide) ?_ | refine jv_h0 ?_ | refine jv_h1 (by omega) ?_ | refine jv_hs ?_)), (by repeat' (first | assumption | exact ⟨_, by assumption⟩ | refine jv_h1 (by decide) ?_ | refine jv_h0 ?_ | refine jv_h1 (by omega) ?_ | refine jv_hs ?_)), (by repeat' (first | assumption | exact ⟨_, by assumption⟩ | refine jv_h1 (by decide) ?_ | refine jv_h0 ?_ | refine jv_h1 (by omega) ?_ | refine jv_hs ?_)), (by repeat' (first | assumption | exact ⟨_, by assumption⟩ | refine jv_h1 (by decide) ?_ | refine jv_h0 ?_ | refine jv_h1 (by omega) ?_ | refine jv_hs ?_))⟩ (jv_fs_set (by decide) (jv_fs_set (by decide) (jv_fs_set (by decide) fr)))
  refine jv_lconst 0 dX8_go_0 ?_
  refine jv_lstore dX8_go_1 rfl (Nat.le_of_ble_eq_true rfl) ?_
  refine jv_iconst dX8_go_3 ?_
  refine jv_istore dX8_go_4 rfl (Nat.le_of_ble_eq_true rfl) ?_
  refine jv_iconst dX8_go_6 ?_
  refine jv_istore dX8_go_7 rfl (Nat.le_of_ble_eq_true rfl) ?_
  exact loop n 0 h ho we ov (by omega) o w (fun j hj => by omega) jv_fs_rf
theorem ct_X8_run {ou ro : Int} (K : Nat) (o : jw_O h rr lv cu si st at_ wr n ra wa) (w : jw_MD h cm ho we ov) (hD : jq_D n cm al) (ho0 : jq_lg ou) (hr0 : jq_lg ro) (hp1 : jq_w15 ou ∧ jq_w15 ro → ∀ h' ho' we' ov', jw_O h' rr lv cu si st at_ wr n 1 wa → jw_MD h' cm ho' we' ov' → jq_mrun n cm ou ro ho' we' ov' → jv_fs [97, 110, 111, 112, 113] h h' → post (some (.int (jv_i (jq_ct cm ou ro n)))) h') (hp2 : ¬ (jq_w15 ou ∧ jq_w15 ro) → post (some (.int (jv_i (-1)))) h) : jv_Ct yX8_run cX8_run 5 (some .int) (K + 1) [.ref 97, .long (jv_l ou), .long (jv_l ro)] h post := by
  unfold jw_O at o
  obtain ⟨w1, w2, w3, w4⟩ := w
  unfold jq_lg at ho0 hr0
  unfold jq_w15 at hp1 hp2
  refine jv_entry (own := RX8) (by decide) rfl (Nat.le_of_ble_eq_true rfl) (fun X hq => ?_)
  refine jv_lload_n dX8_run_0 rfl ?_
  refine jv_lconst 0 dX8_run_1 ?_
  refine jv_ldc2 dX8_run_2 jk_X8_180 ?_
  refine jv_cS dX8_run_5 jm_X8_64 (ct_X8_in K (fun r1 q11 q12 q13 => ?_))
  refine jv_if_eq 22 dX8_run_8 (fun c8 => ?_) (fun c8 => ?_)
  · refine jv_iconst dX8_run_22 ?_
    exact jv_iret dX8_run_23 hq (hp2 (by omega))
  · refine jv_lload_n dX8_run_11 rfl ?_
    refine jv_lconst 0 dX8_run_12 ?_
    refine jv_ldc2 dX8_run_13 jk_X8_180 ?_
    refine jv_cS dX8_run_16 jm_X8_64 (ct_X8_in K (fun r2 q21 q22 q23 => ?_))
    refine jv_if_ne 24 dX8_run_19 (fun c19 => ?_) (fun c19 => ?_)
    · refine jv_aload_n dX8_run_24 rfl ?_
      refine jv_iconst dX8_run_25 ?_
      refine jv_putf dX8_run_26 jp_X8_177 (by repeat' (first | assumption | exact ⟨_, by assumption⟩ | refine jv_h1 (by decide) ?_ | refine jv_h0 ?_ | refine jv_h1 (by omega) ?_ | refine jv_hs ?_)) (by exact Nat.le_of_ble_eq_true rfl) ?_ (jv_bn (by omega)) (jv_bf (by omega))
      refine jv_aload_n dX8_run_29 rfl ?_
      refine jv_lload_n dX8_run_30 rfl ?_
      refine jv_lload_n dX8_run_31 rfl ?_
      refine jv_cV dX8_run_32 jm_X8_182 rfl (by repeat' (first | assumption | exact ⟨_, by assumption⟩ | refine jv_h1 (by decide) ?_ | refine jv_h0 ?_ | refine jv_h1 (by omega) ?_ | refine jv_hs ?_)) rfl (ct_X8_go (n := n) (ra := 1) (rr := rr) (lv := lv) (cu := cu) (si := si) (st := st) (at_ := at_) (wr := wr) (wa := wa) (cm := cm) (ho := ho) (we := we) (ov := ov) K (by repeat' (first | assumption | exact ⟨_, by assumption⟩ | refine jv_h1 (by decide) ?_ | refine jv_h0 ?_ | refine jv_h1 (by omega) ?_ | refine jv_hs ?_)) ⟨(by repeat' (first | assumption | exact ⟨_, by assumption⟩ | refine jv_h1 (by decide) ?_ | refine jv_h0 ?_ | refine jv_h1 (by omega) ?_ | refine jv_hs ?_)), (by repeat' (first | assumption | exact ⟨_, by assumption⟩ | refine jv_h1 (by decide) ?_ | refine jv_h0 ?_ | refine jv_h1 (by omega) ?_ | refine jv_hs ?_)), (by repeat' (first | assumption | exact ⟨_, by assumption⟩ | refine jv_h1 (by decide) ?_ | refine jv_h0 ?_ | refine jv_h1 (by omega) ?_ | refine jv_hs ?_)), (by repeat' (first | assumption | exact ⟨_, by assumption⟩ | refine jv_h1 (by decide) ?_ | refine jv_h0 ?_ | refine jv_h1 (by omega) ?_ | refine jv_hs ?_))⟩ hD (by omega) (by omega) (fun h' ho' we' ov' o' w' f' fr' => ?_))
      exact jv_iret dX8_run_35 hq (hp1 (by omega) h' ho' we' ov' o' w' f' (jv_fs_tr (jv_fs_set (by decide) jv_fs_rf) fr')) (by first | rfl | decide)
    · refine jv_iconst dX8_run_22 ?_
      exact jv_iret dX8_run_23 hq (hp2 (by omega))
theorem ct_X8_behind {dy wh : Int} (K : Nat) (o : jw_O h rr lv cu si st at_ wr n ra wa) (w : jw_MD h cm ho we ov) (hD : jq_D n cm al) (hr1 : 0 ≤ ra ∧ ra ≤ 1) (hd : jq_rg dy) (hw : jq_rg wh) (hp : post (some (.long (jv_l (jq_rc n ra ho we ov (fun j => jq_sm ov (j.toNat + 1)) dy wh)))) h) : jv_Ct yX8_behind cX8_behind 6 (some .long) K [.ref 97, .int (jv_i dy), .int (jv_i wh)] h post := by
  unfold jw_O at o
  obtain ⟨w1, w2, w3, w4⟩ := w
  have hn := hD.1
  unfold jq_rg at hd hw
  unfold jq_rc at hp
  refine jv_entry (own := RX8) (by decide) rfl (Nat.le_of_ble_eq_true rfl) (fun X hq => ?_)
  have fin : ra ≠ 0 → 0 ≤ dy → dy < n → jv_J X cX8_behind RX8 K 50 [some (.ref 97), some (.int (jv_i dy)), some (.int (jv_i wh)), some (.long (jv_l (jq_sm ov (dy.toNat + 1)))), none, some (.int (jv_i ((dy.toNat + 1 : Nat) : Int)))] [] h := by
    intro g1 g2 g3
    rw [if_neg (by omega)] at hp
    refine jv_iload_n dX8_behind_50 rfl ?_
    refine jv_if_ne 63 dX8_behind_51 (fun c51 => ?_) (fun c51 => ?_)
    · refine jv_iload_n dX8_behind_63 rfl ?_
      refine jv_iconst dX8_behind_64 ?_
      refine jv_icmp_ne 77 dX8_behind_65 (fun c65 => ?_) (fun c65 => ?_)
      · refine jv_iload_n dX8_behind_77 rfl ?_
        refine jv_iconst dX8_behind_78 ?_
        refine jv_icmp_ne 91 dX8_behind_79 (fun c79 => ?_) (fun c79 => ?_)
        · refine jv_iload_n dX8_behind_91 rfl ?_
          refine jv_iconst dX8_behind_92 ?_
          refine jv_icmp_ne 100 dX8_behind_93 (fun c93 => ?_) (fun c93 => ?_)
          · refine jv_ldc2 dX8_behind_100 jk_X8_90 ?_
            exact jv_lret dX8_behind_103 hq (by rw [if_neg c51, if_neg c65, if_neg c79, if_neg c93] at hp; exact hp)
          · refine jv_lload_n dX8_behind_96 rfl ?_
            refine jv_goto 103 dX8_behind_97 ?_
            exact jv_lret dX8_behind_103 hq (by rw [if_neg c51, if_neg c65, if_neg c79, if_pos c93] at hp; exact hp)
        · refine jv_aload_n dX8_behind_82 rfl ?_
          refine jv_getf dX8_behind_83 jf_X8_56 (by repeat' (first | assumption | exact ⟨_, by assumption⟩ | refine jv_h1 (by decide) ?_ | refine jv_h0 ?_ | refine jv_h1 (by omega) ?_ | refine jv_hs ?_)) (by exact rfl) ?_
          refine jv_iload_n dX8_behind_86 rfl ?_
          refine jv_lald dX8_behind_87 (by repeat' (first | assumption | exact ⟨_, by assumption⟩ | refine jv_h1 (by decide) ?_ | refine jv_h0 ?_ | refine jv_h1 (by omega) ?_ | refine jv_hs ?_)) ?_
          refine jv_goto 103 dX8_behind_88 ?_
          exact jv_lret dX8_behind_103 hq (by rw [if_neg c51, if_neg c65, if_pos c79] at hp; exact hp)
      · refine jv_aload_n dX8_behind_68 rfl ?_
        refine jv_getf dX8_behind_69 jf_X8_53 (by repeat' (first | assumption | exact ⟨_, by assumption⟩ | refine jv_h1 (by decide) ?_ | refine jv_h0 ?_ | refine jv_h1 (by omega) ?_ | refine jv_hs ?_)) (by exact rfl) ?_
        refine jv_iload_n dX8_behind_72 rfl ?_
        refine jv_lald dX8_behind_73 (by repeat' (first | assumption | exact ⟨_, by assumption⟩ | refine jv_h1 (by decide) ?_ | refine jv_h0 ?_ | refine jv_h1 (by omega) ?_ | refine jv_hs ?_)) ?_
        refine jv_goto 103 dX8_behind_74 ?_
        exact jv_lret dX8_behind_103 hq (by rw [if_neg c51, if_pos c65] at hp; exact hp)
    · refine jv_aload_n dX8_behind_54 rfl ?_
      refine jv_getf dX8_behind_55 jf_X8_50 (by repeat' (first | assumption | exact ⟨_, by assumption⟩ | refine jv_h1 (by decide) ?_ | refine jv_h0 ?_ | refine jv_h1 (by omega) ?_ | refine jv_hs ?_)) (by exact rfl) ?_
      refine jv_iload_n dX8_behind_58 rfl ?_
      refine jv_lald dX8_behind_59 (by repeat' (first | assumption | exact ⟨_, by assumption⟩ | refine jv_h1 (by decide) ?_ | refine jv_h0 ?_ | refine jv_h1 (by omega) ?_ | refine jv_hs ?_)) ?_
      refine jv_goto 103 dX8_behind_60 ?_
      exact jv_lret dX8_behind_103 hq (by rw [if_pos c51] at hp; exact hp)
  have loop : ∀ (k i : Nat), ra ≠ 0 → 0 ≤ dy → dy < n → i + k = dy.toNat + 1 → jv_J X cX8_behind RX8 K 28 [some (.ref 97), some (.int (jv_i dy)), some (.int (jv_i wh)), some (.long (jv_l (jq_sm ov i))), none, some (.int (jv_i i))] [] h := by
    intro k
    induction k with
    | zero =>
      intro i g1 g2 g3 e
      have e2 : i = dy.toNat + 1 := by omega
      subst e2
      have ff := fin g1 g2 g3
      refine jv_iload dX8_behind_28 rfl ?_
      refine jv_iload_n dX8_behind_30 rfl ?_
      refine jv_icmp_gt 50 dX8_behind_31 (fun c31 => ?_) (fun c31 => ?_)
      · exact ff
      · exact absurd c31 (by omega)
    | succ k ih =>
      intro i g1 g2 g3 e
      have nx := ih (i + 1) g1 g2 g3 (by omega)
      rw [show jq_sm ov (i + 1) = jq_sm ov i + ov i from rfl] at nx
      refine jv_iload dX8_behind_28 rfl ?_
      refine jv_iload_n dX8_behind_30 rfl ?_
      refine jv_icmp_gt 50 dX8_behind_31 (fun c31 => ?_) (fun c31 => ?_)
      · exact absurd c31 (by omega)
      · refine jv_lload_n dX8_behind_34 rfl ?_
        refine jv_aload_n dX8_behind_35 rfl ?_
        refine jv_getf dX8_behind_36 jf_X8_56 (by repeat' (first | assumption | exact ⟨_, by assumption⟩ | refine jv_h1 (by decide) ?_ | refine jv_h0 ?_ | refine jv_h1 (by omega) ?_ | refine jv_hs ?_)) (by exact rfl) ?_
        refine jv_iload dX8_behind_39 rfl ?_
        refine jv_lald dX8_behind_41 (by repeat' (first | assumption | exact ⟨_, by assumption⟩ | refine jv_h1 (by decide) ?_ | refine jv_h0 ?_ | refine jv_h1 (by omega) ?_ | refine jv_hs ?_)) ?_
        refine jv_ladd dX8_behind_42 ?_
        refine jv_lstore_n dX8_behind_43 rfl (Nat.le_of_ble_eq_true rfl) ?_
        refine jv_iinc dX8_behind_44 rfl rfl ?_
        refine jv_goto 28 dX8_behind_47 ?_
        exact nx
  refine jv_aload_n dX8_behind_0 rfl ?_
  refine jv_getf dX8_behind_1 jf_X8_177 (by repeat' (first | assumption | exact ⟨_, by assumption⟩ | refine jv_h1 (by decide) ?_ | refine jv_h0 ?_ | refine jv_h1 (by omega) ?_ | refine jv_hs ?_)) (by exact rfl) ?_
  refine jv_if_eq 19 dX8_behind_4 (fun c4 => ?_) (fun c4 => ?_)
  · refine jv_ldc2 dX8_behind_19 jk_X8_90 ?_
    exact jv_lret dX8_behind_22 hq (by rw [if_pos (by omega)] at hp; exact hp)
  · refine jv_iload_n dX8_behind_7 rfl ?_
    refine jv_if_lt 19 dX8_behind_8 (fun c8 => ?_) (fun c8 => ?_)
    · refine jv_ldc2 dX8_behind_19 jk_X8_90 ?_
      exact jv_lret dX8_behind_22 hq (by rw [if_pos (by omega)] at hp; exact hp)
    · refine jv_iload_n dX8_behind_11 rfl ?_
      refine jv_aload_n dX8_behind_12 rfl ?_
      refine jv_getf dX8_behind_13 jf_X8_174 (by repeat' (first | assumption | exact ⟨_, by assumption⟩ | refine jv_h1 (by decide) ?_ | refine jv_h0 ?_ | refine jv_h1 (by omega) ?_ | refine jv_hs ?_)) (by exact rfl) ?_
      refine jv_icmp_lt 23 dX8_behind_16 (fun c16 => ?_) (fun c16 => ?_)
      · refine jv_lconst 0 dX8_behind_23 ?_
        refine jv_lstore_n dX8_behind_24 rfl (Nat.le_of_ble_eq_true rfl) ?_
        refine jv_iconst dX8_behind_25 ?_
        refine jv_istore dX8_behind_26 rfl (Nat.le_of_ble_eq_true rfl) ?_
        exact loop (dy.toNat + 1) 0 c4 (by omega) (by omega) (by omega)
      · refine jv_ldc2 dX8_behind_19 jk_X8_90 ?_
        exact jv_lret dX8_behind_22 hq (by rw [if_pos (by omega)] at hp; exact hp)
theorem ct_X8_room {ou mo : Int} (K : Nat) (o : jw_O h rr lv cu si st at_ wr n ra wa) (w : jw_MD h cm ho we ov) (hD : jq_D n cm al) (ho0 : jq_lg ou) (hm : jq_rg mo) (hp1 : jq_w15 ou ∧ (0 ≤ mo ∧ mo ≤ 400) → ∀ r h' ho' we' ov', jw_O h' rr lv cu si st at_ wr n 0 wa → jw_MD h' cm ho' we' ov' → jq_lr n cm ou mo r → jv_fs [97, 110, 111, 112, 113] h h' → post (some (.long (jv_l r))) h') (hp2 : ¬ (jq_w15 ou ∧ (0 ≤ mo ∧ mo ≤ 400)) → post (some (.long (jv_l (-1)))) h) : jv_Ct yX8_room cX8_room 10 (some .long) (K + 1) [.ref 97, .long (jv_l ou), .int (jv_i mo)] h post := by
  have hn := hD.1
  have z1 := jq_sm_le hD.2.1 n
  unfold jq_lg at ho0
  unfold jq_rg at hm
  unfold jq_w15 at hp1 hp2
  refine jv_entry (own := RX8) (by decide) rfl (Nat.le_of_ble_eq_true rfl) (fun X hq => ?_)
  have loop : ∀ (k : Nat) (a b : Int) (h1 : List jv_E) (ho we ov : Int → Int), (0 ≤ ou ∧ ou ≤ 1000000000000000) → (0 ≤ mo ∧ mo ≤ 400) → jw_O h1 rr lv cu si st at_ wr n 0 wa → jw_MD h1 cm ho we ov → jv_fs [97, 110, 111, 112, 113] h h1 → 0 ≤ a → a ≤ b → b ≤ 400000000000000 → b - a < 2 ^ k → jq_ct cm ou b n ≤ mo → (∀ r', 0 ≤ r' → r' < a → mo < jq_ct cm ou r' n) → jv_J X cX8_room RX8 (K + 1) 40 [some (.ref 97), some (.long (jv_l ou)), none, some (.int (jv_i mo)), some (.long (jv_l a)), none, some (.long (jv_l b)), none, none, none] [] h1 := by
    intro k
    induction k with
    | zero =>
      intro a b h1 ho we ov g1 g2 o w fr p1 p2 p3 p4 p5 p6
      have p7 : b - a < 1 := by simpa using p4
      obtain rfl : a = b := by omega
      refine jv_lload dX8_room_40 rfl ?_
      refine jv_lload dX8_room_42 rfl ?_
      refine jv_lcmp_ge 86 dX8_room_44 dX8_room_45 (fun c44 => ?_) (fun c44 => ?_)
      · refine jv_lload dX8_room_86 rfl ?_
        exact jv_lret dX8_room_88 hq (hp1 ⟨g1, g2⟩ _ _ ho we ov o w ⟨p1, p5, p6⟩ fr)
      · exact absurd c44 (by omega)
    | succ k ih =>
      intro a b h1 ho we ov g1 g2 o w fr p1 p2 p3 p4 p5 p6
      have o9 := o
      unfold jw_O at o
      have p7 : b - a < 2 * 2 ^ k := by rw [Int.pow_succ] at p4; omega
      generalize (2 : Int) ^ k = p at *
      refine jv_lload dX8_room_40 rfl ?_
      refine jv_lload dX8_room_42 rfl ?_
      refine jv_lcmp_ge 86 dX8_room_44 dX8_room_45 (fun c44 => ?_) (fun c44 => ?_)
      · refine jv_lload dX8_room_86 rfl ?_
        obtain rfl : a = b := by omega
        exact jv_lret dX8_room_88 hq (hp1 ⟨g1, g2⟩ _ _ ho we ov o9 w ⟨p1, p5, p6⟩ fr)
      · refine jv_lload dX8_room_48 rfl ?_
        refine jv_lload dX8_room_50 rfl ?_
        refine jv_ladd dX8_room_52 ?_
        refine jv_ldc2 dX8_room_53 jk_X8_190 ?_
        refine jv_ldiv dX8_room_56 ?_
        refine jv_lstore dX8_room_57 rfl (Nat.le_of_ble_eq_true rfl) ?_
        refine jv_aload_n dX8_room_59 rfl ?_
        refine jv_lload_n dX8_room_60 rfl ?_
        refine jv_lload dX8_room_61 rfl ?_
        have q0 := jq_ct_in cm ou ((a + b) / 2) n
        refine jv_cV dX8_room_63 jm_X8_182 rfl (by repeat' (first | assumption | exact ⟨_, by assumption⟩ | refine jv_h1 (by decide) ?_ | refine jv_h0 ?_ | refine jv_h1 (by omega) ?_ | refine jv_hs ?_)) rfl (ct_X8_go K o9 w hD g1 (by omega) (fun h' ho' we' ov' o' w' f' fr' => ?_))
        refine jv_iload_n dX8_room_66 rfl ?_
        refine jv_icmp_gt 77 dX8_room_67 (fun c67 => ?_) (fun c67 => ?_)
        · refine jv_lload dX8_room_77 rfl ?_
          refine jv_lconst 1 dX8_room_79 ?_
          refine jv_ladd dX8_room_80 ?_
          refine jv_lstore dX8_room_81 rfl (Nat.le_of_ble_eq_true rfl) ?_
          refine jv_goto 40 dX8_room_83 ?_
          refine jv_les ?_ (ih ((a + b) / 2 + 1) b h' ho' we' ov' g1 g2 o' w' (jv_fs_tr fr fr') (by omega) (by omega) p3 (by omega) p5 (fun r' z1 z2 => by have := (jq_ct_mono (cm := cm) (ou := ou) (r := r') (r' := (a + b) / 2) (by omega) n).2; omega))
          exact (by repeat' (first | exact True.intro | exact rfl | apply And.intro))
        · refine jv_lload dX8_room_70 rfl ?_
          refine jv_lstore dX8_room_72 rfl (Nat.le_of_ble_eq_true rfl) ?_
          refine jv_goto 83 dX8_room_74 ?_
          refine jv_goto 40 dX8_room_83 ?_
          refine jv_les ?_ (ih a ((a + b) / 2) h' ho' we' ov' g1 g2 o' w' (jv_fs_tr fr fr') p1 (by omega) (by omega) (by omega) c67 p6)
          exact (by repeat' (first | exact True.intro | exact rfl | apply And.intro))
  unfold jw_O at o
  obtain ⟨w1, w2, w3, w4⟩ := w
  refine jv_lload_n dX8_room_0 rfl ?_
  refine jv_lconst 0 dX8_room_1 ?_
  refine jv_ldc2 dX8_room_2 jk_X8_180 ?_
  refine jv_cS dX8_room_5 jm_X8_64 (ct_X8_in K (fun r1 q11 q12 q13 => ?_))
  refine jv_if_eq 23 dX8_room_8 (fun c8 => ?_) (fun c8 => ?_)
  · refine jv_ldc2 dX8_room_23 jk_X8_90 ?_
    exact jv_lret dX8_room_26 hq (hp2 (by omega))
  · refine jv_iload_n dX8_room_11 rfl ?_
    refine jv_i2l dX8_room_12 ?_
    refine jv_lconst 0 dX8_room_13 ?_
    refine jv_ldc2 dX8_room_14 jk_X8_186 ?_
    refine jv_cS dX8_room_17 jm_X8_64 (ct_X8_in K (fun r2 q21 q22 q23 => ?_))
    refine jv_if_ne 27 dX8_room_20 (fun c20 => ?_) (fun c20 => ?_)
    · refine jv_aload_n dX8_room_27 rfl ?_
      refine jv_iconst dX8_room_28 ?_
      refine jv_putf dX8_room_29 jp_X8_177 (by repeat' (first | assumption | exact ⟨_, by assumption⟩ | refine jv_h1 (by decide) ?_ | refine jv_h0 ?_ | refine jv_h1 (by omega) ?_ | refine jv_hs ?_)) (by exact Nat.le_of_ble_eq_true rfl) ?_ (jv_bn (by omega)) (jv_bf (by omega))
      refine jv_lconst 0 dX8_room_32 ?_
      refine jv_lstore dX8_room_33 rfl (Nat.le_of_ble_eq_true rfl) ?_
      refine jv_ldc2 dX8_room_35 jk_X8_188 ?_
      refine jv_lstore dX8_room_38 rfl (Nat.le_of_ble_eq_true rfl) ?_
      exact loop 60 0 400000000000000 _ ho we ov (by omega) (by omega) (by repeat' (first | assumption | exact ⟨_, by assumption⟩ | refine jv_h1 (by decide) ?_ | refine jv_h0 ?_ | refine jv_h1 (by omega) ?_ | refine jv_hs ?_)) ⟨(by repeat' (first | assumption | exact ⟨_, by assumption⟩ | refine jv_h1 (by decide) ?_ | refine jv_h0 ?_ | refine jv_h1 (by omega) ?_ | refine jv_hs ?_)), (by repeat' (first | assumption | exact ⟨_, by assumption⟩ | refine jv_h1 (by decide) ?_ | refine jv_h0 ?_ | refine jv_h1 (by omega) ?_ | refine jv_hs ?_)), (by repeat' (first | assumption | exact ⟨_, by assumption⟩ | refine jv_h1 (by decide) ?_ | refine jv_h0 ?_ | refine jv_h1 (by omega) ?_ | refine jv_hs ?_)), (by repeat' (first | assumption | exact ⟨_, by assumption⟩ | refine jv_h1 (by decide) ?_ | refine jv_h0 ?_ | refine jv_h1 (by omega) ?_ | refine jv_hs ?_))⟩ (jv_fs_set (by decide) jv_fs_rf) (by omega) (by omega) (by omega) (by omega) (by rw [(jq_ct_all (al := 400000000000000) hD.2.1 (by omega) n (by omega)).2]; omega) (fun r' z1 z2 => by omega)
    · refine jv_ldc2 dX8_room_23 jk_X8_90 ?_
      exact jv_lret dX8_room_26 hq (hp2 (by omega))
end MD
