/-! DAYS: n days cm; a run's rows: held he, gone go, above ab, so far so -/
theorem jv_bn {a : Int} (h : a = 0 ∨ a = 1) : ∀ ad : Nat → Nat, narrow .boolean (jv_V ad (.int (jv_i a))) = jv_V ad (.int (jv_i a)) := fun ad => by
  rcases h with rfl | rfl
  · show narrow .boolean (.int (jv_i 0)) = .int (jv_i 0)
    decide
  · show narrow .boolean (.int (jv_i 1)) = .int (jv_i 1)
    decide
theorem jv_bf {a : Int} (h : a = 0 ∨ a = 1) : ∀ ad : Nat → Nat, fits .boolean (jv_V ad (.int (jv_i a))) = true := fun ad => by
  rcases h with rfl | rfl
  · show fits .boolean (.int (jv_i 0)) = true
    decide
  · show fits .boolean (.int (jv_i 1)) = true
    decide
theorem jv_tl {X : jv_M} {cc : ByteArray} {own : String} {K pc : Nat} {L : List (Option Value)} {S : List Value} {h : List jv_E} {a b : Int} (e : a = b) (kk : jv_J X cc own K pc L (.long (jv_l b) :: S) h) : jv_J X cc own K pc L (.long (jv_l a) :: S) h := by rw [e]; exact kk
def jq_wt (cm : Int → Int) (ou ro : Int) : Nat → Int
  | 0 => 0
  | i + 1 => jq_wt cm ou ro i + cm i - min (jq_wt cm ou ro i + cm i) ou - max 0 (jq_wt cm ou ro i + cm i - min (jq_wt cm ou ro i + cm i) ou - ro)
def jq_gn (cm : Int → Int) (ou ro : Int) (i : Nat) : Int := min (jq_wt cm ou ro i + cm i) ou
def jq_av (cm : Int → Int) (ou ro : Int) (i : Nat) : Int := max 0 (jq_wt cm ou ro i + cm i - min (jq_wt cm ou ro i + cm i) ou - ro)
def jq_so (cm : Int → Int) (ou ro : Int) : Nat → Int
  | 0 => 0
  | i + 1 => jq_so cm ou ro i + jq_av cm ou ro i
def jq_ct (cm : Int → Int) (ou ro : Int) : Nat → Int
  | 0 => 0
  | i + 1 => if 0 < jq_av cm ou ro i then jq_ct cm ou ro i + 1 else jq_ct cm ou ro i
def jq_sm (f : Int → Int) : Nat → Int
  | 0 => 0
  | i + 1 => jq_sm f i + f i
theorem jq_wt_s (cm : Int → Int) (ou ro : Int) (i : Nat) : jq_wt cm ou ro (i + 1) = jq_wt cm ou ro i + cm i - jq_gn cm ou ro i - jq_av cm ou ro i := rfl
theorem jq_wt_in {cm : Int → Int} {ou ro : Int} (hc : ∀ i, 0 ≤ cm i ∧ cm i ≤ 1000000000000) (ho : 0 ≤ ou) (hr : 0 ≤ ro) : ∀ i : Nat, 0 ≤ jq_wt cm ou ro i ∧ jq_wt cm ou ro i ≤ i * 1000000000000
  | 0 => by simp [jq_wt]
  | i + 1 => by
    have h1 := jq_wt_in hc ho hr i
    have h2 := hc i
    rw [jq_wt]
    omega
theorem jq_ct_in (cm : Int → Int) (ou ro : Int) : ∀ i : Nat, 0 ≤ jq_ct cm ou ro i ∧ jq_ct cm ou ro i ≤ i
  | 0 => by simp [jq_ct]
  | i + 1 => by
    have h1 := jq_ct_in cm ou ro i
    rw [jq_ct]
    split <;> omega
/-- a greater room never has more days that overflow -/
theorem jq_ct_mono {cm : Int → Int} {ou r r' : Int} (hr : r ≤ r') : ∀ i : Nat, (0 ≤ jq_wt cm ou r' i - jq_wt cm ou r i ∧ jq_wt cm ou r' i - jq_wt cm ou r i ≤ r' - r) ∧ jq_ct cm ou r' i ≤ jq_ct cm ou r i
  | 0 => by simp [jq_wt, jq_ct]; omega
  | i + 1 => by
    obtain ⟨h1, h2⟩ := jq_ct_mono (cm := cm) (ou := ou) hr i
    have e1 : jq_av cm ou r' i = max 0 (jq_wt cm ou r' i + cm i - min (jq_wt cm ou r' i + cm i) ou - r') := rfl
    have e2 : jq_av cm ou r i = max 0 (jq_wt cm ou r i + cm i - min (jq_wt cm ou r i + cm i) ou - r) := rfl
    refine ⟨by rw [jq_wt, jq_wt]; omega, ?_⟩
    rw [jq_ct, jq_ct]
    split <;> split <;> omega
theorem jq_sm_le {cm : Int → Int} (hc : ∀ i, 0 ≤ cm i ∧ cm i ≤ 1000000000000) : ∀ i : Nat, 0 ≤ jq_sm cm i ∧ jq_sm cm i ≤ i * 1000000000000
  | 0 => by simp [jq_sm]
  | i + 1 => by
    have h1 := jq_sm_le hc i
    have h2 := hc i
    rw [jq_sm]
    omega
theorem jq_ct_all {cm : Int → Int} {ou al : Int} (hc : ∀ i, 0 ≤ cm i ∧ cm i ≤ 1000000000000) (ho : 0 ≤ ou) : ∀ i : Nat, jq_sm cm i ≤ al → (0 ≤ jq_wt cm ou al i ∧ jq_wt cm ou al i ≤ jq_sm cm i) ∧ jq_ct cm ou al i = 0
  | 0, _ => by simp [jq_wt, jq_sm, jq_ct]
  | i + 1, h => by
    have h2 := hc i
    rw [jq_sm] at h
    obtain ⟨h3, h4⟩ := jq_ct_all hc ho i (al := al) (by omega)
    have e1 : jq_av cm ou al i = max 0 (jq_wt cm ou al i + cm i - min (jq_wt cm ou al i + cm i) ou - al) := rfl
    refine ⟨by rw [jq_wt, jq_sm]; omega, ?_⟩
    rw [jq_ct, if_neg (by omega), h4]
def jw_D (h : List jv_E) (n : Nat) (cm he go ab so : Int → Int) (al hr : Int) : Prop := h[89]? = some (jv_ob 1 [.ref 90, .ref 91, .ref 92, .ref 93, .ref 94, .int (jv_i n), .long (jv_l al), .int (jv_i hr)]) ∧ h[90]? = some (jv_al 400 cm) ∧ h[91]? = some (jv_al 400 he) ∧ h[92]? = some (jv_al 400 go) ∧ h[93]? = some (jv_al 400 ab) ∧ h[94]? = some (jv_al 400 so)
def jq_D (n : Nat) (cm : Int → Int) (al : Int) : Prop := n ≤ 400 ∧ (∀ i, 0 ≤ cm i ∧ cm i ≤ 1000000000000) ∧ al = jq_sm cm n
def jq_run (n : Nat) (cm : Int → Int) (ou ro : Int) (he go ab so : Int → Int) : Prop := ∀ j : Nat, j < n → he j = jq_wt cm ou ro (j + 1) ∧ go j = jq_gn cm ou ro j ∧ ab j = jq_av cm ou ro j ∧ so j = jq_so cm ou ro (j + 1)
theorem jq_run_s {i : Nat} {cm he go ab so : Int → Int} {ou ro : Int} (h : jq_run i cm ou ro he go ab so) : jq_run (i + 1) cm ou ro (jv_up he i (jq_wt cm ou ro (i + 1))) (jv_up go i (jq_gn cm ou ro i)) (jv_up ab i (jq_av cm ou ro i)) (jv_up so i (jq_so cm ou ro (i + 1))) := fun j hj => by
  by_cases e : j = i
  · subst e
    simp [jv_up]
  · have e2 : (j : Int) ≠ i := by omega
    obtain ⟨h1, h2, h3, h4⟩ := h j (by omega)
    simp [jv_up, e2, h1, h2, h3, h4]
def jq_rc (n : Nat) (hr : Int) (he go ab so : Int → Int) (dy wh : Int) : Int := if hr = 0 ∨ ¬ (0 ≤ dy ∧ dy < n) then -1 else if wh = 0 then he dy else if wh = 1 then go dy else if wh = 2 then ab dy else if wh = 3 then so dy else -1
section DY
variable {h : List jv_E} {n : Nat} {cm he go ab so : Int → Int} {al hr : Int} {post : Option Value → List jv_E → Prop}
theorem ct_X1_size (K : Nat) (w : jw_D h n cm he go ab so al hr) (hp : post (some (.int (jv_i n))) h) : jv_Ct yX1_size cX1_size 1 (some .int) K [.ref 89] h post := by
  obtain ⟨w1, w2, w3, w4, w5, w6⟩ := w
  refine jv_entry (own := RX1) (by decide) rfl (Nat.le_of_ble_eq_true rfl) (fun X hq => ?_)
  refine jv_aload_n dX1_size_0 rfl ?_
  refine jv_getf dX1_size_1 jf_X1_27 (by repeat' (first | assumption | exact ⟨_, by assumption⟩ | refine jv_h1 (by omega) ?_ | refine jv_h0 ?_ | refine jv_hs ?_)) (by exact rfl) ?_
  exact jv_iret dX1_size_4 hq (hp) (by first | rfl | decide)
theorem ct_X1_add {wt : Int} (K : Nat) (w : jw_D h n cm he go ab so al hr) (hD : jq_D n cm al) (hp1 : n < 400 → ∀ h', jw_D h' (n + 1) (jv_up cm n wt) he go ab so (al + wt) 0 → jv_fr 89 94 h h' → post (some (.int (jv_i (n + 1)))) h') (hp2 : ¬ n < 400 → post (some (.int (jv_i (-1)))) h) : jv_Ct yX1_add cX1_add 3 (some .int) K [.ref 89, .long (jv_l wt)] h post := by
  obtain ⟨w1, w2, w3, w4, w5, w6⟩ := w
  have hn := hD.1
  refine jv_entry (own := RX1) (by decide) rfl (Nat.le_of_ble_eq_true rfl) (fun X hq => ?_)
  refine jv_aload_n dX1_add_0 rfl ?_
  refine jv_getf dX1_add_1 jf_X1_27 (by repeat' (first | assumption | exact ⟨_, by assumption⟩ | refine jv_h1 (by omega) ?_ | refine jv_h0 ?_ | refine jv_hs ?_)) (by exact rfl) ?_
  refine jv_sipush dX1_add_4 ?_
  refine jv_icmp_lt 12 dX1_add_7 (fun c7 => ?_) (fun c7 => ?_)
  · refine jv_aload_n dX1_add_12 rfl ?_
    refine jv_getf dX1_add_13 jf_X1_9 (by repeat' (first | assumption | exact ⟨_, by assumption⟩ | refine jv_h1 (by omega) ?_ | refine jv_h0 ?_ | refine jv_hs ?_)) (by exact rfl) ?_
    refine jv_aload_n dX1_add_16 rfl ?_
    refine jv_getf dX1_add_17 jf_X1_27 (by repeat' (first | assumption | exact ⟨_, by assumption⟩ | refine jv_h1 (by omega) ?_ | refine jv_h0 ?_ | refine jv_hs ?_)) (by exact rfl) ?_
    refine jv_lload_n dX1_add_20 rfl ?_
    refine jv_last dX1_add_21 (by repeat' (first | assumption | exact ⟨_, by assumption⟩ | refine jv_h1 (by omega) ?_ | refine jv_h0 ?_ | refine jv_hs ?_)) ?_
    refine jv_aload_n dX1_add_22 rfl ?_
    refine jv_dup dX1_add_23 rfl ?_
    refine jv_getf dX1_add_24 jf_X1_31 (by repeat' (first | assumption | exact ⟨_, by assumption⟩ | refine jv_h1 (by omega) ?_ | refine jv_h0 ?_ | refine jv_hs ?_)) (by exact rfl) ?_
    refine jv_lload_n dX1_add_27 rfl ?_
    refine jv_ladd dX1_add_28 ?_
    refine jv_putf dX1_add_29 jp_X1_31 (by repeat' (first | assumption | exact ⟨_, by assumption⟩ | refine jv_h1 (by omega) ?_ | refine jv_h0 ?_ | refine jv_hs ?_)) (by exact Nat.le_of_ble_eq_true rfl) ?_
    refine jv_aload_n dX1_add_32 rfl ?_
    refine jv_dup dX1_add_33 rfl ?_
    refine jv_getf dX1_add_34 jf_X1_27 (by repeat' (first | assumption | exact ⟨_, by assumption⟩ | refine jv_h1 (by omega) ?_ | refine jv_h0 ?_ | refine jv_hs ?_)) (by exact rfl) ?_
    refine jv_iconst dX1_add_37 ?_
    refine jv_iadd dX1_add_38 ?_
    refine jv_putf dX1_add_39 jp_X1_27 (by repeat' (first | assumption | exact ⟨_, by assumption⟩ | refine jv_h1 (by omega) ?_ | refine jv_h0 ?_ | refine jv_hs ?_)) (by exact Nat.le_of_ble_eq_true rfl) ?_
    refine jv_aload_n dX1_add_42 rfl ?_
    refine jv_iconst dX1_add_43 ?_
    refine jv_putf dX1_add_44 jp_X1_35 (by repeat' (first | assumption | exact ⟨_, by assumption⟩ | refine jv_h1 (by omega) ?_ | refine jv_h0 ?_ | refine jv_hs ?_)) (by exact Nat.le_of_ble_eq_true rfl) ?_ (jv_bn (by omega)) (jv_bf (by omega))
    refine jv_aload_n dX1_add_47 rfl ?_
    refine jv_getf dX1_add_48 jf_X1_27 (by repeat' (first | assumption | exact ⟨_, by assumption⟩ | refine jv_h1 (by omega) ?_ | refine jv_h0 ?_ | refine jv_hs ?_)) (by exact rfl) ?_
    exact jv_iret dX1_add_51 hq (hp1 (by omega) _ ⟨(by repeat' (first | assumption | exact ⟨_, by assumption⟩ | refine jv_h1 (by omega) ?_ | refine jv_h0 ?_ | refine jv_hs ?_)), (by repeat' (first | assumption | exact ⟨_, by assumption⟩ | refine jv_h1 (by omega) ?_ | refine jv_h0 ?_ | refine jv_hs ?_)), (by repeat' (first | assumption | exact ⟨_, by assumption⟩ | refine jv_h1 (by omega) ?_ | refine jv_h0 ?_ | refine jv_hs ?_)), (by repeat' (first | assumption | exact ⟨_, by assumption⟩ | refine jv_h1 (by omega) ?_ | refine jv_h0 ?_ | refine jv_hs ?_)), (by repeat' (first | assumption | exact ⟨_, by assumption⟩ | refine jv_h1 (by omega) ?_ | refine jv_h0 ?_ | refine jv_hs ?_)), (by repeat' (first | assumption | exact ⟨_, by assumption⟩ | refine jv_h1 (by omega) ?_ | refine jv_h0 ?_ | refine jv_hs ?_))⟩ (jv_fr_set (by omega) (jv_fr_set (by omega) (jv_fr_set (by omega) (jv_fr_set (by omega) jv_fr_rf))))) (by first | rfl | decide)
  · refine jv_iconst dX1_add_10 ?_
    exact jv_iret dX1_add_11 hq (hp2 (by omega))
theorem ct_X1_goThrough {ou ro : Int} (K : Nat) (w : jw_D h n cm he go ab so al hr) (hD : jq_D n cm al) (ho : 0 ≤ ou ∧ ou ≤ 1000000000000000) (hr0 : 0 ≤ ro ∧ ro ≤ 1000000000000000) (hp : ∀ h' he' go' ab' so', jw_D h' n cm he' go' ab' so' al hr → jq_run n cm ou ro he' go' ab' so' → jv_fr 89 94 h h' → post (some (.int (jv_i (jq_ct cm ou ro n)))) h') : jv_Ct yX1_goThrough cX1_goThrough 11 (some .int) (K + 1) [.ref 89, .long (jv_l ou), .long (jv_l ro)] h post := by
  have hn := hD.1
  refine jv_entry (own := RX1) (by decide) rfl (Nat.le_of_ble_eq_true rfl) (fun X hq => ?_)
  have loop : ∀ (k i : Nat) (h1 : List jv_E) (he go ab so : Int → Int), i + k = n → jw_D h1 n cm he go ab so al hr → jq_run i cm ou ro he go ab so → jv_fr 89 94 h h1 → jv_J X cX1_goThrough RX1 (K + 1) 12 [some (.ref 89), some (.long (jv_l ou)), none, some (.long (jv_l ro)), none, some (.long (jv_l (jq_wt cm ou ro i))), none, some (.long (jv_l (jq_so cm ou ro i))), none, some (.int (jv_i (jq_ct cm ou ro i))), some (.int (jv_i i))] [] h1 := by
    intro k
    induction k with
    | zero =>
      intro i h1 he go ab so e w f fr
      have w9 := w
      obtain ⟨w1, w2, w3, w4, w5, w6⟩ := w
      have e2 : i = n := by omega
      subst e2
      refine jv_iload dX1_goThrough_12 rfl ?_
      refine jv_aload_n dX1_goThrough_14 rfl ?_
      refine jv_getf dX1_goThrough_15 jf_X1_27 (by repeat' (first | assumption | exact ⟨_, by assumption⟩ | refine jv_h1 (by omega) ?_ | refine jv_h0 ?_ | refine jv_hs ?_)) (by exact rfl) ?_
      refine jv_icmp_ge 136 dX1_goThrough_18 (fun c18 => ?_) (fun c18 => ?_)
      · refine jv_iload dX1_goThrough_136 rfl ?_
        exact jv_iret dX1_goThrough_138 hq (hp h1 he go ab so w9 f fr) (by first | rfl | decide)
      · exact absurd c18 (by omega)
    | succ k ih =>
      intro i h1 he go ab so e w f fr
      obtain ⟨w1, w2, w3, w4, w5, w6⟩ := w
      have b1 := jq_wt_in hD.2.1 ho.1 hr0.1 i
      have b2 := hD.2.1 i
      have b3 := jq_ct_in cm ou ro i
      have e5 : jq_gn cm ou ro i = min (jq_wt cm ou ro i + cm i) ou := rfl
      have e6 : jq_av cm ou ro i = max 0 (jq_wt cm ou ro i + cm i - min (jq_wt cm ou ro i + cm i) ou - ro) := rfl
      have e2 : jq_so cm ou ro (i + 1) = jq_so cm ou ro i + jq_av cm ou ro i := rfl
      have f2 := jq_run_s f
      refine jv_iload dX1_goThrough_12 rfl ?_
      refine jv_aload_n dX1_goThrough_14 rfl ?_
      refine jv_getf dX1_goThrough_15 jf_X1_27 (by repeat' (first | assumption | exact ⟨_, by assumption⟩ | refine jv_h1 (by omega) ?_ | refine jv_h0 ?_ | refine jv_hs ?_)) (by exact rfl) ?_
      refine jv_icmp_ge 136 dX1_goThrough_18 (fun c18 => ?_) (fun c18 => ?_)
      · exact absurd c18 (by omega)
      · refine jv_lload dX1_goThrough_21 rfl ?_
        refine jv_aload_n dX1_goThrough_23 rfl ?_
        refine jv_getf dX1_goThrough_24 jf_X1_9 (by repeat' (first | assumption | exact ⟨_, by assumption⟩ | refine jv_h1 (by omega) ?_ | refine jv_h0 ?_ | refine jv_hs ?_)) (by exact rfl) ?_
        refine jv_iload dX1_goThrough_27 rfl ?_
        refine jv_lald dX1_goThrough_29 (by repeat' (first | assumption | exact ⟨_, by assumption⟩ | refine jv_h1 (by omega) ?_ | refine jv_h0 ?_ | refine jv_hs ?_)) ?_
        refine jv_ladd dX1_goThrough_30 ?_
        refine jv_lstore dX1_goThrough_31 rfl (Nat.le_of_ble_eq_true rfl) ?_
        refine jv_aload_n dX1_goThrough_33 rfl ?_
        refine jv_getf dX1_goThrough_34 jf_X1_18 (by repeat' (first | assumption | exact ⟨_, by assumption⟩ | refine jv_h1 (by omega) ?_ | refine jv_h0 ?_ | refine jv_hs ?_)) (by exact rfl) ?_
        refine jv_iload dX1_goThrough_37 rfl ?_
        refine jv_lload dX1_goThrough_39 rfl ?_
        refine jv_lload_n dX1_goThrough_41 rfl ?_
        refine jv_cS dX1_goThrough_42 jm_X1_43 (ct_J9_min K (fun r q => ?_))
        obtain rfl : r = jq_gn cm ou ro i := by omega
        refine jv_last dX1_goThrough_45 (by repeat' (first | assumption | exact ⟨_, by assumption⟩ | refine jv_h1 (by omega) ?_ | refine jv_h0 ?_ | refine jv_hs ?_)) ?_
        refine jv_lload dX1_goThrough_46 rfl ?_
        refine jv_aload_n dX1_goThrough_48 rfl ?_
        refine jv_getf dX1_goThrough_49 jf_X1_18 (by repeat' (first | assumption | exact ⟨_, by assumption⟩ | refine jv_h1 (by omega) ?_ | refine jv_h0 ?_ | refine jv_hs ?_)) (by exact rfl) ?_
        refine jv_iload dX1_goThrough_52 rfl ?_
        refine jv_lald dX1_goThrough_54 (by repeat' (first | assumption | exact ⟨_, by assumption⟩ | refine jv_h1 (by omega) ?_ | refine jv_h0 ?_ | refine jv_hs ?_)) ?_
        rw [jv_up_s]
        refine jv_lsub dX1_goThrough_55 ?_
        refine jv_lstore dX1_goThrough_56 rfl (Nat.le_of_ble_eq_true rfl) ?_
        refine jv_aload_n dX1_goThrough_58 rfl ?_
        refine jv_getf dX1_goThrough_59 jf_X1_21 (by repeat' (first | assumption | exact ⟨_, by assumption⟩ | refine jv_h1 (by omega) ?_ | refine jv_h0 ?_ | refine jv_hs ?_)) (by exact rfl) ?_
        refine jv_iload dX1_goThrough_62 rfl ?_
        refine jv_lconst 0 dX1_goThrough_64 ?_
        refine jv_lload dX1_goThrough_65 rfl ?_
        refine jv_lload_n dX1_goThrough_67 rfl ?_
        refine jv_lsub dX1_goThrough_68 ?_
        refine jv_cS dX1_goThrough_69 jm_X1_49 (ct_J9_max K (fun r q => ?_))
        obtain rfl : r = jq_av cm ou ro i := by omega
        refine jv_last dX1_goThrough_72 (by repeat' (first | assumption | exact ⟨_, by assumption⟩ | refine jv_h1 (by omega) ?_ | refine jv_h0 ?_ | refine jv_hs ?_)) ?_
        refine jv_lload dX1_goThrough_73 rfl ?_
        refine jv_aload_n dX1_goThrough_75 rfl ?_
        refine jv_getf dX1_goThrough_76 jf_X1_21 (by repeat' (first | assumption | exact ⟨_, by assumption⟩ | refine jv_h1 (by omega) ?_ | refine jv_h0 ?_ | refine jv_hs ?_)) (by exact rfl) ?_
        refine jv_iload dX1_goThrough_79 rfl ?_
        refine jv_lald dX1_goThrough_81 (by repeat' (first | assumption | exact ⟨_, by assumption⟩ | refine jv_h1 (by omega) ?_ | refine jv_h0 ?_ | refine jv_hs ?_)) ?_
        rw [jv_up_s]
        refine jv_lsub dX1_goThrough_82 ?_
        refine jv_lstore dX1_goThrough_83 rfl (Nat.le_of_ble_eq_true rfl) ?_
        rw [← jq_wt_s]
        refine jv_aload_n dX1_goThrough_85 rfl ?_
        refine jv_getf dX1_goThrough_86 jf_X1_15 (by repeat' (first | assumption | exact ⟨_, by assumption⟩ | refine jv_h1 (by omega) ?_ | refine jv_h0 ?_ | refine jv_hs ?_)) (by exact rfl) ?_
        refine jv_iload dX1_goThrough_89 rfl ?_
        refine jv_lload dX1_goThrough_91 rfl ?_
        refine jv_last dX1_goThrough_93 (by repeat' (first | assumption | exact ⟨_, by assumption⟩ | refine jv_h1 (by omega) ?_ | refine jv_h0 ?_ | refine jv_hs ?_)) ?_
        refine jv_lload dX1_goThrough_94 rfl ?_
        refine jv_aload_n dX1_goThrough_96 rfl ?_
        refine jv_getf dX1_goThrough_97 jf_X1_21 (by repeat' (first | assumption | exact ⟨_, by assumption⟩ | refine jv_h1 (by omega) ?_ | refine jv_h0 ?_ | refine jv_hs ?_)) (by exact rfl) ?_
        refine jv_iload dX1_goThrough_100 rfl ?_
        refine jv_lald dX1_goThrough_102 (by repeat' (first | assumption | exact ⟨_, by assumption⟩ | refine jv_h1 (by omega) ?_ | refine jv_h0 ?_ | refine jv_hs ?_)) ?_
        rw [jv_up_s]
        refine jv_ladd dX1_goThrough_103 ?_
        refine jv_lstore dX1_goThrough_104 rfl (Nat.le_of_ble_eq_true rfl) ?_
        rw [← e2]
        refine jv_aload_n dX1_goThrough_106 rfl ?_
        refine jv_getf dX1_goThrough_107 jf_X1_24 (by repeat' (first | assumption | exact ⟨_, by assumption⟩ | refine jv_h1 (by omega) ?_ | refine jv_h0 ?_ | refine jv_hs ?_)) (by exact rfl) ?_
        refine jv_iload dX1_goThrough_110 rfl ?_
        refine jv_lload dX1_goThrough_112 rfl ?_
        refine jv_last dX1_goThrough_114 (by repeat' (first | assumption | exact ⟨_, by assumption⟩ | refine jv_h1 (by omega) ?_ | refine jv_h0 ?_ | refine jv_hs ?_)) ?_
        refine jv_aload_n dX1_goThrough_115 rfl ?_
        refine jv_getf dX1_goThrough_116 jf_X1_21 (by repeat' (first | assumption | exact ⟨_, by assumption⟩ | refine jv_h1 (by omega) ?_ | refine jv_h0 ?_ | refine jv_hs ?_)) (by exact rfl) ?_
        refine jv_iload dX1_goThrough_119 rfl ?_
        refine jv_lald dX1_goThrough_121 (by repeat' (first | assumption | exact ⟨_, by assumption⟩ | refine jv_h1 (by omega) ?_ | refine jv_h0 ?_ | refine jv_hs ?_)) ?_
        rw [jv_up_s]
        refine jv_lconst 0 dX1_goThrough_122 ?_
        refine jv_lcmp_le 130 dX1_goThrough_123 dX1_goThrough_124 (fun c123 => ?_) (fun c123 => ?_)
        · refine jv_iinc dX1_goThrough_130 rfl rfl ?_
          refine jv_goto 12 dX1_goThrough_133 ?_
          have e3 : jq_ct cm ou ro (i + 1) = jq_ct cm ou ro i := by rw [jq_ct, if_neg (by omega)]
          have nx := fun h1 w fr => ih (i + 1) h1 _ _ _ _ (by omega) w f2 fr
          rw [e3] at nx
          exact nx _ ⟨(by repeat' (first | assumption | exact ⟨_, by assumption⟩ | refine jv_h1 (by omega) ?_ | refine jv_h0 ?_ | refine jv_hs ?_)), (by repeat' (first | assumption | exact ⟨_, by assumption⟩ | refine jv_h1 (by omega) ?_ | refine jv_h0 ?_ | refine jv_hs ?_)), (by repeat' (first | assumption | exact ⟨_, by assumption⟩ | refine jv_h1 (by omega) ?_ | refine jv_h0 ?_ | refine jv_hs ?_)), (by repeat' (first | assumption | exact ⟨_, by assumption⟩ | refine jv_h1 (by omega) ?_ | refine jv_h0 ?_ | refine jv_hs ?_)), (by repeat' (first | assumption | exact ⟨_, by assumption⟩ | refine jv_h1 (by omega) ?_ | refine jv_h0 ?_ | refine jv_hs ?_)), (by repeat' (first | assumption | exact ⟨_, by assumption⟩ | refine jv_h1 (by omega) ?_ | refine jv_h0 ?_ | refine jv_hs ?_))⟩ (jv_fr_set (by omega) (jv_fr_set (by omega) (jv_fr_set (by omega) (jv_fr_set (by omega) fr))))
        · refine jv_iinc dX1_goThrough_127 rfl rfl ?_
          refine jv_iinc dX1_goThrough_130 rfl rfl ?_
          refine jv_goto 12 dX1_goThrough_133 ?_
          have e3 : jq_ct cm ou ro (i + 1) = jq_ct cm ou ro i + 1 := by rw [jq_ct, if_pos c123]
          have nx := fun h1 w fr => ih (i + 1) h1 _ _ _ _ (by omega) w f2 fr
          rw [e3] at nx
          exact nx _ ⟨(by repeat' (first | assumption | exact ⟨_, by assumption⟩ | refine jv_h1 (by omega) ?_ | refine jv_h0 ?_ | refine jv_hs ?_)), (by repeat' (first | assumption | exact ⟨_, by assumption⟩ | refine jv_h1 (by omega) ?_ | refine jv_h0 ?_ | refine jv_hs ?_)), (by repeat' (first | assumption | exact ⟨_, by assumption⟩ | refine jv_h1 (by omega) ?_ | refine jv_h0 ?_ | refine jv_hs ?_)), (by repeat' (first | assumption | exact ⟨_, by assumption⟩ | refine jv_h1 (by omega) ?_ | refine jv_h0 ?_ | refine jv_hs ?_)), (by repeat' (first | assumption | exact ⟨_, by assumption⟩ | refine jv_h1 (by omega) ?_ | refine jv_h0 ?_ | refine jv_hs ?_)), (by repeat' (first | assumption | exact ⟨_, by assumption⟩ | refine jv_h1 (by omega) ?_ | refine jv_h0 ?_ | refine jv_hs ?_))⟩ (jv_fr_set (by omega) (jv_fr_set (by omega) (jv_fr_set (by omega) (jv_fr_set (by omega) fr))))
  refine jv_lconst 0 dX1_goThrough_0 ?_
  refine jv_lstore dX1_goThrough_1 rfl (Nat.le_of_ble_eq_true rfl) ?_
  refine jv_lconst 0 dX1_goThrough_3 ?_
  refine jv_lstore dX1_goThrough_4 rfl (Nat.le_of_ble_eq_true rfl) ?_
  refine jv_iconst dX1_goThrough_6 ?_
  refine jv_istore dX1_goThrough_7 rfl (Nat.le_of_ble_eq_true rfl) ?_
  refine jv_iconst dX1_goThrough_9 ?_
  refine jv_istore dX1_goThrough_10 rfl (Nat.le_of_ble_eq_true rfl) ?_
  exact loop n 0 h he go ab so (by omega) w (fun j hj => by omega) jv_fr_rf
theorem jv_fr_tr {lo hi : Nat} {a b c : List jv_E} (h1 : jv_fr lo hi a b) (h2 : jv_fr lo hi b c) : jv_fr lo hi a c := fun i q => (h2 i q).trans (h1 i q)
theorem ct_X1_keepRun {ou ro : Int} (K : Nat) (w : jw_D h n cm he go ab so al hr) (hD : jq_D n cm al) (ho : 0 ≤ ou ∧ ou ≤ 1000000000000000) (hr0 : 0 ≤ ro ∧ ro ≤ 1000000000000000) (hp : ∀ h' he' go' ab' so', jw_D h' n cm he' go' ab' so' al 1 → jq_run n cm ou ro he' go' ab' so' → jv_fr 89 94 h h' → post (some (.int (jv_i (jq_ct cm ou ro n)))) h') : jv_Ct yX1_keepRun cX1_keepRun 5 (some .int) (K + 2) [.ref 89, .long (jv_l ou), .long (jv_l ro)] h post := by
  obtain ⟨w1, w2, w3, w4, w5, w6⟩ := w
  refine jv_entry (own := RX1) (by decide) rfl (Nat.le_of_ble_eq_true rfl) (fun X hq => ?_)
  refine jv_aload_n dX1_keepRun_0 rfl ?_
  refine jv_iconst dX1_keepRun_1 ?_
  refine jv_putf dX1_keepRun_2 jp_X1_35 (by repeat' (first | assumption | exact ⟨_, by assumption⟩ | refine jv_h1 (by omega) ?_ | refine jv_h0 ?_ | refine jv_hs ?_)) (by exact Nat.le_of_ble_eq_true rfl) ?_ (jv_bn (by omega)) (jv_bf (by omega))
  refine jv_aload_n dX1_keepRun_5 rfl ?_
  refine jv_lload_n dX1_keepRun_6 rfl ?_
  refine jv_lload_n dX1_keepRun_7 rfl ?_
  refine jv_cV dX1_keepRun_8 jm_X1_39 rfl (by repeat' (first | assumption | exact ⟨_, by assumption⟩ | refine jv_h1 (by omega) ?_ | refine jv_h0 ?_ | refine jv_hs ?_)) rfl (ct_X1_goThrough (hr := 1) K ⟨(by repeat' (first | assumption | exact ⟨_, by assumption⟩ | refine jv_h1 (by omega) ?_ | refine jv_h0 ?_ | refine jv_hs ?_)), (by repeat' (first | assumption | exact ⟨_, by assumption⟩ | refine jv_h1 (by omega) ?_ | refine jv_h0 ?_ | refine jv_hs ?_)), (by repeat' (first | assumption | exact ⟨_, by assumption⟩ | refine jv_h1 (by omega) ?_ | refine jv_h0 ?_ | refine jv_hs ?_)), (by repeat' (first | assumption | exact ⟨_, by assumption⟩ | refine jv_h1 (by omega) ?_ | refine jv_h0 ?_ | refine jv_hs ?_)), (by repeat' (first | assumption | exact ⟨_, by assumption⟩ | refine jv_h1 (by omega) ?_ | refine jv_h0 ?_ | refine jv_hs ?_)), (by repeat' (first | assumption | exact ⟨_, by assumption⟩ | refine jv_h1 (by omega) ?_ | refine jv_h0 ?_ | refine jv_hs ?_))⟩ hD ho hr0 (fun h' he' go' ab' so' w' f' fr' => ?_))
  exact jv_iret dX1_keepRun_11 hq (hp h' he' go' ab' so' w' f' (jv_fr_tr (jv_fr_set (by omega) jv_fr_rf) fr')) (by first | rfl | decide)
theorem ct_X1_recall {dy wh : Int} (K : Nat) (w : jw_D h n cm he go ab so al hr) (hD : jq_D n cm al) (hr1 : 0 ≤ hr ∧ hr ≤ 1) (hd : jq_rg dy) (hw : jq_rg wh) (hp : post (some (.long (jv_l (jq_rc n hr he go ab so dy wh)))) h) : jv_Ct yX1_recall cX1_recall 3 (some .long) (K + 1) [.ref 89, .int (jv_i dy), .int (jv_i wh)] h post := by
  obtain ⟨w1, w2, w3, w4, w5, w6⟩ := w
  have hn := hD.1
  unfold jq_rg at hd hw
  unfold jq_rc at hp
  refine jv_entry (own := RX1) (by decide) rfl (Nat.le_of_ble_eq_true rfl) (fun X hq => ?_)
  refine jv_aload_n dX1_recall_0 rfl ?_
  refine jv_getf dX1_recall_1 jf_X1_35 (by repeat' (first | assumption | exact ⟨_, by assumption⟩ | refine jv_h1 (by omega) ?_ | refine jv_h0 ?_ | refine jv_hs ?_)) (by exact rfl) ?_
  refine jv_if_eq 23 dX1_recall_4 (fun c4 => ?_) (fun c4 => ?_)
  · refine jv_ldc2 dX1_recall_23 jk_X1_56 ?_
    exact jv_lret dX1_recall_26 hq (by rw [if_pos (by omega)] at hp; exact hp)
  · refine jv_iload_n dX1_recall_7 rfl ?_
    refine jv_i2l dX1_recall_8 ?_
    refine jv_lconst 0 dX1_recall_9 ?_
    refine jv_aload_n dX1_recall_10 rfl ?_
    refine jv_getf dX1_recall_11 jf_X1_27 (by repeat' (first | assumption | exact ⟨_, by assumption⟩ | refine jv_h1 (by omega) ?_ | refine jv_h0 ?_ | refine jv_hs ?_)) (by exact rfl) ?_
    refine jv_iconst dX1_recall_14 ?_
    refine jv_isub dX1_recall_15 ?_
    refine jv_i2l dX1_recall_16 ?_
    refine jv_cN dX1_recall_17 jm_X1_52 (ct_X7_within K (fun r1 q11 q12 q13 => ?_))
    refine jv_if_ne 27 dX1_recall_20 (fun c20 => ?_) (fun c20 => ?_)
    · refine jv_iload_n dX1_recall_27 rfl ?_
      rw [if_neg (by omega)] at hp
      by_cases e0 : wh = 0
      · subst e0
        refine jv_tabIn 60 dX1_recall_28 (by decide) (by decide) rfl ?_
        refine jv_aload_n dX1_recall_60 rfl ?_
        refine jv_getf dX1_recall_61 jf_X1_15 (by repeat' (first | assumption | exact ⟨_, by assumption⟩ | refine jv_h1 (by omega) ?_ | refine jv_h0 ?_ | refine jv_hs ?_)) (by exact rfl) ?_
        refine jv_iload_n dX1_recall_64 rfl ?_
        refine jv_lald dX1_recall_65 (by repeat' (first | assumption | exact ⟨_, by assumption⟩ | refine jv_h1 (by omega) ?_ | refine jv_h0 ?_ | refine jv_hs ?_)) ?_
        exact jv_lret dX1_recall_66 hq hp
      rw [if_neg e0] at hp
      by_cases e1 : wh = 1
      · subst e1
        refine jv_tabIn 67 dX1_recall_28 (by decide) (by decide) rfl ?_
        refine jv_aload_n dX1_recall_67 rfl ?_
        refine jv_getf dX1_recall_68 jf_X1_18 (by repeat' (first | assumption | exact ⟨_, by assumption⟩ | refine jv_h1 (by omega) ?_ | refine jv_h0 ?_ | refine jv_hs ?_)) (by exact rfl) ?_
        refine jv_iload_n dX1_recall_71 rfl ?_
        refine jv_lald dX1_recall_72 (by repeat' (first | assumption | exact ⟨_, by assumption⟩ | refine jv_h1 (by omega) ?_ | refine jv_h0 ?_ | refine jv_hs ?_)) ?_
        exact jv_lret dX1_recall_73 hq hp
      rw [if_neg e1] at hp
      by_cases e2 : wh = 2
      · subst e2
        refine jv_tabIn 74 dX1_recall_28 (by decide) (by decide) rfl ?_
        refine jv_aload_n dX1_recall_74 rfl ?_
        refine jv_getf dX1_recall_75 jf_X1_21 (by repeat' (first | assumption | exact ⟨_, by assumption⟩ | refine jv_h1 (by omega) ?_ | refine jv_h0 ?_ | refine jv_hs ?_)) (by exact rfl) ?_
        refine jv_iload_n dX1_recall_78 rfl ?_
        refine jv_lald dX1_recall_79 (by repeat' (first | assumption | exact ⟨_, by assumption⟩ | refine jv_h1 (by omega) ?_ | refine jv_h0 ?_ | refine jv_hs ?_)) ?_
        exact jv_lret dX1_recall_80 hq hp
      rw [if_neg e2] at hp
      by_cases e3 : wh = 3
      · subst e3
        refine jv_tabIn 81 dX1_recall_28 (by decide) (by decide) rfl ?_
        refine jv_aload_n dX1_recall_81 rfl ?_
        refine jv_getf dX1_recall_82 jf_X1_24 (by repeat' (first | assumption | exact ⟨_, by assumption⟩ | refine jv_h1 (by omega) ?_ | refine jv_h0 ?_ | refine jv_hs ?_)) (by exact rfl) ?_
        refine jv_iload_n dX1_recall_85 rfl ?_
        refine jv_lald dX1_recall_86 (by repeat' (first | assumption | exact ⟨_, by assumption⟩ | refine jv_h1 (by omega) ?_ | refine jv_h0 ?_ | refine jv_hs ?_)) ?_
        exact jv_lret dX1_recall_87 hq hp
      rw [if_neg e3] at hp
      refine jv_tabOut 88 dX1_recall_28 (by omega) ?_
      refine jv_ldc2 dX1_recall_88 jk_X1_56 ?_
      exact jv_lret dX1_recall_91 hq hp
    · refine jv_ldc2 dX1_recall_23 jk_X1_56 ?_
      exact jv_lret dX1_recall_26 hq (by rw [if_pos (by omega)] at hp; exact hp)
theorem ct_X1_leastRoom {ou mo : Int} (K : Nat) (w : jw_D h n cm he go ab so al hr) (hD : jq_D n cm al) (ho : 0 ≤ ou ∧ ou ≤ 1000000000000000) (hm : 0 ≤ mo ∧ mo ≤ 400) (hp : ∀ r h' he' go' ab' so', jw_D h' n cm he' go' ab' so' al 0 → (0 ≤ r ∧ jq_ct cm ou r n ≤ mo ∧ ∀ r', 0 ≤ r' → r' < r → mo < jq_ct cm ou r' n) → jv_fr 89 94 h h' → post (some (.long (jv_l r))) h') : jv_Ct yX1_leastRoom cX1_leastRoom 11 (some .long) (K + 2) [.ref 89, .long (jv_l ou), .int (jv_i mo)] h post := by
  have hn := hD.1
  have z1 := jq_sm_le hD.2.1 n
  rw [← hD.2.2] at z1
  refine jv_entry (own := RX1) (by decide) rfl (Nat.le_of_ble_eq_true rfl) (fun X hq => ?_)
  have loop : ∀ (k i : Nat) (a b : Int) (h1 : List jv_E) (he go ab so : Int → Int), i + k = 60 → jw_D h1 n cm he go ab so al 0 → jv_fr 89 94 h h1 → 0 ≤ a → a ≤ b → b ≤ al → b - a < 2 ^ k → jq_ct cm ou b n ≤ mo → (∀ r', 0 ≤ r' → r' < a → mo < jq_ct cm ou r' n) → jv_J X cX1_leastRoom RX1 (K + 2) 17 [some (.ref 89), some (.long (jv_l ou)), none, some (.int (jv_i mo)), some (.long (jv_l a)), none, some (.long (jv_l b)), none, some (.int (jv_i i)), none, none] [] h1 := by
    intro k
    induction k with
    | zero =>
      intro i a b h1 he go ab so e w fr p1 p2 p3 p4 p5 p6
      have p7 : b - a < 1 := by simpa using p4
      obtain rfl : a = b := by omega
      refine jv_iload dX1_leastRoom_17 rfl ?_
      refine jv_bipush dX1_leastRoom_19 ?_
      refine jv_icmp_ge 76 dX1_leastRoom_21 (fun c21 => ?_) (fun c21 => ?_)
      · refine jv_lload dX1_leastRoom_76 rfl ?_
        exact jv_lret dX1_leastRoom_78 hq (hp _ _ he go ab so w ⟨p1, p5, p6⟩ fr)
      · exact absurd c21 (by omega)
    | succ k ih =>
      intro i a b h1 he go ab so e w fr p1 p2 p3 p4 p5 p6
      have w9 := w
      obtain ⟨w1, w2, w3, w4, w5, w6⟩ := w
      have p7 : b - a < 2 * 2 ^ k := by rw [Int.pow_succ] at p4; omega
      generalize (2 : Int) ^ k = p at *
      refine jv_iload dX1_leastRoom_17 rfl ?_
      refine jv_bipush dX1_leastRoom_19 ?_
      refine jv_icmp_ge 76 dX1_leastRoom_21 (fun c21 => ?_) (fun c21 => ?_)
      · refine jv_lload dX1_leastRoom_76 rfl ?_
        exact absurd c21 (by omega)
      · refine jv_lload dX1_leastRoom_24 rfl ?_
        refine jv_lload dX1_leastRoom_26 rfl ?_
        refine jv_lcmp_ge 76 dX1_leastRoom_28 dX1_leastRoom_29 (fun c28 => ?_) (fun c28 => ?_)
        · refine jv_lload dX1_leastRoom_76 rfl ?_
          obtain rfl : a = b := by omega
          exact jv_lret dX1_leastRoom_78 hq (hp _ _ he go ab so w9 ⟨p1, p5, p6⟩ fr)
        · refine jv_lload dX1_leastRoom_32 rfl ?_
          refine jv_lload dX1_leastRoom_34 rfl ?_
          refine jv_lload dX1_leastRoom_36 rfl ?_
          refine jv_lsub dX1_leastRoom_38 ?_
          refine jv_ldc2 dX1_leastRoom_39 jk_X1_58 ?_
          refine jv_ldiv dX1_leastRoom_42 ?_
          refine jv_ladd dX1_leastRoom_43 ?_
          refine jv_lstore dX1_leastRoom_44 rfl (Nat.le_of_ble_eq_true rfl) ?_
          refine jv_aload_n dX1_leastRoom_46 rfl ?_
          refine jv_lload_n dX1_leastRoom_47 rfl ?_
          refine jv_lload dX1_leastRoom_48 rfl ?_
          have q0 := jq_ct_in cm ou (a + (b - a) / 2) n
          refine jv_cV dX1_leastRoom_50 jm_X1_39 rfl (by repeat' (first | assumption | exact ⟨_, by assumption⟩ | refine jv_h1 (by omega) ?_ | refine jv_h0 ?_ | refine jv_hs ?_)) rfl (ct_X1_goThrough K w9 hD ho (by omega) (fun h' he' go' ab' so' w' f' fr' => ?_))
          refine jv_iload_n dX1_leastRoom_53 rfl ?_
          refine jv_icmp_gt 64 dX1_leastRoom_54 (fun c54 => ?_) (fun c54 => ?_)
          · refine jv_lload dX1_leastRoom_64 rfl ?_
            refine jv_lconst 1 dX1_leastRoom_66 ?_
            refine jv_ladd dX1_leastRoom_67 ?_
            refine jv_lstore dX1_leastRoom_68 rfl (Nat.le_of_ble_eq_true rfl) ?_
            refine jv_iinc dX1_leastRoom_70 rfl rfl ?_
            refine jv_goto 17 dX1_leastRoom_73 ?_
            refine jv_les ?_ (ih (i + 1) (a + (b - a) / 2 + 1) b h' he' go' ab' so' (by omega) w' (jv_fr_tr fr fr') (by omega) (by omega) p3 (by omega) p5 (fun r' z1 z2 => by have := (jq_ct_mono (cm := cm) (ou := ou) (r := r') (r' := a + (b - a) / 2) (by omega) n).2; omega))
            exact (by repeat' (first | exact True.intro | exact rfl | apply And.intro))
          · refine jv_lload dX1_leastRoom_57 rfl ?_
            refine jv_lstore dX1_leastRoom_59 rfl (Nat.le_of_ble_eq_true rfl) ?_
            refine jv_goto 70 dX1_leastRoom_61 ?_
            refine jv_iinc dX1_leastRoom_70 rfl rfl ?_
            refine jv_goto 17 dX1_leastRoom_73 ?_
            refine jv_les ?_ (ih (i + 1) a (a + (b - a) / 2) h' he' go' ab' so' (by omega) w' (jv_fr_tr fr fr') p1 (by omega) (by omega) (by omega) c54 p6)
            exact (by repeat' (first | exact True.intro | exact rfl | apply And.intro))
  obtain ⟨w1, w2, w3, w4, w5, w6⟩ := w
  refine jv_aload_n dX1_leastRoom_0 rfl ?_
  refine jv_iconst dX1_leastRoom_1 ?_
  refine jv_putf dX1_leastRoom_2 jp_X1_35 (by repeat' (first | assumption | exact ⟨_, by assumption⟩ | refine jv_h1 (by omega) ?_ | refine jv_h0 ?_ | refine jv_hs ?_)) (by exact Nat.le_of_ble_eq_true rfl) ?_ (jv_bn (by omega)) (jv_bf (by omega))
  refine jv_lconst 0 dX1_leastRoom_5 ?_
  refine jv_lstore dX1_leastRoom_6 rfl (Nat.le_of_ble_eq_true rfl) ?_
  refine jv_aload_n dX1_leastRoom_8 rfl ?_
  refine jv_getf dX1_leastRoom_9 jf_X1_31 (by repeat' (first | assumption | exact ⟨_, by assumption⟩ | refine jv_h1 (by omega) ?_ | refine jv_h0 ?_ | refine jv_hs ?_)) (by exact rfl) ?_
  refine jv_lstore dX1_leastRoom_12 rfl (Nat.le_of_ble_eq_true rfl) ?_
  refine jv_iconst dX1_leastRoom_14 ?_
  refine jv_istore dX1_leastRoom_15 rfl (Nat.le_of_ble_eq_true rfl) ?_
  exact loop 60 0 0 al _ he go ab so (by omega) ⟨(by repeat' (first | assumption | exact ⟨_, by assumption⟩ | refine jv_h1 (by omega) ?_ | refine jv_h0 ?_ | refine jv_hs ?_)), (by repeat' (first | assumption | exact ⟨_, by assumption⟩ | refine jv_h1 (by omega) ?_ | refine jv_h0 ?_ | refine jv_hs ?_)), (by repeat' (first | assumption | exact ⟨_, by assumption⟩ | refine jv_h1 (by omega) ?_ | refine jv_h0 ?_ | refine jv_hs ?_)), (by repeat' (first | assumption | exact ⟨_, by assumption⟩ | refine jv_h1 (by omega) ?_ | refine jv_h0 ?_ | refine jv_hs ?_)), (by repeat' (first | assumption | exact ⟨_, by assumption⟩ | refine jv_h1 (by omega) ?_ | refine jv_h0 ?_ | refine jv_hs ?_)), (by repeat' (first | assumption | exact ⟨_, by assumption⟩ | refine jv_h1 (by omega) ?_ | refine jv_h0 ?_ | refine jv_hs ?_))⟩ (jv_fr_set (by omega) jv_fr_rf) (by omega) (by omega) (by omega) (by omega) (by rw [(jq_ct_all hD.2.1 ho.1 n (by rw [hD.2.2]; exact Int.le_refl _)).2]; omega) (fun r' z1 z2 => by omega)
end DY
