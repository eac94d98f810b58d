/-! RAINS, second part -/
theorem jq_cm_in {n : Nat} {ys ms ds : Int → Int} (hR : jq_R n ys ms ds) {ar : Int} (ha : 0 ≤ ar ∧ ar ≤ 1000000) (i : Int) : 0 ≤ jq_cm ds ar i ∧ jq_cm ds ar i ≤ 10000000000 := by
  have hm := jq_mul (hR.2 i).2.2 ha
  unfold jq_cm
  generalize ds i * ar = u at hm
  omega
theorem jq_nd_in {n : Nat} {ys ms ds : Int → Int} (hR : jq_R n ys ms ds) {ar ou : Int} (ha : 0 ≤ ar ∧ ar ≤ 1000000) (ho : 0 ≤ ou ∧ ou ≤ 100000) (i : Int) : -60000000000 ≤ jq_nd ms ds ar ou i ∧ jq_nd ms ds ar ou i ≤ 10000000000 := by
  have h1 := jq_cm_in hR ha i
  have h2 := jq_mul ho (show 0 ≤ 60 * ms i ∧ 60 * ms i ≤ 600000 by have := (hR.2 i).2.1; omega)
  unfold jq_nd
  omega
/-- the least outflow for one rain -/
def jq_lf (ms ds : Int → Int) (ar ro i : Int) : Int := if jq_cm ds ar i - ro ≤ 0 ∨ 60 * ms i ≤ 0 then 0 else (jq_cm ds ar i - ro + 60 * ms i - 1) / (60 * ms i)
theorem jq_lf_in {n : Nat} {ys ms ds : Int → Int} (hR : jq_R n ys ms ds) {ar ro : Int} (ha : 0 ≤ ar ∧ ar ≤ 1000000) (hr : 0 ≤ ro) (i : Int) : 0 ≤ jq_lf ms ds ar ro i ∧ jq_lf ms ds ar ro i ≤ 20000000000 := by
  have h1 := jq_cm_in hR ha i
  have h2 := (hR.2 i).2.1
  unfold jq_lf
  split
  · omega
  · have h3 : 0 ≤ jq_cm ds ar i - ro + 60 * ms i - 1 := by omega
    have h4 := Int.ediv_nonneg h3 (show 0 ≤ 60 * ms i by omega)
    have h5 := Int.ediv_le_self (60 * ms i) h3
    omega
def jq_lo (ys : Int → Int) (g : Int → Int) (y : Int) : Nat → Int
  | 0 => -1
  | k + 1 => if ys k = y then max (jq_lo ys g y k) (g k) else jq_lo ys g y k
theorem jq_lo_in {ys g : Int → Int} {y : Int} (hg : ∀ i, 0 ≤ g i ∧ g i ≤ 20000000000) : ∀ k : Nat, -1 ≤ jq_lo ys g y k ∧ jq_lo ys g y k ≤ 20000000000
  | 0 => by simp [jq_lo]
  | k + 1 => by
    have h1 := jq_lo_in (ys := ys) (y := y) hg k
    have h2 := hg k
    rw [jq_lo]
    split <;> omega
section RN2
variable {h : List jv_E} {n : Nat} {ys ms ds : Int → Int} {post : Option Value → List jv_E → Prop}
theorem ct_X3_neediest {y ar ou : Int} (K : Nat) (w : jw_R h n ys ms ds) (hR : jq_R n ys ms ds) (hy : -2147483648 ≤ y ∧ y ≤ 2147483647) (ha : 0 ≤ ar ∧ ar ≤ 1000000) (ho : 0 ≤ ou ∧ ou ≤ 100000) (hp : post (some (.int (jv_i (jq_bst ys (jq_nd ms ds ar ou) y n)))) h) : jv_Ct yX3_neediest cX3_neediest 10 (some .int) (K + 2) [.ref 1, .int (jv_i y), .int (jv_i ar), .int (jv_i ou)] h post := by
  have w9 := w
  obtain ⟨w1, w2, w3, w4⟩ := w
  have hn := hR.1
  refine jv_entry (own := RX3) (by decide) rfl (Nat.le_of_ble_eq_true rfl) (fun X hq => ?_)
  have step : ∀ (i : Nat) (b m : Int), i ≤ n → -1 ≤ b ∧ b < i → (-60000000000 ≤ m ∧ m ≤ 10000000000) → (b ≠ -1 → m = jq_nd ms ds ar ou b) → (i = n → post (some (.int (jv_i b))) h) → (∀ b' m', i < n → (-60000000000 ≤ m' ∧ m' ≤ 10000000000) → (b' ≠ -1 → m' = jq_nd ms ds ar ou b') → b' = (if ys i = y ∧ (b = -1 ∨ jq_nd ms ds ar ou b < jq_nd ms ds ar ou i) then (i : Int) else b) → jv_J X cX3_neediest RX3 (K + 2) 9 [some (.ref 1), some (.int (jv_i y)), some (.int (jv_i ar)), some (.int (jv_i ou)), some (.int (jv_i b')), some (.long (jv_l m')), none, some (.int (jv_i (i + 1))), none, none] [] h) → jv_J X cX3_neediest RX3 (K + 2) 9 [some (.ref 1), some (.int (jv_i y)), some (.int (jv_i ar)), some (.int (jv_i ou)), some (.int (jv_i b)), some (.long (jv_l m)), none, some (.int (jv_i i)), none, none] [] h := by
    intro i b m hi hb hm hbm p1 p2
    have r1 := (hR.2 i).1
    have r2 := jq_nd_in hR ha ho i
    refine jv_iload dX3_neediest_9 rfl ?_
    refine jv_aload_n dX3_neediest_11 rfl ?_
    refine jv_getf dX3_neediest_12 jf_X3_21 (by repeat' (first | assumption | exact ⟨_, by assumption⟩ | refine jv_h1 (by omega) ?_ | refine jv_h0 ?_ | refine jv_hs ?_)) (by exact rfl) ?_
    refine jv_icmp_ge 70 dX3_neediest_15 (fun c15 => ?_) (fun c15 => ?_)
    · refine jv_iload dX3_neediest_70 rfl ?_
      exact jv_iret dX3_neediest_72 hq (p1 (by omega)) (by first | rfl | decide)
    · refine jv_aload_n dX3_neediest_18 rfl ?_
      refine jv_getf dX3_neediest_19 jf_X3_9 (by repeat' (first | assumption | exact ⟨_, by assumption⟩ | refine jv_h1 (by omega) ?_ | refine jv_h0 ?_ | refine jv_hs ?_)) (by exact rfl) ?_
      refine jv_iload dX3_neediest_22 rfl ?_
      refine jv_iald dX3_neediest_24 (by repeat' (first | assumption | exact ⟨_, by assumption⟩ | refine jv_h1 (by omega) ?_ | refine jv_h0 ?_ | refine jv_hs ?_)) ?_
      refine jv_iload_n dX3_neediest_25 rfl ?_
      refine jv_icmp_eq 32 dX3_neediest_26 (fun c26 => ?_) (fun c26 => ?_)
      · refine jv_aload_n dX3_neediest_32 rfl ?_
        refine jv_iload dX3_neediest_33 rfl ?_
        refine jv_iload_n dX3_neediest_35 rfl ?_
        refine jv_iload_n dX3_neediest_36 rfl ?_
        refine jv_cV dX3_neediest_37 jm_X3_45 rfl (by repeat' (first | assumption | exact ⟨_, by assumption⟩ | refine jv_h1 (by omega) ?_ | refine jv_h0 ?_ | refine jv_hs ?_)) rfl (ct_X3_need (i := i) K w9 hR (by omega) ha ho ?_)
        refine jv_lstore dX3_neediest_40 rfl (Nat.le_of_ble_eq_true rfl) ?_
        refine jv_iload dX3_neediest_42 rfl ?_
        refine jv_iconst dX3_neediest_44 ?_
        refine jv_icmp_eq 56 dX3_neediest_45 (fun c45 => ?_) (fun c45 => ?_)
        · refine jv_iload dX3_neediest_56 rfl ?_
          refine jv_istore dX3_neediest_58 rfl (Nat.le_of_ble_eq_true rfl) ?_
          refine jv_lload dX3_neediest_60 rfl ?_
          refine jv_lstore dX3_neediest_62 rfl (Nat.le_of_ble_eq_true rfl) ?_
          refine jv_iinc dX3_neediest_64 rfl rfl ?_
          refine jv_goto 9 dX3_neediest_67 ?_
          exact jv_les (by repeat' (first | exact True.intro | exact rfl | apply And.intro)) (p2 i _ (by omega) r2 (fun _ => rfl) (by rw [if_pos ⟨c26, Or.inl c45⟩]))
        · refine jv_lload dX3_neediest_48 rfl ?_
          refine jv_lload dX3_neediest_50 rfl ?_
          refine jv_lcmp_le 64 dX3_neediest_52 dX3_neediest_53 (fun c52 => ?_) (fun c52 => ?_)
          · refine jv_iinc dX3_neediest_64 rfl rfl ?_
            refine jv_goto 9 dX3_neediest_67 ?_
            exact jv_les (by repeat' (first | exact True.intro | exact rfl | apply And.intro)) (p2 b m (by omega) hm hbm (by rw [if_neg (fun q => by rcases q.2 with z | z; exact c45 z; rw [← hbm c45] at z; omega)]))
          · refine jv_iload dX3_neediest_56 rfl ?_
            refine jv_istore dX3_neediest_58 rfl (Nat.le_of_ble_eq_true rfl) ?_
            refine jv_lload dX3_neediest_60 rfl ?_
            refine jv_lstore dX3_neediest_62 rfl (Nat.le_of_ble_eq_true rfl) ?_
            refine jv_iinc dX3_neediest_64 rfl rfl ?_
            refine jv_goto 9 dX3_neediest_67 ?_
            exact jv_les (by repeat' (first | exact True.intro | exact rfl | apply And.intro)) (p2 i _ (by omega) r2 (fun _ => rfl) (by rw [if_pos ⟨c26, Or.inr (by rw [← hbm c45]; omega)⟩]))
      · refine jv_goto 64 dX3_neediest_29 ?_
        refine jv_iinc dX3_neediest_64 rfl rfl ?_
        refine jv_goto 9 dX3_neediest_67 ?_
        exact jv_les (by repeat' (first | exact True.intro | exact rfl | apply And.intro)) (p2 b m (by omega) hm hbm (by rw [if_neg (fun q => c26 q.1)]))
  have loop : ∀ (k i : Nat) (b m : Int), i + k = n → b = jq_bst ys (jq_nd ms ds ar ou) y i → (-60000000000 ≤ m ∧ m ≤ 10000000000) → (b ≠ -1 → m = jq_nd ms ds ar ou b) → jv_J X cX3_neediest RX3 (K + 2) 9 [some (.ref 1), some (.int (jv_i y)), some (.int (jv_i ar)), some (.int (jv_i ou)), some (.int (jv_i b)), some (.long (jv_l m)), none, some (.int (jv_i i)), none, none] [] h := by
    intro k
    induction k with
    | zero =>
      intro i b m e eb hm hbm
      have := jq_bst_in ys (jq_nd ms ds ar ou) y i
      refine step i b m (by omega) (by omega) hm hbm (fun q => ?_) (fun b' m' q => by omega)
      rw [eb, q]
      exact hp
    | succ k ih =>
      intro i b m e eb hm hbm
      have := jq_bst_in ys (jq_nd ms ds ar ou) y i
      refine step i b m (by omega) (by omega) hm hbm (fun q => by omega) (fun b' m' q hm' hbm' e' => ?_)
      exact ih (i + 1) b' m' (by omega) (by rw [e', jq_bst, ← eb]) hm' hbm'
  refine jv_iconst dX3_neediest_0 ?_
  refine jv_istore dX3_neediest_1 rfl (Nat.le_of_ble_eq_true rfl) ?_
  refine jv_lconst 0 dX3_neediest_3 ?_
  refine jv_lstore dX3_neediest_4 rfl (Nat.le_of_ble_eq_true rfl) ?_
  refine jv_iconst dX3_neediest_6 ?_
  refine jv_istore dX3_neediest_7 rfl (Nat.le_of_ble_eq_true rfl) ?_
  exact loop n 0 (-1) 0 (by omega) rfl (by omega) (fun q => absurd rfl q)
theorem ct_X3_leastOutflowFor {i ar ro : Int} (K : Nat) (w : jw_R h n ys ms ds) (hR : jq_R n ys ms ds) (hi : 0 ≤ i ∧ i < n) (ha : 0 ≤ ar ∧ ar ≤ 1000000) (hr : 0 ≤ ro ∧ ro ≤ 1125899906842624) (hp : post (some (.long (jv_l (jq_lf ms ds ar ro i)))) h) : jv_Ct yX3_leastOutflowFor cX3_leastOutflowFor 9 (some .long) (K + 1) [.ref 1, .int (jv_i i), .int (jv_i ar), .long (jv_l ro)] h post := by
  have w9 := w
  obtain ⟨w1, w2, w3, w4⟩ := w
  have r1 := jq_cm_in hR ha i
  have r2 := (hR.2 i).2.1
  refine jv_entry (own := RX3) (by decide) rfl (Nat.le_of_ble_eq_true rfl) (fun X hq => ?_)
  refine jv_aload_n dX3_leastOutflowFor_0 rfl ?_
  refine jv_iload_n dX3_leastOutflowFor_1 rfl ?_
  refine jv_iload_n dX3_leastOutflowFor_2 rfl ?_
  refine jv_cV dX3_leastOutflowFor_3 jm_X3_33 rfl (by repeat' (first | assumption | exact ⟨_, by assumption⟩ | refine jv_h1 (by omega) ?_ | refine jv_h0 ?_ | refine jv_hs ?_)) rfl (ct_X3_comes K w9 hR hi ha ?_)
  refine jv_lload_n dX3_leastOutflowFor_6 rfl ?_
  refine jv_lsub dX3_leastOutflowFor_7 ?_
  refine jv_lstore dX3_leastOutflowFor_8 rfl (Nat.le_of_ble_eq_true rfl) ?_
  refine jv_aload_n dX3_leastOutflowFor_10 rfl ?_
  refine jv_iload_n dX3_leastOutflowFor_11 rfl ?_
  refine jv_cV dX3_leastOutflowFor_12 jm_X3_37 rfl (by repeat' (first | assumption | exact ⟨_, by assumption⟩ | refine jv_h1 (by omega) ?_ | refine jv_h0 ?_ | refine jv_hs ?_)) rfl (ct_X3_secondsOf K w9 hR hi ?_)
  refine jv_lstore dX3_leastOutflowFor_15 rfl (Nat.le_of_ble_eq_true rfl) ?_
  refine jv_lload dX3_leastOutflowFor_17 rfl ?_
  refine jv_lconst 0 dX3_leastOutflowFor_19 ?_
  refine jv_lcmp_le 31 dX3_leastOutflowFor_20 dX3_leastOutflowFor_21 (fun c20 => ?_) (fun c20 => ?_)
  · refine jv_lconst 0 dX3_leastOutflowFor_31 ?_
    exact jv_lret dX3_leastOutflowFor_32 hq (by rw [jq_lf, if_pos (by omega)] at hp; exact hp)
  · refine jv_lload dX3_leastOutflowFor_24 rfl ?_
    refine jv_lconst 0 dX3_leastOutflowFor_26 ?_
    refine jv_lcmp_gt 33 dX3_leastOutflowFor_27 dX3_leastOutflowFor_28 (fun c27 => ?_) (fun c27 => ?_)
    · refine jv_lload dX3_leastOutflowFor_33 rfl ?_
      refine jv_lload dX3_leastOutflowFor_35 rfl ?_
      refine jv_ladd dX3_leastOutflowFor_37 ?_
      refine jv_lconst 1 dX3_leastOutflowFor_38 ?_
      refine jv_lsub dX3_leastOutflowFor_39 ?_
      refine jv_lload dX3_leastOutflowFor_40 rfl ?_
      refine jv_ldiv dX3_leastOutflowFor_42 ?_
      exact jv_lret dX3_leastOutflowFor_43 hq (by rw [jq_lf, if_neg (by omega)] at hp; exact hp)
    · refine jv_lconst 0 dX3_leastOutflowFor_31 ?_
      exact jv_lret dX3_leastOutflowFor_32 hq (by rw [jq_lf, if_pos (by omega)] at hp; exact hp)
theorem ct_X3_leastOutflow {y ar ro : Int} (K : Nat) (w : jw_R h n ys ms ds) (hR : jq_R n ys ms ds) (hy : -2147483648 ≤ y ∧ y ≤ 2147483647) (ha : 0 ≤ ar ∧ ar ≤ 1000000) (hr : 0 ≤ ro ∧ ro ≤ 1125899906842624) (hp : post (some (.long (jv_l (jq_lo ys (jq_lf ms ds ar ro) y n)))) h) : jv_Ct yX3_leastOutflow cX3_leastOutflow 8 (some .long) (K + 2) [.ref 1, .int (jv_i y), .int (jv_i ar), .long (jv_l ro)] h post := by
  have w9 := w
  obtain ⟨w1, w2, w3, w4⟩ := w
  have hn := hR.1
  refine jv_entry (own := RX3) (by decide) rfl (Nat.le_of_ble_eq_true rfl) (fun X hq => ?_)
  have step : ∀ (i : Nat) (b : Int), i ≤ n → (-1 ≤ b ∧ b ≤ 20000000000) → (i = n → post (some (.long (jv_l b))) h) → (∀ b', i < n → b' = (if ys i = y then max b (jq_lf ms ds ar ro i) else b) → jv_J X cX3_leastOutflow RX3 (K + 2) 8 [some (.ref 1), some (.int (jv_i y)), some (.int (jv_i ar)), some (.long (jv_l ro)), none, some (.long (jv_l b')), none, some (.int (jv_i (i + 1)))] [] h) → jv_J X cX3_leastOutflow RX3 (K + 2) 8 [some (.ref 1), some (.int (jv_i y)), some (.int (jv_i ar)), some (.long (jv_l ro)), none, some (.long (jv_l b)), none, some (.int (jv_i i))] [] h := by
    intro i b hi hb p1 p2
    have r1 := (hR.2 i).1
    have r2 := jq_lf_in hR ha hr.1 i
    refine jv_iload dX3_leastOutflow_8 rfl ?_
    refine jv_aload_n dX3_leastOutflow_10 rfl ?_
    refine jv_getf dX3_leastOutflow_11 jf_X3_21 (by repeat' (first | assumption | exact ⟨_, by assumption⟩ | refine jv_h1 (by omega) ?_ | refine jv_h0 ?_ | refine jv_hs ?_)) (by exact rfl) ?_
    refine jv_icmp_ge 49 dX3_leastOutflow_14 (fun c14 => ?_) (fun c14 => ?_)
    · refine jv_lload dX3_leastOutflow_49 rfl ?_
      exact jv_lret dX3_leastOutflow_51 hq (p1 (by omega))
    · refine jv_aload_n dX3_leastOutflow_17 rfl ?_
      refine jv_getf dX3_leastOutflow_18 jf_X3_9 (by repeat' (first | assumption | exact ⟨_, by assumption⟩ | refine jv_h1 (by omega) ?_ | refine jv_h0 ?_ | refine jv_hs ?_)) (by exact rfl) ?_
      refine jv_iload dX3_leastOutflow_21 rfl ?_
      refine jv_iald dX3_leastOutflow_23 (by repeat' (first | assumption | exact ⟨_, by assumption⟩ | refine jv_h1 (by omega) ?_ | refine jv_h0 ?_ | refine jv_hs ?_)) ?_
      refine jv_iload_n dX3_leastOutflow_24 rfl ?_
      refine jv_icmp_ne 43 dX3_leastOutflow_25 (fun c25 => ?_) (fun c25 => ?_)
      · refine jv_iinc dX3_leastOutflow_43 rfl rfl ?_
        refine jv_goto 8 dX3_leastOutflow_46 ?_
        exact p2 _ (by omega) (by rw [if_neg c25])
      · refine jv_lload dX3_leastOutflow_28 rfl ?_
        refine jv_aload_n dX3_leastOutflow_30 rfl ?_
        refine jv_iload dX3_leastOutflow_31 rfl ?_
        refine jv_iload_n dX3_leastOutflow_33 rfl ?_
        refine jv_lload_n dX3_leastOutflow_34 rfl ?_
        refine jv_cV dX3_leastOutflow_35 jm_X3_51 rfl (by repeat' (first | assumption | exact ⟨_, by assumption⟩ | refine jv_h1 (by omega) ?_ | refine jv_h0 ?_ | refine jv_hs ?_)) rfl (ct_X3_leastOutflowFor (i := i) K w9 hR (by omega) ha hr ?_)
        refine jv_cS dX3_leastOutflow_38 jm_X3_55 (ct_J9_max K (fun r q => ?_))
        refine jv_lstore dX3_leastOutflow_41 rfl (Nat.le_of_ble_eq_true rfl) ?_
        refine jv_iinc dX3_leastOutflow_43 rfl rfl ?_
        refine jv_goto 8 dX3_leastOutflow_46 ?_
        exact p2 _ (by omega) (by rw [if_pos c25]; omega)
  have loop : ∀ (k i : Nat) (b : Int), i + k = n → b = jq_lo ys (jq_lf ms ds ar ro) y i → jv_J X cX3_leastOutflow RX3 (K + 2) 8 [some (.ref 1), some (.int (jv_i y)), some (.int (jv_i ar)), some (.long (jv_l ro)), none, some (.long (jv_l b)), none, some (.int (jv_i i))] [] h := by
    intro k
    induction k with
    | zero =>
      intro i b e eb
      have := jq_lo_in (ys := ys) (y := y) (jq_lf_in hR ha hr.1) i
      refine step i b (by omega) (by omega) (fun q => ?_) (fun b' q => by omega)
      rw [eb, q]
      exact hp
    | succ k ih =>
      intro i b e eb
      have := jq_lo_in (ys := ys) (y := y) (jq_lf_in hR ha hr.1) i
      refine step i b (by omega) (by omega) (fun q => by omega) (fun b' q e' => ?_)
      exact ih (i + 1) b' (by omega) (by rw [e', jq_lo, ← eb])
  refine jv_ldc2 dX3_leastOutflow_0 jk_X3_49 ?_
  refine jv_lstore dX3_leastOutflow_3 rfl (Nat.le_of_ble_eq_true rfl) ?_
  refine jv_iconst dX3_leastOutflow_5 ?_
  refine jv_istore dX3_leastOutflow_6 rfl (Nat.le_of_ble_eq_true rfl) ?_
  exact loop n 0 (-1) (by omega) rfl
/-- what lets a rain in -/
def jq_ok (n : Nat) (ys ms ds : Int → Int) (y mi de : Int) : Prop := n < 40 ∧ (jq_lst ys y n = -1 ∨ (ms (jq_lst ys y n) < mi ∧ ds (jq_lst ys y n) < de ∧ de * ms (jq_lst ys y n) ≤ ds (jq_lst ys y n) * mi))
theorem ct_X3_add {y mi de : Int} (K : Nat) (w : jw_R h n ys ms ds) (hR : jq_R n ys ms ds) (hy : 1 ≤ y ∧ y ≤ 1000) (hm : 1 ≤ mi ∧ mi ≤ 10000) (hd : 1 ≤ de ∧ de ≤ 100000) (hp1 : jq_ok n ys ms ds y mi de → ∀ h', jw_R h' (n + 1) (jv_up ys n y) (jv_up ms n mi) (jv_up ds n de) → jv_fr 1 4 h h' → post (some (.int (jv_i (jq_cnt ys y n + 1)))) h') (hp2 : ¬ jq_ok n ys ms ds y mi de → post (some (.int (jv_i (-1)))) h) : jv_Ct yX3_add cX3_add 7 (some .int) (K + 1) [.ref 1, .int (jv_i y), .int (jv_i mi), .int (jv_i de)] h post := by
  have w9 := w
  obtain ⟨w1, w2, w3, w4⟩ := w
  have hn := hR.1
  unfold jq_ok at hp1 hp2
  refine jv_entry (own := RX3) (by decide) rfl (Nat.le_of_ble_eq_true rfl) (fun X hq => ?_)
  have fin : n < 40 → jv_J X cX3_add RX3 (K + 1) 53 [some (.ref 1), some (.int (jv_i y)), some (.int (jv_i mi)), some (.int (jv_i de)), some (.int (jv_i (jq_cnt ys y n))), some (.int (jv_i (jq_lst ys y n))), some (.int (jv_i n))] [] h := by
    intro hn4
    have r1 := jq_lst_in ys y n
    have r2 := jq_cnt_in ys y n
    generalize jq_lst ys y n = la at *
    generalize jq_cnt ys y n = ct at *
    have tail : (la = -1 ∨ (ms la < mi ∧ ds la < de ∧ de * ms la ≤ ds la * mi)) → jv_J X cX3_add RX3 (K + 1) 72 [some (.ref 1), some (.int (jv_i y)), some (.int (jv_i mi)), some (.int (jv_i de)), some (.int (jv_i ct)), some (.int (jv_i la)), some (.int (jv_i n))] [] h := by
      intro hok
      refine jv_aload_n dX3_add_72 rfl ?_
      refine jv_getf dX3_add_73 jf_X3_9 (by repeat' (first | assumption | exact ⟨_, by assumption⟩ | refine jv_h1 (by omega) ?_ | refine jv_h0 ?_ | refine jv_hs ?_)) (by exact rfl) ?_
      refine jv_aload_n dX3_add_76 rfl ?_
      refine jv_getf dX3_add_77 jf_X3_21 (by repeat' (first | assumption | exact ⟨_, by assumption⟩ | refine jv_h1 (by omega) ?_ | refine jv_h0 ?_ | refine jv_hs ?_)) (by exact rfl) ?_
      refine jv_iload_n dX3_add_80 rfl ?_
      refine jv_iast dX3_add_81 (by repeat' (first | assumption | exact ⟨_, by assumption⟩ | refine jv_h1 (by omega) ?_ | refine jv_h0 ?_ | refine jv_hs ?_)) ?_
      refine jv_aload_n dX3_add_82 rfl ?_
      refine jv_getf dX3_add_83 jf_X3_15 (by repeat' (first | assumption | exact ⟨_, by assumption⟩ | refine jv_h1 (by omega) ?_ | refine jv_h0 ?_ | refine jv_hs ?_)) (by exact rfl) ?_
      refine jv_aload_n dX3_add_86 rfl ?_
      refine jv_getf dX3_add_87 jf_X3_21 (by repeat' (first | assumption | exact ⟨_, by assumption⟩ | refine jv_h1 (by omega) ?_ | refine jv_h0 ?_ | refine jv_hs ?_)) (by exact rfl) ?_
      refine jv_iload_n dX3_add_90 rfl ?_
      refine jv_iast dX3_add_91 (by repeat' (first | assumption | exact ⟨_, by assumption⟩ | refine jv_h1 (by omega) ?_ | refine jv_h0 ?_ | refine jv_hs ?_)) ?_
      refine jv_aload_n dX3_add_92 rfl ?_
      refine jv_getf dX3_add_93 jf_X3_18 (by repeat' (first | assumption | exact ⟨_, by assumption⟩ | refine jv_h1 (by omega) ?_ | refine jv_h0 ?_ | refine jv_hs ?_)) (by exact rfl) ?_
      refine jv_aload_n dX3_add_96 rfl ?_
      refine jv_getf dX3_add_97 jf_X3_21 (by repeat' (first | assumption | exact ⟨_, by assumption⟩ | refine jv_h1 (by omega) ?_ | refine jv_h0 ?_ | refine jv_hs ?_)) (by exact rfl) ?_
      refine jv_iload_n dX3_add_100 rfl ?_
      refine jv_iast dX3_add_101 (by repeat' (first | assumption | exact ⟨_, by assumption⟩ | refine jv_h1 (by omega) ?_ | refine jv_h0 ?_ | refine jv_hs ?_)) ?_
      refine jv_aload_n dX3_add_102 rfl ?_
      refine jv_dup dX3_add_103 rfl ?_
      refine jv_getf dX3_add_104 jf_X3_21 (by repeat' (first | assumption | exact ⟨_, by assumption⟩ | refine jv_h1 (by omega) ?_ | refine jv_h0 ?_ | refine jv_hs ?_)) (by exact rfl) ?_
      refine jv_iconst dX3_add_107 ?_
      refine jv_iadd dX3_add_108 ?_
      refine jv_putf dX3_add_109 jp_X3_21 (by repeat' (first | assumption | exact ⟨_, by assumption⟩ | refine jv_h1 (by omega) ?_ | refine jv_h0 ?_ | refine jv_hs ?_)) (by exact Nat.le_of_ble_eq_true rfl) ?_
      refine jv_iload dX3_add_112 rfl ?_
      refine jv_iconst dX3_add_114 ?_
      refine jv_iadd dX3_add_115 ?_
      exact jv_iret dX3_add_116 hq (hp1 ⟨hn4, hok⟩ _ ⟨(by repeat' (first | assumption | exact ⟨_, by assumption⟩ | refine jv_h1 (by omega) ?_ | refine jv_h0 ?_ | refine jv_hs ?_)), (by repeat' (first | assumption | exact ⟨_, by assumption⟩ | refine jv_h1 (by omega) ?_ | refine jv_h0 ?_ | refine jv_hs ?_)), (by repeat' (first | assumption | exact ⟨_, by assumption⟩ | refine jv_h1 (by omega) ?_ | refine jv_h0 ?_ | refine jv_hs ?_)), (by repeat' (first | assumption | exact ⟨_, by assumption⟩ | refine jv_h1 (by omega) ?_ | refine jv_h0 ?_ | refine jv_hs ?_))⟩ (jv_fr_set (by omega) (jv_fr_set (by omega) (jv_fr_set (by omega) (jv_fr_set (by omega) jv_fr_rf))))) (by first | rfl | decide)
    refine jv_iload dX3_add_53 rfl ?_
    refine jv_iconst dX3_add_55 ?_
    refine jv_icmp_eq 72 dX3_add_56 (fun c56 => ?_) (fun c56 => ?_)
    · exact tail (Or.inl c56)
    · refine jv_aload_n dX3_add_59 rfl ?_
      refine jv_iload dX3_add_60 rfl ?_
      refine jv_iload_n dX3_add_62 rfl ?_
      refine jv_iload_n dX3_add_63 rfl ?_
      refine jv_cV dX3_add_64 jm_X3_29 rfl (by repeat' (first | assumption | exact ⟨_, by assumption⟩ | refine jv_h1 (by omega) ?_ | refine jv_h0 ?_ | refine jv_hs ?_)) rfl (ct_X3_mayFollow (i := la) K w9 hR (by omega) hm hd (fun r q1 q2 q3 => ?_))
      refine jv_if_ne 72 dX3_add_67 (fun c67 => ?_) (fun c67 => ?_)
      · exact tail (Or.inr (by rcases Classical.em (ms la < mi ∧ ds la < de ∧ de * ms la ≤ ds la * mi) with z | z; exact z; exact absurd (q2 z) c67))
      · refine jv_iconst dX3_add_70 ?_
        exact jv_iret dX3_add_71 hq (hp2 (fun z => by rcases z.2 with z | z; exact c56 z; have := q1 z; omega))
  have step : ∀ (i : Nat) (a b : Int), n < 40 → i ≤ n → (0 ≤ a ∧ a ≤ i) → (-1 ≤ b ∧ b < i) → (i = n → jv_J X cX3_add RX3 (K + 1) 53 [some (.ref 1), some (.int (jv_i y)), some (.int (jv_i mi)), some (.int (jv_i de)), some (.int (jv_i a)), some (.int (jv_i b)), some (.int (jv_i i))] [] h) → (∀ a' b', i < n → a' = (if ys i = y then a + 1 else a) → b' = (if ys i = y then (i : Int) else b) → jv_J X cX3_add RX3 (K + 1) 20 [some (.ref 1), some (.int (jv_i y)), some (.int (jv_i mi)), some (.int (jv_i de)), some (.int (jv_i a')), some (.int (jv_i b')), some (.int (jv_i (i + 1)))] [] h) → jv_J X cX3_add RX3 (K + 1) 20 [some (.ref 1), some (.int (jv_i y)), some (.int (jv_i mi)), some (.int (jv_i de)), some (.int (jv_i a)), some (.int (jv_i b)), some (.int (jv_i i))] [] h := by
    intro i a b hn4 hi ha hb p1 p2
    have r1 := (hR.2 i).1
    refine jv_iload dX3_add_20 rfl ?_
    refine jv_aload_n dX3_add_22 rfl ?_
    refine jv_getf dX3_add_23 jf_X3_21 (by repeat' (first | assumption | exact ⟨_, by assumption⟩ | refine jv_h1 (by omega) ?_ | refine jv_h0 ?_ | refine jv_hs ?_)) (by exact rfl) ?_
    refine jv_icmp_ge 53 dX3_add_26 (fun c26 => ?_) (fun c26 => ?_)
    · exact p1 (by omega)
    · refine jv_aload_n dX3_add_29 rfl ?_
      refine jv_getf dX3_add_30 jf_X3_9 (by repeat' (first | assumption | exact ⟨_, by assumption⟩ | refine jv_h1 (by omega) ?_ | refine jv_h0 ?_ | refine jv_hs ?_)) (by exact rfl) ?_
      refine jv_iload dX3_add_33 rfl ?_
      refine jv_iald dX3_add_35 (by repeat' (first | assumption | exact ⟨_, by assumption⟩ | refine jv_h1 (by omega) ?_ | refine jv_h0 ?_ | refine jv_hs ?_)) ?_
      refine jv_iload_n dX3_add_36 rfl ?_
      refine jv_icmp_ne 47 dX3_add_37 (fun c37 => ?_) (fun c37 => ?_)
      · refine jv_iinc dX3_add_47 rfl rfl ?_
        refine jv_goto 20 dX3_add_50 ?_
        exact p2 _ _ (by omega) (by rw [if_neg c37]) (by rw [if_neg c37])
      · refine jv_iinc dX3_add_40 rfl rfl ?_
        refine jv_iload dX3_add_43 rfl ?_
        refine jv_istore dX3_add_45 rfl (Nat.le_of_ble_eq_true rfl) ?_
        refine jv_iinc dX3_add_47 rfl rfl ?_
        refine jv_goto 20 dX3_add_50 ?_
        exact p2 _ _ (by omega) (by rw [if_pos c37]) (by rw [if_pos c37])
  have loop : ∀ (k i : Nat) (a b : Int), n < 40 → i + k = n → a = jq_cnt ys y i → b = jq_lst ys y i → jv_J X cX3_add RX3 (K + 1) 20 [some (.ref 1), some (.int (jv_i y)), some (.int (jv_i mi)), some (.int (jv_i de)), some (.int (jv_i a)), some (.int (jv_i b)), some (.int (jv_i i))] [] h := by
    intro k
    induction k with
    | zero =>
      intro i a b hn4 e ea eb
      have r1 := jq_lst_in ys y i
      have r2 := jq_cnt_in ys y i
      refine step i a b hn4 (by omega) (by omega) (by omega) (fun q => ?_) (fun a' b' q => by omega)
      rw [ea, eb, q]
      exact fin hn4
    | succ k ih =>
      intro i a b hn4 e ea eb
      have r1 := jq_lst_in ys y i
      have r2 := jq_cnt_in ys y i
      refine step i a b hn4 (by omega) (by omega) (by omega) (fun q => by omega) (fun a' b' q e1 e2 => ?_)
      exact ih (i + 1) a' b' hn4 (by omega) (by rw [e1, jq_cnt, ← ea]) (by rw [e2, jq_lst, ← eb])
  refine jv_aload_n dX3_add_0 rfl ?_
  refine jv_getf dX3_add_1 jf_X3_21 (by repeat' (first | assumption | exact ⟨_, by assumption⟩ | refine jv_h1 (by omega) ?_ | refine jv_h0 ?_ | refine jv_hs ?_)) (by exact rfl) ?_
  refine jv_bipush dX3_add_4 ?_
  refine jv_icmp_lt 11 dX3_add_6 (fun c6 => ?_) (fun c6 => ?_)
  · refine jv_iconst dX3_add_11 ?_
    refine jv_istore dX3_add_12 rfl (Nat.le_of_ble_eq_true rfl) ?_
    refine jv_iconst dX3_add_14 ?_
    refine jv_istore dX3_add_15 rfl (Nat.le_of_ble_eq_true rfl) ?_
    refine jv_iconst dX3_add_17 ?_
    refine jv_istore dX3_add_18 rfl (Nat.le_of_ble_eq_true rfl) ?_
    exact loop n 0 0 (-1) (by omega) (by omega) rfl rfl
  · refine jv_iconst dX3_add_9 ?_
    exact jv_iret dX3_add_10 hq (hp2 (fun z => by omega))
end RN2
