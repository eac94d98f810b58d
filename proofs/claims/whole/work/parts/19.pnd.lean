/-! THE POND: n levels lv, areas ar, contents co -/
def jw_P (h : List jv_E) (n : Nat) (lv ar co : Int → Int) : Prop := h[5]? = some (jv_ob 2 [.ref 6, .ref 7, .ref 8, .int (jv_i n)]) ∧ h[6]? = some (jv_ai 20 lv) ∧ h[7]? = some (jv_ai 20 ar) ∧ h[8]? = some (jv_al 20 co)
def jq_P (n : Nat) (lv ar co : Int → Int) : Prop := n ≤ 20 ∧ (∀ i, (-100000 ≤ lv i ∧ lv i ≤ 100000) ∧ (0 ≤ ar i ∧ ar i ≤ 1000000)) ∧ (∀ i : Int, 0 ≤ i → i + 1 < n → lv i < lv (i + 1) ∧ ar i ≤ ar (i + 1) ∧ co (i + 1) = co i + (ar i + ar (i + 1)) * (lv (i + 1) - lv i) * 5) ∧ (0 < n → co 0 = 0)
def jq_lu (lv : Int → Int) (mm : Int) : Nat → Int
  | 0 => 0
  | k + 1 => if 1 ≤ (k : Int) ∧ lv k ≤ mm then k else jq_lu lv mm k
theorem jq_lu_ch (lv : Int → Int) (mm : Int) : ∀ k : Nat, (0 ≤ jq_lu lv mm k ∧ (jq_lu lv mm k < k ∨ jq_lu lv mm k = 0)) ∧ (jq_lu lv mm k = 0 ∨ lv (jq_lu lv mm k) ≤ mm) ∧ ∀ j : Int, jq_lu lv mm k < j → j < k → mm < lv j
  | 0 => ⟨by simp [jq_lu], Or.inl rfl, fun j h1 h2 => by simp [jq_lu] at h1; omega⟩
  | k + 1 => by
    obtain ⟨h1, h2, h3⟩ := jq_lu_ch lv mm k
    rw [jq_lu]
    split
    · next q => exact ⟨by omega, Or.inr q.2, fun j z1 z2 => by omega⟩
    · next q =>
      refine ⟨by omega, h2, fun j z1 z2 => ?_⟩
      by_cases e : j = k
      · subst e
        by_cases e2 : 1 ≤ (k : Int)
        · have : ¬ lv k ≤ mm := fun z => q ⟨e2, z⟩
          omega
        · omega
      · exact h3 j z1 (by omega)
theorem jq_srt {n : Nat} {lv ar co : Int → Int} (hP : jq_P n lv ar co) : ∀ (m : Nat) (i : Int), 0 ≤ i → i + 1 + m < n → lv i < lv (i + 1 + m)
  | 0, i, h0, h1 => by
    have := (hP.2.2.1 i h0 (by omega)).1
    simpa using this
  | m + 1, i, h0, h1 => by
    have h2 := jq_srt hP m i h0 (by omega)
    have h3 := (hP.2.2.1 (i + 1 + m) (by omega) (by omega)).1
    have e : i + 1 + ((m + 1 : Nat) : Int) = i + 1 + m + 1 := by omega
    rw [e]
    omega
theorem jq_srt2 {n : Nat} {lv ar co : Int → Int} (hP : jq_P n lv ar co) {i j : Int} (h0 : 0 ≤ i) (h1 : i < j) (h2 : j < n) : lv i < lv j := by
  have := jq_srt hP (j - i - 1).toNat i h0 (by omega)
  rwa [show i + 1 + ((j - i - 1).toNat : Int) = j by omega] at this
theorem jq_lu_un {n : Nat} {lv ar co : Int → Int} (hP : jq_P n lv ar co) {mm k : Int} (h0 : 0 ≤ k ∧ k < n) (h1 : k = 0 ∨ lv k ≤ mm) (h2 : k + 1 < n → mm < lv (k + 1)) : jq_lu lv mm n = k := by
  obtain ⟨g1, g2, g3⟩ := jq_lu_ch lv mm n
  rcases Int.lt_trichotomy (jq_lu lv mm n) k with q | q | q
  · have := g3 k q h0.2
    omega
  · exact q
  · have z1 := h2 (by omega)
    rcases g2 with z | z
    · omega
    · by_cases e : jq_lu lv mm n = k + 1
      · rw [e] at z; omega
      · have := jq_srt2 hP (i := k + 1) (j := jq_lu lv mm n) (by omega) (by omega) (by omega)
        omega
theorem jq_q {D m d : Int} (hD : 0 ≤ D) (hm : 0 ≤ m) (hd : m ≤ d) (h0 : 0 < d) : 0 ≤ D * m / d ∧ D * m / d ≤ D := ⟨Int.ediv_nonneg (Int.mul_nonneg hD hm) (by omega), Int.ediv_le_of_le_mul h0 (Int.mul_le_mul_of_nonneg_left hd hD)⟩
def jq_aa (n : Nat) (lv ar : Int → Int) (mm : Int) : Int := if n ≤ jq_lu lv mm n + 1 then ar (jq_lu lv mm n) else ar (jq_lu lv mm n) + (ar (jq_lu lv mm n + 1) - ar (jq_lu lv mm n)) * (mm - lv (jq_lu lv mm n)) / (lv (jq_lu lv mm n + 1) - lv (jq_lu lv mm n))
def jq_cc (n : Nat) (lv ar co : Int → Int) (mm : Int) : Int := co (jq_lu lv mm n) + (ar (jq_lu lv mm n) + jq_aa n lv ar mm) * (mm - lv (jq_lu lv mm n)) * 5
def jq_re (n : Nat) (lv : Int → Int) (mm : Int) : Prop := 1 ≤ n ∧ lv 0 ≤ mm ∧ mm ≤ lv (n - 1)
/-- where a level lies -/
theorem jq_lu_at {n : Nat} {lv ar co : Int → Int} (hP : jq_P n lv ar co) {mm : Int} (hr : jq_re n lv mm) : (0 ≤ jq_lu lv mm n ∧ jq_lu lv mm n < n) ∧ lv (jq_lu lv mm n) ≤ mm ∧ (jq_lu lv mm n + 1 < n → mm < lv (jq_lu lv mm n + 1)) := by
  obtain ⟨g1, g2, g3⟩ := jq_lu_ch lv mm n
  obtain ⟨r1, r2, r3⟩ := hr
  refine ⟨by omega, ?_, fun q => g3 _ (by omega) q⟩
  rcases g2 with z | z
  · rw [z]; exact r2
  · exact z
theorem jq_aa_in {n : Nat} {lv ar co : Int → Int} (hP : jq_P n lv ar co) {mm : Int} (hr : jq_re n lv mm) : 0 ≤ jq_aa n lv ar mm ∧ jq_aa n lv ar mm ≤ 1000000 := by
  obtain ⟨g1, g2, g3⟩ := jq_lu_at hP hr
  have a1 := (hP.2.1 (jq_lu lv mm n)).2
  have a2 := (hP.2.1 (jq_lu lv mm n + 1)).2
  unfold jq_aa
  split
  · exact a1
  · have b1 := hP.2.2.1 (jq_lu lv mm n) g1.1 (by omega)
    have b2 := jq_q (D := ar (jq_lu lv mm n + 1) - ar (jq_lu lv mm n)) (m := mm - lv (jq_lu lv mm n)) (d := lv (jq_lu lv mm n + 1) - lv (jq_lu lv mm n)) (by omega) (by omega) (by have := g3 (by omega); omega) (by omega)
    omega
theorem jq_bt {a b d : Int} (ha : 0 ≤ a ∧ a ≤ 1000000) (hb : 0 ≤ b ∧ b ≤ 1000000) (hd : 0 ≤ d ∧ d ≤ 200000) : 0 ≤ (a + b) * d * 5 ∧ (a + b) * d * 5 ≤ 2000000000000 := by
  have := jq_mul (a := a + b) (b := d) (A := 2000000) (B := 200000) (by omega) hd
  omega
theorem jq_co_in {n : Nat} {lv ar co : Int → Int} (hP : jq_P n lv ar co) : ∀ i : Nat, i < n → 0 ≤ co i ∧ co i ≤ i * 2000000000000
  | 0, h => by
    have := hP.2.2.2 h
    simp [this]
  | i + 1, h => by
    have h1 := jq_co_in hP i (by omega)
    obtain ⟨h2, h3, h4⟩ := hP.2.2.1 i (by omega) (by omega)
    have h5 := hP.2.1 i
    have h6 := hP.2.1 (i + 1)
    have h7 := jq_bt (a := ar i) (b := ar (i + 1)) (d := lv (i + 1) - lv i) h5.2 h6.2 (by omega)
    rw [show ((i + 1 : Nat) : Int) = (i : Int) + 1 by omega, h4]
    omega
theorem jq_cc_in {n : Nat} {lv ar co : Int → Int} (hP : jq_P n lv ar co) {mm : Int} (hr : jq_re n lv mm) : 0 ≤ jq_cc n lv ar co mm ∧ jq_cc n lv ar co mm ≤ 42000000000000 := by
  obtain ⟨g1, g2, g3⟩ := jq_lu_at hP hr
  have a1 := hP.2.1 (jq_lu lv mm n)
  have a2 := jq_aa_in hP hr
  have a3 := hP.2.1 (n - 1)
  have a4 := hP.2.1 0
  have a5 := hP.1
  have h1 := jq_co_in hP (jq_lu lv mm n).toNat (by omega)
  rw [show ((jq_lu lv mm n).toNat : Int) = jq_lu lv mm n by omega] at h1
  have h7 := jq_bt (a := ar (jq_lu lv mm n)) (b := jq_aa n lv ar mm) (d := mm - lv (jq_lu lv mm n)) a1.2 a2 (by have := hr.2.1; have := hr.2.2; omega)
  unfold jq_cc
  omega
def jq_bs (g : Int → Int) (w : Int) : Nat → Int → Int → Int
  | 0, a, _ => a
  | k + 1, a, b => if a < b then (if g (a + (b - a + 1) / 2) ≤ w then jq_bs g w k (a + (b - a + 1) / 2) b else jq_bs g w k a (a + (b - a + 1) / 2 - 1)) else a
def jq_fil (n : Nat) (lv ar co : Int → Int) (w : Int) : Int := if n = 0 ∨ ¬ (0 ≤ w ∧ w ≤ co (n - 1)) then -1000000 else jq_bs (jq_cc n lv ar co) w 20 (lv 0) (lv (n - 1))
def jq_okP (n : Nat) (lv ar : Int → Int) (mm a : Int) : Prop := (-100000 ≤ mm ∧ mm ≤ 100000) ∧ (0 ≤ a ∧ a ≤ 1000000) ∧ n < 20 ∧ (n = 0 ∨ (lv (n - 1) < mm ∧ ar (n - 1) ≤ a))
def jq_nc (n : Nat) (lv ar co : Int → Int) (mm a : Int) : Int := if n = 0 then 0 else co (n - 1) + (ar (n - 1) + a) * (mm - lv (n - 1)) * 5
section PN
variable {h : List jv_E} {n : Nat} {lv ar co : Int → Int} {post : Option Value → List jv_E → Prop}
theorem ct_X2_size (K : Nat) (w : jw_P h n lv ar co) (hp : post (some (.int (jv_i n))) h) : jv_Ct yX2_size cX2_size 1 (some .int) K [.ref 5] h post := by
  obtain ⟨w1, w2, w3, w4⟩ := w
  refine jv_entry (own := RX2) (by decide) rfl (Nat.le_of_ble_eq_true rfl) (fun X hq => ?_)
  refine jv_aload_n dX2_size_0 rfl ?_
  refine jv_getf dX2_size_1 jf_X2_22 (by repeat' (first | assumption | exact ⟨_, by assumption⟩ | refine jv_h1 (by omega) ?_ | refine jv_h0 ?_ | refine jv_hs ?_)) (by exact rfl) ?_
  exact jv_iret dX2_size_4 hq (hp) (by first | rfl | decide)
theorem ct_X2_between {a b d : Int} (K : Nat) (hp : post (some (.long (jv_l ((a + b) * d * 5)))) h) : jv_Ct yX2_between cX2_between 6 (some .long) K [.long (jv_l a), .long (jv_l b), .long (jv_l d)] h post := by
  refine jv_entry (own := RX2) (by decide) rfl (Nat.le_of_ble_eq_true rfl) (fun X hq => ?_)
  refine jv_lload_n dX2_between_0 rfl ?_
  refine jv_lload_n dX2_between_1 rfl ?_
  refine jv_ladd dX2_between_2 ?_
  refine jv_lload dX2_between_3 rfl ?_
  refine jv_lmul dX2_between_5 ?_
  refine jv_ldc2 dX2_between_6 jk_X2_30 ?_
  refine jv_lmul dX2_between_9 ?_
  exact jv_lret dX2_between_10 hq (hp)
theorem ct_X2_reaches {mm : Int} (K : Nat) (w : jw_P h n lv ar co) (hP : jq_P n lv ar co) (hm : jq_rg mm) (hp : ∀ r : Int, (jq_re n lv mm → r = 1) → (¬ jq_re n lv mm → r = 0) → 0 ≤ r ∧ r ≤ 1 → post (some (.int (jv_i r))) h) : jv_Ct yX2_reaches cX2_reaches 2 (some .boolean) K [.ref 5, .int (jv_i mm)] h post := by
  obtain ⟨w1, w2, w3, w4⟩ := w
  have hn := hP.1
  have a1 := (hP.2.1 0).1
  have a2 := (hP.2.1 (n - 1)).1
  unfold jq_rg at hm
  unfold jq_re at hp
  refine jv_entry (own := RX2) (by decide) rfl (Nat.le_of_ble_eq_true rfl) (fun X hq => ?_)
  refine jv_aload_n dX2_reaches_0 rfl ?_
  refine jv_getf dX2_reaches_1 jf_X2_22 (by repeat' (first | assumption | exact ⟨_, by assumption⟩ | refine jv_h1 (by omega) ?_ | refine jv_h0 ?_ | refine jv_hs ?_)) (by exact rfl) ?_
  refine jv_if_le 36 dX2_reaches_4 (fun c4 => ?_) (fun c4 => ?_)
  · refine jv_iconst dX2_reaches_36 ?_
    exact jv_iret dX2_reaches_37 hq (hp _ (by omega) (by omega) (by omega)) (by first | rfl | decide)
  · refine jv_aload_n dX2_reaches_7 rfl ?_
    refine jv_getf dX2_reaches_8 jf_X2_9 (by repeat' (first | assumption | exact ⟨_, by assumption⟩ | refine jv_h1 (by omega) ?_ | refine jv_h0 ?_ | refine jv_hs ?_)) (by exact rfl) ?_
    refine jv_iconst dX2_reaches_11 ?_
    refine jv_iald dX2_reaches_12 (by repeat' (first | assumption | exact ⟨_, by assumption⟩ | refine jv_h1 (by omega) ?_ | refine jv_h0 ?_ | refine jv_hs ?_)) ?_
    refine jv_iload_n dX2_reaches_13 rfl ?_
    refine jv_icmp_gt 36 dX2_reaches_14 (fun c14 => ?_) (fun c14 => ?_)
    · refine jv_iconst dX2_reaches_36 ?_
      exact jv_iret dX2_reaches_37 hq (hp _ (by omega) (by omega) (by omega)) (by first | rfl | decide)
    · refine jv_iload_n dX2_reaches_17 rfl ?_
      refine jv_aload_n dX2_reaches_18 rfl ?_
      refine jv_getf dX2_reaches_19 jf_X2_9 (by repeat' (first | assumption | exact ⟨_, by assumption⟩ | refine jv_h1 (by omega) ?_ | refine jv_h0 ?_ | refine jv_hs ?_)) (by exact rfl) ?_
      refine jv_aload_n dX2_reaches_22 rfl ?_
      refine jv_getf dX2_reaches_23 jf_X2_22 (by repeat' (first | assumption | exact ⟨_, by assumption⟩ | refine jv_h1 (by omega) ?_ | refine jv_h0 ?_ | refine jv_hs ?_)) (by exact rfl) ?_
      refine jv_iconst dX2_reaches_26 ?_
      refine jv_isub dX2_reaches_27 ?_
      refine jv_iald dX2_reaches_28 (by repeat' (first | assumption | exact ⟨_, by assumption⟩ | refine jv_h1 (by omega) ?_ | refine jv_h0 ?_ | refine jv_hs ?_)) ?_
      refine jv_icmp_gt 36 dX2_reaches_29 (fun c29 => ?_) (fun c29 => ?_)
      · refine jv_iconst dX2_reaches_36 ?_
        exact jv_iret dX2_reaches_37 hq (hp _ (by omega) (by omega) (by omega)) (by first | rfl | decide)
      · refine jv_iconst dX2_reaches_32 ?_
        refine jv_goto 37 dX2_reaches_33 ?_
        exact jv_iret dX2_reaches_37 hq (hp _ (by omega) (by omega) (by omega)) (by first | rfl | decide)
theorem ct_X2_lastUpTo {mm : Int} (K : Nat) (w : jw_P h n lv ar co) (hP : jq_P n lv ar co) (hn1 : 1 ≤ n) (hm : jq_rg mm) (hp : post (some (.int (jv_i (jq_lu lv mm n)))) h) : jv_Ct yX2_lastUpTo cX2_lastUpTo 4 (some .int) K [.ref 5, .int (jv_i mm)] h post := by
  obtain ⟨w1, w2, w3, w4⟩ := w
  have hn := hP.1
  unfold jq_rg at hm
  refine jv_entry (own := RX2) (by decide) rfl (Nat.le_of_ble_eq_true rfl) (fun X hq => ?_)
  have step : ∀ (i : Nat) (b : Int), 1 ≤ i → i ≤ n → (i = n → post (some (.int (jv_i b))) h) → (∀ b', i < n → b' = (if 1 ≤ (i : Int) ∧ lv i ≤ mm then (i : Int) else b) → jv_J X cX2_lastUpTo RX2 K 4 [some (.ref 5), some (.int (jv_i mm)), some (.int (jv_i b')), some (.int (jv_i (i + 1)))] [] h) → jv_J X cX2_lastUpTo RX2 K 4 [some (.ref 5), some (.int (jv_i mm)), some (.int (jv_i b)), some (.int (jv_i i))] [] h := by
    intro i b h1 hi p1 p2
    have r1 := (hP.2.1 i).1
    refine jv_iload_n dX2_lastUpTo_4 rfl ?_
    refine jv_aload_n dX2_lastUpTo_5 rfl ?_
    refine jv_getf dX2_lastUpTo_6 jf_X2_22 (by repeat' (first | assumption | exact ⟨_, by assumption⟩ | refine jv_h1 (by omega) ?_ | refine jv_h0 ?_ | refine jv_hs ?_)) (by exact rfl) ?_
    refine jv_icmp_ge 30 dX2_lastUpTo_9 (fun c9 => ?_) (fun c9 => ?_)
    · refine jv_iload_n dX2_lastUpTo_30 rfl ?_
      exact jv_iret dX2_lastUpTo_31 hq (p1 (by omega)) (by first | rfl | decide)
    · refine jv_aload_n dX2_lastUpTo_12 rfl ?_
      refine jv_getf dX2_lastUpTo_13 jf_X2_9 (by repeat' (first | assumption | exact ⟨_, by assumption⟩ | refine jv_h1 (by omega) ?_ | refine jv_h0 ?_ | refine jv_hs ?_)) (by exact rfl) ?_
      refine jv_iload_n dX2_lastUpTo_16 rfl ?_
      refine jv_iald dX2_lastUpTo_17 (by repeat' (first | assumption | exact ⟨_, by assumption⟩ | refine jv_h1 (by omega) ?_ | refine jv_h0 ?_ | refine jv_hs ?_)) ?_
      refine jv_iload_n dX2_lastUpTo_18 rfl ?_
      refine jv_icmp_gt 24 dX2_lastUpTo_19 (fun c19 => ?_) (fun c19 => ?_)
      · refine jv_iinc dX2_lastUpTo_24 rfl rfl ?_
        refine jv_goto 4 dX2_lastUpTo_27 ?_
        exact p2 _ (by omega) (by rw [if_neg (by omega)])
      · refine jv_iload_n dX2_lastUpTo_22 rfl ?_
        refine jv_istore_n dX2_lastUpTo_23 rfl (Nat.le_of_ble_eq_true rfl) ?_
        refine jv_iinc dX2_lastUpTo_24 rfl rfl ?_
        refine jv_goto 4 dX2_lastUpTo_27 ?_
        exact p2 _ (by omega) (by rw [if_pos (by omega)])
  have loop : ∀ (k i : Nat) (b : Int), 1 ≤ i → i + k = n → b = jq_lu lv mm i → jv_J X cX2_lastUpTo RX2 K 4 [some (.ref 5), some (.int (jv_i mm)), some (.int (jv_i b)), some (.int (jv_i i))] [] h := by
    intro k
    induction k with
    | zero =>
      intro i b h1 e eb
      refine step i b h1 (by omega) (fun q => ?_) (fun b' q => by omega)
      rw [eb, q]
      exact hp
    | succ k ih =>
      intro i b h1 e eb
      refine step i b h1 (by omega) (fun q => by omega) (fun b' q e' => ?_)
      exact ih (i + 1) b' (by omega) (by omega) (by rw [e', jq_lu, ← eb])
  refine jv_iconst dX2_lastUpTo_0 ?_
  refine jv_istore_n dX2_lastUpTo_1 rfl (Nat.le_of_ble_eq_true rfl) ?_
  refine jv_iconst dX2_lastUpTo_2 ?_
  refine jv_istore_n dX2_lastUpTo_3 rfl (Nat.le_of_ble_eq_true rfl) ?_
  exact loop (n - 1) 1 0 (by omega) (by omega) (by simp [jq_lu])
theorem ct_X2_areaAt {mm : Int} (K : Nat) (w : jw_P h n lv ar co) (hP : jq_P n lv ar co) (hr : jq_re n lv mm) (hm : jq_rg mm) (hp : post (some (.int (jv_i (jq_aa n lv ar mm)))) h) : jv_Ct yX2_areaAt cX2_areaAt 8 (some .int) (K + 1) [.ref 5, .int (jv_i mm)] h post := by
  have w9 := w
  obtain ⟨w1, w2, w3, w4⟩ := w
  have hn := hP.1
  obtain ⟨g1, g2, g3⟩ := jq_lu_at hP hr
  have s0 := hP.2.2.1 (jq_lu lv mm n) g1.1
  have a1 := hP.2.1 (jq_lu lv mm n)
  have a2 := hP.2.1 (jq_lu lv mm n + 1)
  unfold jq_aa at hp
  have hm2 := hm
  unfold jq_rg at hm
  refine jv_entry (own := RX2) (by decide) rfl (Nat.le_of_ble_eq_true rfl) (fun X hq => ?_)
  refine jv_aload_n dX2_areaAt_0 rfl ?_
  refine jv_iload_n dX2_areaAt_1 rfl ?_
  refine jv_cV dX2_areaAt_2 jm_X2_32 rfl (by repeat' (first | assumption | exact ⟨_, by assumption⟩ | refine jv_h1 (by omega) ?_ | refine jv_h0 ?_ | refine jv_hs ?_)) rfl (ct_X2_lastUpTo K w9 hP hr.1 hm2 ?_)
  generalize jq_lu lv mm n = k at *
  refine jv_istore_n dX2_areaAt_5 rfl (Nat.le_of_ble_eq_true rfl) ?_
  refine jv_iload_n dX2_areaAt_6 rfl ?_
  refine jv_iconst dX2_areaAt_7 ?_
  refine jv_iadd dX2_areaAt_8 ?_
  refine jv_istore_n dX2_areaAt_9 rfl (Nat.le_of_ble_eq_true rfl) ?_
  refine jv_iload_n dX2_areaAt_10 rfl ?_
  refine jv_aload_n dX2_areaAt_11 rfl ?_
  refine jv_getf dX2_areaAt_12 jf_X2_22 (by repeat' (first | assumption | exact ⟨_, by assumption⟩ | refine jv_h1 (by omega) ?_ | refine jv_h0 ?_ | refine jv_hs ?_)) (by exact rfl) ?_
  refine jv_icmp_lt 25 dX2_areaAt_15 (fun c15 => ?_) (fun c15 => ?_)
  · refine jv_aload_n dX2_areaAt_25 rfl ?_
    refine jv_getf dX2_areaAt_26 jf_X2_9 (by repeat' (first | assumption | exact ⟨_, by assumption⟩ | refine jv_h1 (by omega) ?_ | refine jv_h0 ?_ | refine jv_hs ?_)) (by exact rfl) ?_
    refine jv_iload_n dX2_areaAt_29 rfl ?_
    refine jv_iald dX2_areaAt_30 (by repeat' (first | assumption | exact ⟨_, by assumption⟩ | refine jv_h1 (by omega) ?_ | refine jv_h0 ?_ | refine jv_hs ?_)) ?_
    refine jv_i2l dX2_areaAt_31 ?_
    refine jv_aload_n dX2_areaAt_32 rfl ?_
    refine jv_getf dX2_areaAt_33 jf_X2_9 (by repeat' (first | assumption | exact ⟨_, by assumption⟩ | refine jv_h1 (by omega) ?_ | refine jv_h0 ?_ | refine jv_hs ?_)) (by exact rfl) ?_
    refine jv_iload_n dX2_areaAt_36 rfl ?_
    refine jv_iald dX2_areaAt_37 (by repeat' (first | assumption | exact ⟨_, by assumption⟩ | refine jv_h1 (by omega) ?_ | refine jv_h0 ?_ | refine jv_hs ?_)) ?_
    refine jv_i2l dX2_areaAt_38 ?_
    refine jv_lsub dX2_areaAt_39 ?_
    refine jv_lstore dX2_areaAt_40 rfl (Nat.le_of_ble_eq_true rfl) ?_
    refine jv_lload dX2_areaAt_42 rfl ?_
    refine jv_lconst 0 dX2_areaAt_44 ?_
    refine jv_lcmp_gt 56 dX2_areaAt_45 dX2_areaAt_46 (fun c45 => ?_) (fun c45 => ?_)
    · refine jv_aload_n dX2_areaAt_56 rfl ?_
      refine jv_getf dX2_areaAt_57 jf_X2_15 (by repeat' (first | assumption | exact ⟨_, by assumption⟩ | refine jv_h1 (by omega) ?_ | refine jv_h0 ?_ | refine jv_hs ?_)) (by exact rfl) ?_
      refine jv_iload_n dX2_areaAt_60 rfl ?_
      refine jv_iald dX2_areaAt_61 (by repeat' (first | assumption | exact ⟨_, by assumption⟩ | refine jv_h1 (by omega) ?_ | refine jv_h0 ?_ | refine jv_hs ?_)) ?_
      refine jv_i2l dX2_areaAt_62 ?_
      refine jv_aload_n dX2_areaAt_63 rfl ?_
      refine jv_getf dX2_areaAt_64 jf_X2_15 (by repeat' (first | assumption | exact ⟨_, by assumption⟩ | refine jv_h1 (by omega) ?_ | refine jv_h0 ?_ | refine jv_hs ?_)) (by exact rfl) ?_
      refine jv_iload_n dX2_areaAt_67 rfl ?_
      refine jv_iald dX2_areaAt_68 (by repeat' (first | assumption | exact ⟨_, by assumption⟩ | refine jv_h1 (by omega) ?_ | refine jv_h0 ?_ | refine jv_hs ?_)) ?_
      refine jv_i2l dX2_areaAt_69 ?_
      refine jv_lsub dX2_areaAt_70 ?_
      refine jv_lstore dX2_areaAt_71 rfl (Nat.le_of_ble_eq_true rfl) ?_
      refine jv_aload_n dX2_areaAt_73 rfl ?_
      refine jv_getf dX2_areaAt_74 jf_X2_15 (by repeat' (first | assumption | exact ⟨_, by assumption⟩ | refine jv_h1 (by omega) ?_ | refine jv_h0 ?_ | refine jv_hs ?_)) (by exact rfl) ?_
      refine jv_iload_n dX2_areaAt_77 rfl ?_
      refine jv_iald dX2_areaAt_78 (by repeat' (first | assumption | exact ⟨_, by assumption⟩ | refine jv_h1 (by omega) ?_ | refine jv_h0 ?_ | refine jv_hs ?_)) ?_
      refine jv_lload dX2_areaAt_79 rfl ?_
      refine jv_iload_n dX2_areaAt_81 rfl ?_
      refine jv_aload_n dX2_areaAt_82 rfl ?_
      refine jv_getf dX2_areaAt_83 jf_X2_9 (by repeat' (first | assumption | exact ⟨_, by assumption⟩ | refine jv_h1 (by omega) ?_ | refine jv_h0 ?_ | refine jv_hs ?_)) (by exact rfl) ?_
      refine jv_iload_n dX2_areaAt_86 rfl ?_
      refine jv_iald dX2_areaAt_87 (by repeat' (first | assumption | exact ⟨_, by assumption⟩ | refine jv_h1 (by omega) ?_ | refine jv_h0 ?_ | refine jv_hs ?_)) ?_
      refine jv_isub dX2_areaAt_88 ?_
      refine jv_i2l dX2_areaAt_89 ?_
      refine jv_lmul dX2_areaAt_90 ?_
      refine jv_lload dX2_areaAt_91 rfl ?_
      have m1 := jq_mul (a := ar (k + 1) - ar k) (b := mm - lv k) (A := 1000000) (B := 200000) (by have := (s0 (by omega)).2.1; omega) (by have := g3 (by omega); omega)
      refine jv_ldiv dX2_areaAt_93 ?_
      refine jv_l2i dX2_areaAt_94 ?_
      refine jv_iadd dX2_areaAt_95 ?_
      exact jv_iret dX2_areaAt_96 hq (by rw [if_neg (by omega)] at hp; exact hp)
    · exact absurd (s0 (by omega)).1 (by omega)
  · refine jv_aload_n dX2_areaAt_18 rfl ?_
    refine jv_getf dX2_areaAt_19 jf_X2_15 (by repeat' (first | assumption | exact ⟨_, by assumption⟩ | refine jv_h1 (by omega) ?_ | refine jv_h0 ?_ | refine jv_hs ?_)) (by exact rfl) ?_
    refine jv_iload_n dX2_areaAt_22 rfl ?_
    refine jv_iald dX2_areaAt_23 (by repeat' (first | assumption | exact ⟨_, by assumption⟩ | refine jv_h1 (by omega) ?_ | refine jv_h0 ?_ | refine jv_hs ?_)) ?_
    exact jv_iret dX2_areaAt_24 hq (by rw [if_pos (by omega)] at hp; exact hp)
theorem ct_X2_contentAt {mm : Int} (K : Nat) (w : jw_P h n lv ar co) (hP : jq_P n lv ar co) (hr : jq_re n lv mm) (hm : jq_rg mm) (hp : post (some (.long (jv_l (jq_cc n lv ar co mm)))) h) : jv_Ct yX2_contentAt cX2_contentAt 3 (some .long) (K + 2) [.ref 5, .int (jv_i mm)] h post := by
  have w9 := w
  obtain ⟨w1, w2, w3, w4⟩ := w
  have hn := hP.1
  obtain ⟨g1, g2, g3⟩ := jq_lu_at hP hr
  have a1 := hP.2.1 (jq_lu lv mm n)
  have a3 := jq_aa_in hP hr
  have hr9 := hr
  obtain ⟨z1, z2, z3⟩ := hr9
  have a4 := hP.2.1 0
  have a5 := hP.2.1 (n - 1)
  unfold jq_cc at hp
  have hm2 := hm
  unfold jq_rg at hm
  refine jv_entry (own := RX2) (by decide) rfl (Nat.le_of_ble_eq_true rfl) (fun X hq => ?_)
  refine jv_aload_n dX2_contentAt_0 rfl ?_
  refine jv_iload_n dX2_contentAt_1 rfl ?_
  refine jv_cV dX2_contentAt_2 jm_X2_32 rfl (by repeat' (first | assumption | exact ⟨_, by assumption⟩ | refine jv_h1 (by omega) ?_ | refine jv_h0 ?_ | refine jv_hs ?_)) rfl (ct_X2_lastUpTo K w9 hP hr.1 hm2 ?_)
  refine jv_istore_n dX2_contentAt_5 rfl (Nat.le_of_ble_eq_true rfl) ?_
  refine jv_aload_n dX2_contentAt_6 rfl ?_
  refine jv_getf dX2_contentAt_7 jf_X2_18 (by repeat' (first | assumption | exact ⟨_, by assumption⟩ | refine jv_h1 (by omega) ?_ | refine jv_h0 ?_ | refine jv_hs ?_)) (by exact rfl) ?_
  refine jv_iload_n dX2_contentAt_10 rfl ?_
  refine jv_lald dX2_contentAt_11 (by repeat' (first | assumption | exact ⟨_, by assumption⟩ | refine jv_h1 (by omega) ?_ | refine jv_h0 ?_ | refine jv_hs ?_)) ?_
  refine jv_aload_n dX2_contentAt_12 rfl ?_
  refine jv_getf dX2_contentAt_13 jf_X2_15 (by repeat' (first | assumption | exact ⟨_, by assumption⟩ | refine jv_h1 (by omega) ?_ | refine jv_h0 ?_ | refine jv_hs ?_)) (by exact rfl) ?_
  refine jv_iload_n dX2_contentAt_16 rfl ?_
  refine jv_iald dX2_contentAt_17 (by repeat' (first | assumption | exact ⟨_, by assumption⟩ | refine jv_h1 (by omega) ?_ | refine jv_h0 ?_ | refine jv_hs ?_)) ?_
  refine jv_i2l dX2_contentAt_18 ?_
  refine jv_aload_n dX2_contentAt_19 rfl ?_
  refine jv_iload_n dX2_contentAt_20 rfl ?_
  refine jv_cV dX2_contentAt_21 jm_X2_36 rfl (by repeat' (first | assumption | exact ⟨_, by assumption⟩ | refine jv_h1 (by omega) ?_ | refine jv_h0 ?_ | refine jv_hs ?_)) rfl (ct_X2_areaAt K w9 hP hr hm2 ?_)
  refine jv_i2l dX2_contentAt_24 ?_
  refine jv_iload_n dX2_contentAt_25 rfl ?_
  refine jv_aload_n dX2_contentAt_26 rfl ?_
  refine jv_getf dX2_contentAt_27 jf_X2_9 (by repeat' (first | assumption | exact ⟨_, by assumption⟩ | refine jv_h1 (by omega) ?_ | refine jv_h0 ?_ | refine jv_hs ?_)) (by exact rfl) ?_
  refine jv_iload_n dX2_contentAt_30 rfl ?_
  refine jv_iald dX2_contentAt_31 (by repeat' (first | assumption | exact ⟨_, by assumption⟩ | refine jv_h1 (by omega) ?_ | refine jv_h0 ?_ | refine jv_hs ?_)) ?_
  refine jv_isub dX2_contentAt_32 ?_
  refine jv_i2l dX2_contentAt_33 ?_
  refine jv_cS dX2_contentAt_34 jm_X2_26 (ct_X2_between K ?_)
  refine jv_ladd dX2_contentAt_37 ?_
  exact jv_lret dX2_contentAt_38 hq (hp)
theorem ct_X2_levelOf {wa : Int} (K : Nat) (w : jw_P h n lv ar co) (hP : jq_P n lv ar co) (hw : -9223372036854775808 ≤ wa ∧ wa ≤ 9223372036854775807) (hp : post (some (.int (jv_i (jq_fil n lv ar co wa)))) h) : jv_Ct yX2_levelOf cX2_levelOf 7 (some .int) (K + 3) [.ref 5, .long (jv_l wa)] h post := by
  have w9 := w
  obtain ⟨w1, w2, w3, w4⟩ := w
  have hn := hP.1
  have a4 := (hP.2.1 0).1
  have a5 := (hP.2.1 (n - 1)).1
  refine jv_entry (own := RX2) (by decide) rfl (Nat.le_of_ble_eq_true rfl) (fun X hq => ?_)
  have step : ∀ (i : Nat) (a b : Int), i ≤ 20 → 1 ≤ n → lv 0 ≤ a → b ≤ lv (n - 1) → a ≤ b → (20 ≤ i ∨ b ≤ a → post (some (.int (jv_i a))) h) → (i < 20 → a < b → jq_cc n lv ar co (a + (b - a + 1) / 2) ≤ wa → jv_J X cX2_levelOf RX2 (K + 3) 52 [some (.ref 5), some (.long (jv_l wa)), none, some (.int (jv_i (a + (b - a + 1) / 2))), some (.int (jv_i b)), some (.int (jv_i (i + 1))), none] [] h) → (i < 20 → a < b → ¬ jq_cc n lv ar co (a + (b - a + 1) / 2) ≤ wa → jv_J X cX2_levelOf RX2 (K + 3) 52 [some (.ref 5), some (.long (jv_l wa)), none, some (.int (jv_i a)), some (.int (jv_i (a + (b - a + 1) / 2 - 1))), some (.int (jv_i (i + 1))), none] [] h) → jv_J X cX2_levelOf RX2 (K + 3) 52 [some (.ref 5), some (.long (jv_l wa)), none, some (.int (jv_i a)), some (.int (jv_i b)), some (.int (jv_i i)), none] [] h := by
    intro i a b h1 h2 h3 h4 h5 p1 p2 p3
    refine jv_iload dX2_levelOf_52 rfl ?_
    refine jv_bipush dX2_levelOf_54 ?_
    refine jv_icmp_ge 106 dX2_levelOf_56 (fun c56 => ?_) (fun c56 => ?_)
    · refine jv_iload_n dX2_levelOf_106 rfl ?_
      exact jv_iret dX2_levelOf_107 hq (p1 (by omega)) (by first | rfl | decide)
    · refine jv_iload_n dX2_levelOf_59 rfl ?_
      refine jv_iload dX2_levelOf_60 rfl ?_
      refine jv_icmp_ge 106 dX2_levelOf_62 (fun c62 => ?_) (fun c62 => ?_)
      · refine jv_iload_n dX2_levelOf_106 rfl ?_
        exact jv_iret dX2_levelOf_107 hq (p1 (by omega)) (by first | rfl | decide)
      · refine jv_iload_n dX2_levelOf_65 rfl ?_
        refine jv_iload dX2_levelOf_66 rfl ?_
        refine jv_iload_n dX2_levelOf_68 rfl ?_
        refine jv_isub dX2_levelOf_69 ?_
        refine jv_iconst dX2_levelOf_70 ?_
        refine jv_iadd dX2_levelOf_71 ?_
        refine jv_iconst dX2_levelOf_72 ?_
        refine jv_idiv dX2_levelOf_73 ?_
        refine jv_iadd dX2_levelOf_74 ?_
        refine jv_istore dX2_levelOf_75 rfl (Nat.le_of_ble_eq_true rfl) ?_
        refine jv_aload_n dX2_levelOf_77 rfl ?_
        refine jv_iload dX2_levelOf_78 rfl ?_
        have re : jq_re n lv (a + (b - a + 1) / 2) := ⟨h2, by omega, by omega⟩
        have ci := jq_cc_in hP re
        refine jv_cV dX2_levelOf_80 jm_X2_44 rfl (by repeat' (first | assumption | exact ⟨_, by assumption⟩ | refine jv_h1 (by omega) ?_ | refine jv_h0 ?_ | refine jv_hs ?_)) rfl (ct_X2_contentAt K w9 hP re (by unfold jq_rg; omega) ?_)
        refine jv_lload_n dX2_levelOf_83 rfl ?_
        refine jv_lcmp_gt 94 dX2_levelOf_84 dX2_levelOf_85 (fun c84 => ?_) (fun c84 => ?_)
        · refine jv_iload dX2_levelOf_94 rfl ?_
          refine jv_iconst dX2_levelOf_96 ?_
          refine jv_isub dX2_levelOf_97 ?_
          refine jv_istore dX2_levelOf_98 rfl (Nat.le_of_ble_eq_true rfl) ?_
          refine jv_iinc dX2_levelOf_100 rfl rfl ?_
          refine jv_goto 52 dX2_levelOf_103 ?_
          exact jv_les (by repeat' (first | exact True.intro | exact rfl | apply And.intro)) (p3 (by omega) (by omega) (by omega))
        · refine jv_iload dX2_levelOf_88 rfl ?_
          refine jv_istore_n dX2_levelOf_90 rfl (Nat.le_of_ble_eq_true rfl) ?_
          refine jv_goto 100 dX2_levelOf_91 ?_
          refine jv_iinc dX2_levelOf_100 rfl rfl ?_
          refine jv_goto 52 dX2_levelOf_103 ?_
          exact jv_les (by repeat' (first | exact True.intro | exact rfl | apply And.intro)) (p2 (by omega) (by omega) (by omega))
  have loop : ∀ (k i : Nat) (a b : Int), i + k = 20 → 1 ≤ n → lv 0 ≤ a → b ≤ lv (n - 1) → a ≤ b → post (some (.int (jv_i (jq_bs (jq_cc n lv ar co) wa k a b)))) h → jv_J X cX2_levelOf RX2 (K + 3) 52 [some (.ref 5), some (.long (jv_l wa)), none, some (.int (jv_i a)), some (.int (jv_i b)), some (.int (jv_i i)), none] [] h := by
    intro k
    induction k with
    | zero =>
      intro i a b e h2 h3 h4 h5 hp
      exact step i a b (by omega) h2 h3 h4 h5 (fun _ => hp) (fun q => by omega) (fun q => by omega)
    | succ k ih =>
      intro i a b e h2 h3 h4 h5 hp
      rw [jq_bs] at hp
      refine step i a b (by omega) h2 h3 h4 h5 (fun q => by rwa [if_neg (by omega)] at hp) (fun q1 q2 q3 => ?_) (fun q1 q2 q3 => ?_)
      · exact ih (i + 1) _ b (by omega) h2 (by omega) h4 (by omega) (by rwa [if_pos q2, if_pos q3] at hp)
      · exact ih (i + 1) a _ (by omega) h2 h3 (by omega) (by omega) (by rwa [if_pos q2, if_neg q3] at hp)
  unfold jq_fil at hp
  have z0 : 1 ≤ n → 0 ≤ co (n - 1) ∧ co (n - 1) ≤ 40000000000000 := fun q => by
    have := jq_co_in hP (n - 1) (by omega)
    rw [show ((n - 1 : Nat) : Int) = (n : Int) - 1 by omega] at this
    omega
  have z9 : 1 ≤ n → lv 0 ≤ lv (n - 1) := fun q => by
    by_cases e : n = 1
    · subst e; exact Int.le_refl _
    · exact Int.le_of_lt (jq_srt2 hP (by omega) (by omega) (by omega))
  refine jv_aload_n dX2_levelOf_0 rfl ?_
  refine jv_getf dX2_levelOf_1 jf_X2_22 (by repeat' (first | assumption | exact ⟨_, by assumption⟩ | refine jv_h1 (by omega) ?_ | refine jv_h0 ?_ | refine jv_hs ?_)) (by exact rfl) ?_
  refine jv_if_eq 26 dX2_levelOf_4 (fun c4 => ?_) (fun c4 => ?_)
  · refine jv_ldc dX2_levelOf_26 jk_X2_43 ?_
    exact jv_iret dX2_levelOf_28 hq (by rw [if_pos (by omega)] at hp; exact hp)
  · refine jv_lload_n dX2_levelOf_7 rfl ?_
    refine jv_lconst 0 dX2_levelOf_8 ?_
    refine jv_aload_n dX2_levelOf_9 rfl ?_
    refine jv_getf dX2_levelOf_10 jf_X2_18 (by repeat' (first | assumption | exact ⟨_, by assumption⟩ | refine jv_h1 (by omega) ?_ | refine jv_h0 ?_ | refine jv_hs ?_)) (by exact rfl) ?_
    refine jv_aload_n dX2_levelOf_13 rfl ?_
    refine jv_getf dX2_levelOf_14 jf_X2_22 (by repeat' (first | assumption | exact ⟨_, by assumption⟩ | refine jv_h1 (by omega) ?_ | refine jv_h0 ?_ | refine jv_hs ?_)) (by exact rfl) ?_
    refine jv_iconst dX2_levelOf_17 ?_
    refine jv_isub dX2_levelOf_18 ?_
    refine jv_lald dX2_levelOf_19 (by repeat' (first | assumption | exact ⟨_, by assumption⟩ | refine jv_h1 (by omega) ?_ | refine jv_h0 ?_ | refine jv_hs ?_)) ?_
    have z1 := z0 (by omega)
    refine jv_cN dX2_levelOf_20 jm_X2_39 (ct_X7_within K (fun r1 q11 q12 q13 => ?_))
    refine jv_if_ne 29 dX2_levelOf_23 (fun c23 => ?_) (fun c23 => ?_)
    · refine jv_aload_n dX2_levelOf_29 rfl ?_
      refine jv_getf dX2_levelOf_30 jf_X2_9 (by repeat' (first | assumption | exact ⟨_, by assumption⟩ | refine jv_h1 (by omega) ?_ | refine jv_h0 ?_ | refine jv_hs ?_)) (by exact rfl) ?_
      refine jv_iconst dX2_levelOf_33 ?_
      refine jv_iald dX2_levelOf_34 (by repeat' (first | assumption | exact ⟨_, by assumption⟩ | refine jv_h1 (by omega) ?_ | refine jv_h0 ?_ | refine jv_hs ?_)) ?_
      refine jv_istore_n dX2_levelOf_35 rfl (Nat.le_of_ble_eq_true rfl) ?_
      refine jv_aload_n dX2_levelOf_36 rfl ?_
      refine jv_getf dX2_levelOf_37 jf_X2_9 (by repeat' (first | assumption | exact ⟨_, by assumption⟩ | refine jv_h1 (by omega) ?_ | refine jv_h0 ?_ | refine jv_hs ?_)) (by exact rfl) ?_
      refine jv_aload_n dX2_levelOf_40 rfl ?_
      refine jv_getf dX2_levelOf_41 jf_X2_22 (by repeat' (first | assumption | exact ⟨_, by assumption⟩ | refine jv_h1 (by omega) ?_ | refine jv_h0 ?_ | refine jv_hs ?_)) (by exact rfl) ?_
      refine jv_iconst dX2_levelOf_44 ?_
      refine jv_isub dX2_levelOf_45 ?_
      refine jv_iald dX2_levelOf_46 (by repeat' (first | assumption | exact ⟨_, by assumption⟩ | refine jv_h1 (by omega) ?_ | refine jv_h0 ?_ | refine jv_hs ?_)) ?_
      refine jv_istore dX2_levelOf_47 rfl (Nat.le_of_ble_eq_true rfl) ?_
      refine jv_iconst dX2_levelOf_49 ?_
      refine jv_istore dX2_levelOf_50 rfl (Nat.le_of_ble_eq_true rfl) ?_
      exact loop 20 0 _ _ (by omega) (by omega) (by omega) (by omega) (z9 (by omega)) (by rw [if_neg (by omega)] at hp; exact hp)
    · refine jv_ldc dX2_levelOf_26 jk_X2_43 ?_
      exact jv_iret dX2_levelOf_28 hq (by rw [if_pos (by omega)] at hp; exact hp)
theorem ct_X2_add {mm a : Int} (K : Nat) (w : jw_P h n lv ar co) (hP : jq_P n lv ar co) (hm : -100000 ≤ mm ∧ mm ≤ 100000) (ha : 0 ≤ a ∧ a ≤ 1000000) (hp1 : jq_okP n lv ar mm a → ∀ h', jw_P h' (n + 1) (jv_up lv n mm) (jv_up ar n a) (jv_up co n (jq_nc n lv ar co mm a)) → jv_fr 5 8 h h' → post (some (.int (jv_i (n + 1)))) h') (hp2 : ¬ jq_okP n lv ar mm a → post (some (.int (jv_i (-1)))) h) : jv_Ct yX2_add cX2_add 6 (some .int) (K + 1) [.ref 5, .int (jv_i mm), .int (jv_i a)] h post := by
  obtain ⟨w1, w2, w3, w4⟩ := w
  have hn := hP.1
  have a1 := hP.2.1 (n - 1)
  unfold jq_okP at hp1 hp2
  refine jv_entry (own := RX2) (by decide) rfl (Nat.le_of_ble_eq_true rfl) (fun X hq => ?_)
  have tail : ∀ x : Option Value, n < 20 → (n = 0 ∨ (lv (n - 1) < mm ∧ ar (n - 1) ≤ a)) → jv_J X cX2_add RX2 (K + 1) 84 [some (.ref 5), some (.int (jv_i mm)), some (.int (jv_i a)), some (.long (jv_l (jq_nc n lv ar co mm a))), none, x] [] h := by
    intro x h1 h2
    refine jv_aload_n dX2_add_84 rfl ?_
    refine jv_getf dX2_add_85 jf_X2_9 (by repeat' (first | assumption | exact ⟨_, by assumption⟩ | refine jv_h1 (by omega) ?_ | refine jv_h0 ?_ | refine jv_hs ?_)) (by exact rfl) ?_
    refine jv_aload_n dX2_add_88 rfl ?_
    refine jv_getf dX2_add_89 jf_X2_22 (by repeat' (first | assumption | exact ⟨_, by assumption⟩ | refine jv_h1 (by omega) ?_ | refine jv_h0 ?_ | refine jv_hs ?_)) (by exact rfl) ?_
    refine jv_iload_n dX2_add_92 rfl ?_
    refine jv_iast dX2_add_93 (by repeat' (first | assumption | exact ⟨_, by assumption⟩ | refine jv_h1 (by omega) ?_ | refine jv_h0 ?_ | refine jv_hs ?_)) ?_
    refine jv_aload_n dX2_add_94 rfl ?_
    refine jv_getf dX2_add_95 jf_X2_15 (by repeat' (first | assumption | exact ⟨_, by assumption⟩ | refine jv_h1 (by omega) ?_ | refine jv_h0 ?_ | refine jv_hs ?_)) (by exact rfl) ?_
    refine jv_aload_n dX2_add_98 rfl ?_
    refine jv_getf dX2_add_99 jf_X2_22 (by repeat' (first | assumption | exact ⟨_, by assumption⟩ | refine jv_h1 (by omega) ?_ | refine jv_h0 ?_ | refine jv_hs ?_)) (by exact rfl) ?_
    refine jv_iload_n dX2_add_102 rfl ?_
    refine jv_iast dX2_add_103 (by repeat' (first | assumption | exact ⟨_, by assumption⟩ | refine jv_h1 (by omega) ?_ | refine jv_h0 ?_ | refine jv_hs ?_)) ?_
    refine jv_aload_n dX2_add_104 rfl ?_
    refine jv_getf dX2_add_105 jf_X2_18 (by repeat' (first | assumption | exact ⟨_, by assumption⟩ | refine jv_h1 (by omega) ?_ | refine jv_h0 ?_ | refine jv_hs ?_)) (by exact rfl) ?_
    refine jv_aload_n dX2_add_108 rfl ?_
    refine jv_getf dX2_add_109 jf_X2_22 (by repeat' (first | assumption | exact ⟨_, by assumption⟩ | refine jv_h1 (by omega) ?_ | refine jv_h0 ?_ | refine jv_hs ?_)) (by exact rfl) ?_
    refine jv_lload_n dX2_add_112 rfl ?_
    refine jv_last dX2_add_113 (by repeat' (first | assumption | exact ⟨_, by assumption⟩ | refine jv_h1 (by omega) ?_ | refine jv_h0 ?_ | refine jv_hs ?_)) ?_
    refine jv_aload_n dX2_add_114 rfl ?_
    refine jv_dup dX2_add_115 rfl ?_
    refine jv_getf dX2_add_116 jf_X2_22 (by repeat' (first | assumption | exact ⟨_, by assumption⟩ | refine jv_h1 (by omega) ?_ | refine jv_h0 ?_ | refine jv_hs ?_)) (by exact rfl) ?_
    refine jv_iconst dX2_add_119 ?_
    refine jv_iadd dX2_add_120 ?_
    refine jv_putf dX2_add_121 jp_X2_22 (by repeat' (first | assumption | exact ⟨_, by assumption⟩ | refine jv_h1 (by omega) ?_ | refine jv_h0 ?_ | refine jv_hs ?_)) (by exact Nat.le_of_ble_eq_true rfl) ?_
    refine jv_aload_n dX2_add_124 rfl ?_
    refine jv_getf dX2_add_125 jf_X2_22 (by repeat' (first | assumption | exact ⟨_, by assumption⟩ | refine jv_h1 (by omega) ?_ | refine jv_h0 ?_ | refine jv_hs ?_)) (by exact rfl) ?_
    exact jv_iret dX2_add_128 hq (hp1 ⟨hm, ha, h1, h2⟩ _ ⟨(by repeat' (first | assumption | exact ⟨_, by assumption⟩ | refine jv_h1 (by omega) ?_ | refine jv_h0 ?_ | refine jv_hs ?_)), (by repeat' (first | assumption | exact ⟨_, by assumption⟩ | refine jv_h1 (by omega) ?_ | refine jv_h0 ?_ | refine jv_hs ?_)), (by repeat' (first | assumption | exact ⟨_, by assumption⟩ | refine jv_h1 (by omega) ?_ | refine jv_h0 ?_ | refine jv_hs ?_)), (by repeat' (first | assumption | exact ⟨_, by assumption⟩ | refine jv_h1 (by omega) ?_ | refine jv_h0 ?_ | refine jv_hs ?_))⟩ (jv_fr_set (by omega) (jv_fr_set (by omega) (jv_fr_set (by omega) (jv_fr_set (by omega) jv_fr_rf))))) (by first | rfl | decide)
  refine jv_aload_n dX2_add_0 rfl ?_
  refine jv_getf dX2_add_1 jf_X2_22 (by repeat' (first | assumption | exact ⟨_, by assumption⟩ | refine jv_h1 (by omega) ?_ | refine jv_h0 ?_ | refine jv_hs ?_)) (by exact rfl) ?_
  refine jv_bipush dX2_add_4 ?_
  refine jv_icmp_lt 11 dX2_add_6 (fun c6 => ?_) (fun c6 => ?_)
  · refine jv_lconst 0 dX2_add_11 ?_
    refine jv_lstore_n dX2_add_12 rfl (Nat.le_of_ble_eq_true rfl) ?_
    refine jv_aload_n dX2_add_13 rfl ?_
    refine jv_getf dX2_add_14 jf_X2_22 (by repeat' (first | assumption | exact ⟨_, by assumption⟩ | refine jv_h1 (by omega) ?_ | refine jv_h0 ?_ | refine jv_hs ?_)) (by exact rfl) ?_
    refine jv_if_le 84 dX2_add_17 (fun c17 => ?_) (fun c17 => ?_)
    · have := tail none (by omega) (Or.inl (by omega))
      rw [jq_nc, if_pos (by omega)] at this
      exact this
    · refine jv_aload_n dX2_add_20 rfl ?_
      refine jv_getf dX2_add_21 jf_X2_22 (by repeat' (first | assumption | exact ⟨_, by assumption⟩ | refine jv_h1 (by omega) ?_ | refine jv_h0 ?_ | refine jv_hs ?_)) (by exact rfl) ?_
      refine jv_iconst dX2_add_24 ?_
      refine jv_isub dX2_add_25 ?_
      refine jv_istore dX2_add_26 rfl (Nat.le_of_ble_eq_true rfl) ?_
      refine jv_iload_n dX2_add_28 rfl ?_
      refine jv_aload_n dX2_add_29 rfl ?_
      refine jv_getf dX2_add_30 jf_X2_9 (by repeat' (first | assumption | exact ⟨_, by assumption⟩ | refine jv_h1 (by omega) ?_ | refine jv_h0 ?_ | refine jv_hs ?_)) (by exact rfl) ?_
      refine jv_iload dX2_add_33 rfl ?_
      refine jv_iald dX2_add_35 (by repeat' (first | assumption | exact ⟨_, by assumption⟩ | refine jv_h1 (by omega) ?_ | refine jv_h0 ?_ | refine jv_hs ?_)) ?_
      refine jv_icmp_le 50 dX2_add_36 (fun c36 => ?_) (fun c36 => ?_)
      · refine jv_iconst dX2_add_50 ?_
        exact jv_iret dX2_add_51 hq (hp2 (fun z => by omega))
      · refine jv_iload_n dX2_add_39 rfl ?_
        refine jv_aload_n dX2_add_40 rfl ?_
        refine jv_getf dX2_add_41 jf_X2_15 (by repeat' (first | assumption | exact ⟨_, by assumption⟩ | refine jv_h1 (by omega) ?_ | refine jv_h0 ?_ | refine jv_hs ?_)) (by exact rfl) ?_
        refine jv_iload dX2_add_44 rfl ?_
        refine jv_iald dX2_add_46 (by repeat' (first | assumption | exact ⟨_, by assumption⟩ | refine jv_h1 (by omega) ?_ | refine jv_h0 ?_ | refine jv_hs ?_)) ?_
        refine jv_icmp_ge 52 dX2_add_47 (fun c47 => ?_) (fun c47 => ?_)
        · refine jv_aload_n dX2_add_52 rfl ?_
          refine jv_getf dX2_add_53 jf_X2_18 (by repeat' (first | assumption | exact ⟨_, by assumption⟩ | refine jv_h1 (by omega) ?_ | refine jv_h0 ?_ | refine jv_hs ?_)) (by exact rfl) ?_
          refine jv_iload dX2_add_56 rfl ?_
          refine jv_lald dX2_add_58 (by repeat' (first | assumption | exact ⟨_, by assumption⟩ | refine jv_h1 (by omega) ?_ | refine jv_h0 ?_ | refine jv_hs ?_)) ?_
          refine jv_aload_n dX2_add_59 rfl ?_
          refine jv_getf dX2_add_60 jf_X2_15 (by repeat' (first | assumption | exact ⟨_, by assumption⟩ | refine jv_h1 (by omega) ?_ | refine jv_h0 ?_ | refine jv_hs ?_)) (by exact rfl) ?_
          refine jv_iload dX2_add_63 rfl ?_
          refine jv_iald dX2_add_65 (by repeat' (first | assumption | exact ⟨_, by assumption⟩ | refine jv_h1 (by omega) ?_ | refine jv_h0 ?_ | refine jv_hs ?_)) ?_
          refine jv_i2l dX2_add_66 ?_
          refine jv_iload_n dX2_add_67 rfl ?_
          refine jv_i2l dX2_add_68 ?_
          refine jv_iload_n dX2_add_69 rfl ?_
          refine jv_aload_n dX2_add_70 rfl ?_
          refine jv_getf dX2_add_71 jf_X2_9 (by repeat' (first | assumption | exact ⟨_, by assumption⟩ | refine jv_h1 (by omega) ?_ | refine jv_h0 ?_ | refine jv_hs ?_)) (by exact rfl) ?_
          refine jv_iload dX2_add_74 rfl ?_
          refine jv_iald dX2_add_76 (by repeat' (first | assumption | exact ⟨_, by assumption⟩ | refine jv_h1 (by omega) ?_ | refine jv_h0 ?_ | refine jv_hs ?_)) ?_
          refine jv_isub dX2_add_77 ?_
          refine jv_i2l dX2_add_78 ?_
          refine jv_cS dX2_add_79 jm_X2_26 (ct_X2_between K ?_)
          refine jv_ladd dX2_add_82 ?_
          refine jv_lstore_n dX2_add_83 rfl (Nat.le_of_ble_eq_true rfl) ?_
          have := tail (some (.int (jv_i (n - 1)))) (by omega) (Or.inr (by omega))
          rw [jq_nc, if_neg (by omega)] at this
          exact this
        · refine jv_iconst dX2_add_50 ?_
          exact jv_iret dX2_add_51 hq (hp2 (fun z => by omega))
  · refine jv_iconst dX2_add_9 ?_
    exact jv_iret dX2_add_10 hq (hp2 (fun z => by omega))
end PN
