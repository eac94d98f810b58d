/-! the reference's states -/
/-- the states l lie from state b on -/
def jq_MS (b : Int) (R : List (List (Int × List (Int × Int) × List (Int × Int)))) (ta re te of le : Int → Int) : Prop := ∀ (s : Nat) (l : List (Int × List (Int × Int) × List (Int × Int))), R[s]? = some l → ta (b + s) = l.length ∧ jq_MT (5 * (b + s)) l re te of le
def jq_cp (f : Int → Int) (off k : Int) : Int → Int := fun j => if 0 ≤ j ∧ j < k then f (off + j) else f j
theorem jq_cp_0 (f : Int → Int) (off : Int) : jq_cp f off 0 = f := funext fun j => by rw [jq_cp, if_neg (by omega)]
theorem jq_cp_s (f : Int → Int) {off k : Int} (hk : 0 ≤ k ∧ k < off) : jv_up (jq_cp f off k) k (jq_cp f off k (off + k)) = jq_cp f off (k + 1) := by
  funext j
  have e0 : jq_cp f off k (off + k) = f (off + k) := by rw [jq_cp, if_neg (by omega)]
  rw [e0]
  by_cases e : j = k
  · rw [e, jv_up_s, jq_cp, if_pos (by omega)]
  · rw [jv_up_n _ e]
    unfold jq_cp
    by_cases e2 : 0 ≤ j ∧ j < k
    · rw [if_pos e2, if_pos (by omega)]
    · rw [if_neg e2, if_neg (by omega)]
theorem jq_cp_at (f : Int → Int) {off k j : Int} (h : 0 ≤ j ∧ j < k) : jq_cp f off k j = f (off + j) := by rw [jq_cp, if_pos h]
theorem jq_M1_cp {g : Int} {T : (Int × List (Int × Int) × List (Int × Int))} {re te of le : Int → Int} (h : jq_M1 (30 + g) T re te of le) (hg : 0 ≤ g ∧ g < 30) (hl : T.2.1.length ≤ 4 ∧ T.2.2.length ≤ 4) : jq_M1 g T (jq_cp re 30 30) (jq_cp te 60 60) (jq_cp of 240 240) (jq_cp le 240 240) := by
  obtain ⟨h1, ⟨h2, h3⟩, h4, h5⟩ := h
  refine ⟨by rw [jq_cp_at _ (by omega)]; exact h1, ⟨by rw [jq_cp_at _ (by omega), show (60 : Int) + 2 * g = 2 * (30 + g) by omega]; exact h2, fun j q z => ?_⟩, by rw [jq_cp_at _ (by omega), show (60 : Int) + (2 * g + 1) = 2 * (30 + g) + 1 by omega]; exact h4, fun j q z => ?_⟩
  · have := (List.getElem?_eq_some_iff.mp z).1
    rw [jq_cp_at _ (by omega), jq_cp_at _ (by omega), show (240 : Int) + (4 * (2 * g) + j) = 4 * (2 * (30 + g)) + j by omega]
    exact h3 j q z
  · have := (List.getElem?_eq_some_iff.mp z).1
    rw [jq_cp_at _ (by omega), jq_cp_at _ (by omega), show (240 : Int) + (4 * (2 * g + 1) + j) = 4 * (2 * (30 + g) + 1) + j by omega]
    exact h5 j q z
/-- what a reading's states and tests are small by -/
def jq_sm4 (R : List (List (Int × List (Int × Int) × List (Int × Int)))) : Prop := R.length ≤ 6 ∧ ∀ l ∈ R, l.length ≤ 5 ∧ ∀ T ∈ l, T.2.1.length ≤ 4 ∧ T.2.2.length ≤ 4
theorem jq_MS_cp {R : List (List (Int × List (Int × Int) × List (Int × Int)))} {ta re te of le : Int → Int} (h : jq_MS 6 R ta re te of le) (hR : jq_sm4 R) : jq_MS 0 R (jq_cp ta 6 6) (jq_cp re 30 30) (jq_cp te 60 60) (jq_cp of 240 240) (jq_cp le 240 240) := fun s l z => by
  have hs := (List.getElem?_eq_some_iff.mp z).1
  have hm := hR.2 l (List.mem_of_getElem? z)
  have hR1 := hR.1
  obtain ⟨h1, h2⟩ := h s l z
  refine ⟨by rw [jq_cp_at _ (by omega), Int.zero_add]; exact h1, fun j T y => ?_⟩
  have hj := (List.getElem?_eq_some_iff.mp y).1
  have h3 := h2 j T y
  rw [show (5 : Int) * (6 + s) + j = 30 + (5 * (0 + s) + j) by omega] at h3
  exact jq_M1_cp h3 (by omega) (hm.2 T (List.mem_of_getElem? y))
theorem jq_tt_sm {sg : Int → Int} {n : Int} (hS : jq_S n sg) : ∀ (f : Nat) (a : Int), 0 ≤ a ∧ a ≤ n → (jq_tt sg n f a).2.2.length ≤ f ∧ ∀ T ∈ (jq_tt sg n f a).2.2, T.2.1.length ≤ 4 ∧ T.2.2.length ≤ 4
  | 0, a, ha => ⟨Nat.le_refl _, fun T z => by simp [jq_tt] at z⟩
  | f + 1, a, ha => by
    have h1 := jq_ts_in hS ha
    have h9 := jq_ts_len hS ha
    obtain ⟨h2, h3, h4⟩ := jq_sK_in (sg := sg) h1
    rw [jq_tt]
    split
    · split
      · next q =>
        obtain ⟨g1, g2⟩ := jq_tt_sm hS f (jq_sK sg n (jq_ts sg n a).2.1 + 1) (by have := h4 (by omega); omega)
        refine ⟨Nat.succ_le_succ g1, fun T z => ?_⟩
        rcases List.mem_cons.mp z with rfl | z
        · exact h9
        · exact g2 T z
      · refine ⟨Nat.succ_le_succ (Nat.zero_le _), fun T z => ?_⟩
        rw [List.mem_singleton.mp z]
        exact h9
    · exact ⟨Nat.zero_le _, fun T z => by simp at z⟩
theorem jq_ss_sm {sg : Int → Int} {n : Int} (hS : jq_S n sg) : ∀ (f : Nat) (a : Int), 0 ≤ a ∧ a ≤ n → (0 ≤ (jq_ss sg n f a).2.1 ∧ (jq_ss sg n f a).2.1 ≤ n) ∧ (jq_ss sg n f a).2.2.length ≤ f ∧ ∀ l ∈ (jq_ss sg n f a).2.2, l.length ≤ 5 ∧ ∀ T ∈ l, T.2.1.length ≤ 4 ∧ T.2.2.length ≤ 4
  | 0, a, ha => ⟨⟨(jq_sK_in ha).1, (jq_sK_in ha).2.1⟩, Nat.le_refl _, fun T z => by simp [jq_ss] at z⟩
  | f + 1, a, ha => by
    have h1 := (jq_tt_in hS 5 a ha).1
    have h9 := jq_tt_sm hS 5 a ha
    obtain ⟨h2, h3, h4⟩ := jq_sK_in (sg := sg) h1
    rw [jq_ss]
    split
    · split
      · refine ⟨⟨h2, h3⟩, Nat.succ_le_succ (Nat.zero_le _), fun l z => ?_⟩
        rw [List.mem_singleton.mp z]
        exact h9
      · split
        · next q =>
          obtain ⟨g0, g1, g2⟩ := jq_ss_sm hS f (jq_sK sg n (jq_tt sg n 5 a).2.1 + 1) (by have := h4 (by omega); omega)
          refine ⟨g0, Nat.succ_le_succ g1, fun l z => ?_⟩
          rcases List.mem_cons.mp z with rfl | z
          · exact h9
          · exact g2 l z
        · exact ⟨⟨h2, h3⟩, Nat.zero_le _, fun l z => by simp at z⟩
    · exact ⟨h1, Nat.zero_le _, fun l z => by simp at z⟩
section MSS
variable {h : List jv_E} {rr lv cu n st a wr da ra wa : Int} {sg ta re te of le : Int → Int} {post : Option Value → List jv_E → Prop}
/-- the copying, from 158 on -/
theorem jt_copy {X : jv_M} {m mo a : Int} (K : Nat) (hq : jv_ret X (some .int) post) (hst : 0 ≤ st ∧ st ≤ 6) (o : jw_O h rr lv cu n st a wr da ra wa) (w5 : h[105]? = some (jv_ai 12 ta)) (w6 : h[106]? = some (jv_ai 60 re)) (w7 : h[107]? = some (jv_ai 120 te)) (w8 : h[108]? = some (jv_ai 480 of)) (w9 : h[109]? = some (jv_ai 480 le)) (hp : ∀ h', jw_O h' rr lv cu n st a wr da ra wa → h'[105]? = some (jv_ai 12 (jq_cp ta 6 6)) → h'[106]? = some (jv_ai 60 (jq_cp re 30 30)) → h'[107]? = some (jv_ai 120 (jq_cp te 60 60)) → h'[108]? = some (jv_ai 480 (jq_cp of 240 240)) → h'[109]? = some (jv_ai 480 (jq_cp le 240 240)) → jv_fs [97, 105, 106, 107, 108, 109] h h' → post (some (.int (jv_i st))) h') : jv_J X cX8_states RX8 (K + 4) 158 [some (.ref 97), some (.int (jv_i m)), some (.int (jv_i mo)), none] [] h := by
  have l4 : ∀ (f : Nat) (k : Int) (h1 : List jv_E), 0 ≤ k → k + f = 240 → jw_O h1 rr lv cu n st a wr da ra wa → h1[105]? = some (jv_ai 12 (jq_cp ta 6 6)) → h1[106]? = some (jv_ai 60 (jq_cp re 30 30)) → h1[107]? = some (jv_ai 120 (jq_cp te 60 60)) → h1[108]? = some (jv_ai 480 (jq_cp of 240 k)) → h1[109]? = some (jv_ai 480 (jq_cp le 240 k)) → jv_fs [97, 105, 106, 107, 108, 109] h h1 → jv_J X cX8_states RX8 (K + 4) 247 [some (.ref 97), some (.int (jv_i m)), some (.int (jv_i mo)), some (.int (jv_i k))] [] h1 := by
    intro f
    induction f with
    | zero =>
      intro k h1 h0 e o y5 y6 y7 y8 y9 fr
      obtain rfl : k = 240 := by omega
      have o9 := o
      unfold jw_O at o
      refine jv_iload_n dX8_states_247 rfl ?_
      refine jv_sipush dX8_states_248 ?_
      refine jv_icmp_ge 292 dX8_states_251 (fun c251 => ?_) (fun c251 => ?_)
      · refine jv_aload_n dX8_states_292 rfl ?_
        refine jv_getf dX8_states_293 jf_X8_149 (by repeat' (first | assumption | exact ⟨_, by assumption⟩ | refine jv_h1 (by decide) ?_ | refine jv_h0 ?_ | refine jv_h1 (by omega) ?_ | refine jv_hs ?_)) (by exact rfl) ?_
        exact jv_iret dX8_states_296 hq (hp h1 o9 y5 y6 y7 y8 y9 fr) (by first | rfl | decide)
      · exact absurd c251 (by omega)
    | succ f ih =>
      intro k h1 h0 e o y5 y6 y7 y8 y9 fr
      unfold jw_O at o
      have nx := ih (k + 1)
      rw [← jq_cp_s of ⟨h0, by omega⟩, ← jq_cp_s le ⟨h0, by omega⟩] at nx
      refine jv_iload_n dX8_states_247 rfl ?_
      refine jv_sipush dX8_states_248 ?_
      refine jv_icmp_ge 292 dX8_states_251 (fun c251 => ?_) (fun c251 => ?_)
      · exact absurd c251 (by omega)
      · refine jv_aload_n dX8_states_254 rfl ?_
        refine jv_getf dX8_states_255 jf_X8_40 (by repeat' (first | assumption | exact ⟨_, by assumption⟩ | refine jv_h1 (by decide) ?_ | refine jv_h0 ?_ | refine jv_h1 (by omega) ?_ | refine jv_hs ?_)) (by exact rfl) ?_
        refine jv_iload_n dX8_states_258 rfl ?_
        refine jv_aload_n dX8_states_259 rfl ?_
        refine jv_getf dX8_states_260 jf_X8_40 (by repeat' (first | assumption | exact ⟨_, by assumption⟩ | refine jv_h1 (by decide) ?_ | refine jv_h0 ?_ | refine jv_h1 (by omega) ?_ | refine jv_hs ?_)) (by exact rfl) ?_
        refine jv_sipush dX8_states_263 ?_
        refine jv_iload_n dX8_states_266 rfl ?_
        refine jv_iadd dX8_states_267 ?_
        refine jv_iald dX8_states_268 (by repeat' (first | assumption | exact ⟨_, by assumption⟩ | refine jv_h1 (by decide) ?_ | refine jv_h0 ?_ | refine jv_h1 (by omega) ?_ | refine jv_hs ?_)) ?_
        refine jv_iast dX8_states_269 (by repeat' (first | assumption | exact ⟨_, by assumption⟩ | refine jv_h1 (by decide) ?_ | refine jv_h0 ?_ | refine jv_h1 (by omega) ?_ | refine jv_hs ?_)) ?_
        refine jv_aload_n dX8_states_270 rfl ?_
        refine jv_getf dX8_states_271 jf_X8_43 (by repeat' (first | assumption | exact ⟨_, by assumption⟩ | refine jv_h1 (by decide) ?_ | refine jv_h0 ?_ | refine jv_h1 (by omega) ?_ | refine jv_hs ?_)) (by exact rfl) ?_
        refine jv_iload_n dX8_states_274 rfl ?_
        refine jv_aload_n dX8_states_275 rfl ?_
        refine jv_getf dX8_states_276 jf_X8_43 (by repeat' (first | assumption | exact ⟨_, by assumption⟩ | refine jv_h1 (by decide) ?_ | refine jv_h0 ?_ | refine jv_h1 (by omega) ?_ | refine jv_hs ?_)) (by exact rfl) ?_
        refine jv_sipush dX8_states_279 ?_
        refine jv_iload_n dX8_states_282 rfl ?_
        refine jv_iadd dX8_states_283 ?_
        refine jv_iald dX8_states_284 (by repeat' (first | assumption | exact ⟨_, by assumption⟩ | refine jv_h1 (by decide) ?_ | refine jv_h0 ?_ | refine jv_h1 (by omega) ?_ | refine jv_hs ?_)) ?_
        refine jv_iast dX8_states_285 (by repeat' (first | assumption | exact ⟨_, by assumption⟩ | refine jv_h1 (by decide) ?_ | refine jv_h0 ?_ | refine jv_h1 (by omega) ?_ | refine jv_hs ?_)) ?_
        refine jv_iinc dX8_states_286 rfl rfl ?_
        refine jv_goto 247 dX8_states_289 ?_
        exact nx _ (by omega) (by omega) (by repeat' (first | assumption | exact ⟨_, by assumption⟩ | refine jv_h1 (by decide) ?_ | refine jv_h0 ?_ | refine jv_h1 (by omega) ?_ | refine jv_hs ?_)) (by repeat' (first | assumption | exact ⟨_, by assumption⟩ | refine jv_h1 (by decide) ?_ | refine jv_h0 ?_ | refine jv_h1 (by omega) ?_ | refine jv_hs ?_)) (by repeat' (first | assumption | exact ⟨_, by assumption⟩ | refine jv_h1 (by decide) ?_ | refine jv_h0 ?_ | refine jv_h1 (by omega) ?_ | refine jv_hs ?_)) (by repeat' (first | assumption | exact ⟨_, by assumption⟩ | refine jv_h1 (by decide) ?_ | refine jv_h0 ?_ | refine jv_h1 (by omega) ?_ | refine jv_hs ?_)) (by repeat' (first | assumption | exact ⟨_, by assumption⟩ | refine jv_h1 (by decide) ?_ | refine jv_h0 ?_ | refine jv_h1 (by omega) ?_ | refine jv_hs ?_)) (by repeat' (first | assumption | exact ⟨_, by assumption⟩ | refine jv_h1 (by decide) ?_ | refine jv_h0 ?_ | refine jv_h1 (by omega) ?_ | refine jv_hs ?_)) (jv_fs_set (by decide) (jv_fs_set (by decide) fr))
  have l3 : ∀ (f : Nat) (k : Int) (h1 : List jv_E), 0 ≤ k → k + f = 60 → jw_O h1 rr lv cu n st a wr da ra wa → h1[105]? = some (jv_ai 12 (jq_cp ta 6 6)) → h1[106]? = some (jv_ai 60 (jq_cp re 30 30)) → h1[107]? = some (jv_ai 120 (jq_cp te 60 k)) → h1[108]? = some (jv_ai 480 of) → h1[109]? = some (jv_ai 480 le) → jv_fs [97, 105, 106, 107, 108, 109] h h1 → jv_J X cX8_states RX8 (K + 4) 218 [some (.ref 97), some (.int (jv_i m)), some (.int (jv_i mo)), some (.int (jv_i k))] [] h1 := by
    intro f
    induction f with
    | zero =>
      intro k h1 h0 e o y5 y6 y7 y8 y9 fr
      obtain rfl : k = 60 := by omega
      have ll := l4 240 0 h1 (by omega) (by omega) o y5 y6 y7 (by rw [jq_cp_0]; exact y8) (by rw [jq_cp_0]; exact y9) fr
      refine jv_iload_n dX8_states_218 rfl ?_
      refine jv_bipush dX8_states_219 ?_
      refine jv_icmp_ge 245 dX8_states_221 (fun c221 => ?_) (fun c221 => ?_)
      · refine jv_iconst dX8_states_245 ?_
        refine jv_istore_n dX8_states_246 rfl (Nat.le_of_ble_eq_true rfl) ?_
        exact ll
      · exact absurd c221 (by omega)
    | succ f ih =>
      intro k h1 h0 e o y5 y6 y7 y8 y9 fr
      unfold jw_O at o
      have nx := ih (k + 1)
      rw [← jq_cp_s te ⟨h0, by omega⟩] at nx
      refine jv_iload_n dX8_states_218 rfl ?_
      refine jv_bipush dX8_states_219 ?_
      refine jv_icmp_ge 245 dX8_states_221 (fun c221 => ?_) (fun c221 => ?_)
      · exact absurd c221 (by omega)
      · refine jv_aload_n dX8_states_224 rfl ?_
        refine jv_getf dX8_states_225 jf_X8_37 (by repeat' (first | assumption | exact ⟨_, by assumption⟩ | refine jv_h1 (by decide) ?_ | refine jv_h0 ?_ | refine jv_h1 (by omega) ?_ | refine jv_hs ?_)) (by exact rfl) ?_
        refine jv_iload_n dX8_states_228 rfl ?_
        refine jv_aload_n dX8_states_229 rfl ?_
        refine jv_getf dX8_states_230 jf_X8_37 (by repeat' (first | assumption | exact ⟨_, by assumption⟩ | refine jv_h1 (by decide) ?_ | refine jv_h0 ?_ | refine jv_h1 (by omega) ?_ | refine jv_hs ?_)) (by exact rfl) ?_
        refine jv_bipush dX8_states_233 ?_
        refine jv_iload_n dX8_states_235 rfl ?_
        refine jv_iadd dX8_states_236 ?_
        refine jv_iald dX8_states_237 (by repeat' (first | assumption | exact ⟨_, by assumption⟩ | refine jv_h1 (by decide) ?_ | refine jv_h0 ?_ | refine jv_h1 (by omega) ?_ | refine jv_hs ?_)) ?_
        refine jv_iast dX8_states_238 (by repeat' (first | assumption | exact ⟨_, by assumption⟩ | refine jv_h1 (by decide) ?_ | refine jv_h0 ?_ | refine jv_h1 (by omega) ?_ | refine jv_hs ?_)) ?_
        refine jv_iinc dX8_states_239 rfl rfl ?_
        refine jv_goto 218 dX8_states_242 ?_
        exact nx _ (by omega) (by omega) (by repeat' (first | assumption | exact ⟨_, by assumption⟩ | refine jv_h1 (by decide) ?_ | refine jv_h0 ?_ | refine jv_h1 (by omega) ?_ | refine jv_hs ?_)) (by repeat' (first | assumption | exact ⟨_, by assumption⟩ | refine jv_h1 (by decide) ?_ | refine jv_h0 ?_ | refine jv_h1 (by omega) ?_ | refine jv_hs ?_)) (by repeat' (first | assumption | exact ⟨_, by assumption⟩ | refine jv_h1 (by decide) ?_ | refine jv_h0 ?_ | refine jv_h1 (by omega) ?_ | refine jv_hs ?_)) (by repeat' (first | assumption | exact ⟨_, by assumption⟩ | refine jv_h1 (by decide) ?_ | refine jv_h0 ?_ | refine jv_h1 (by omega) ?_ | refine jv_hs ?_)) (by repeat' (first | assumption | exact ⟨_, by assumption⟩ | refine jv_h1 (by decide) ?_ | refine jv_h0 ?_ | refine jv_h1 (by omega) ?_ | refine jv_hs ?_)) (by repeat' (first | assumption | exact ⟨_, by assumption⟩ | refine jv_h1 (by decide) ?_ | refine jv_h0 ?_ | refine jv_h1 (by omega) ?_ | refine jv_hs ?_)) (jv_fs_set (by decide) fr)
  have l2 : ∀ (f : Nat) (k : Int) (h1 : List jv_E), 0 ≤ k → k + f = 30 → jw_O h1 rr lv cu n st a wr da ra wa → h1[105]? = some (jv_ai 12 (jq_cp ta 6 6)) → h1[106]? = some (jv_ai 60 (jq_cp re 30 k)) → h1[107]? = some (jv_ai 120 te) → h1[108]? = some (jv_ai 480 of) → h1[109]? = some (jv_ai 480 le) → jv_fs [97, 105, 106, 107, 108, 109] h h1 → jv_J X cX8_states RX8 (K + 4) 189 [some (.ref 97), some (.int (jv_i m)), some (.int (jv_i mo)), some (.int (jv_i k))] [] h1 := by
    intro f
    induction f with
    | zero =>
      intro k h1 h0 e o y5 y6 y7 y8 y9 fr
      obtain rfl : k = 30 := by omega
      have ll := l3 60 0 h1 (by omega) (by omega) o y5 y6 (by rw [jq_cp_0]; exact y7) y8 y9 fr
      refine jv_iload_n dX8_states_189 rfl ?_
      refine jv_bipush dX8_states_190 ?_
      refine jv_icmp_ge 216 dX8_states_192 (fun c192 => ?_) (fun c192 => ?_)
      · refine jv_iconst dX8_states_216 ?_
        refine jv_istore_n dX8_states_217 rfl (Nat.le_of_ble_eq_true rfl) ?_
        exact ll
      · exact absurd c192 (by omega)
    | succ f ih =>
      intro k h1 h0 e o y5 y6 y7 y8 y9 fr
      unfold jw_O at o
      have nx := ih (k + 1)
      rw [← jq_cp_s re ⟨h0, by omega⟩] at nx
      refine jv_iload_n dX8_states_189 rfl ?_
      refine jv_bipush dX8_states_190 ?_
      refine jv_icmp_ge 216 dX8_states_192 (fun c192 => ?_) (fun c192 => ?_)
      · exact absurd c192 (by omega)
      · refine jv_aload_n dX8_states_195 rfl ?_
        refine jv_getf dX8_states_196 jf_X8_34 (by repeat' (first | assumption | exact ⟨_, by assumption⟩ | refine jv_h1 (by decide) ?_ | refine jv_h0 ?_ | refine jv_h1 (by omega) ?_ | refine jv_hs ?_)) (by exact rfl) ?_
        refine jv_iload_n dX8_states_199 rfl ?_
        refine jv_aload_n dX8_states_200 rfl ?_
        refine jv_getf dX8_states_201 jf_X8_34 (by repeat' (first | assumption | exact ⟨_, by assumption⟩ | refine jv_h1 (by decide) ?_ | refine jv_h0 ?_ | refine jv_h1 (by omega) ?_ | refine jv_hs ?_)) (by exact rfl) ?_
        refine jv_bipush dX8_states_204 ?_
        refine jv_iload_n dX8_states_206 rfl ?_
        refine jv_iadd dX8_states_207 ?_
        refine jv_iald dX8_states_208 (by repeat' (first | assumption | exact ⟨_, by assumption⟩ | refine jv_h1 (by decide) ?_ | refine jv_h0 ?_ | refine jv_h1 (by omega) ?_ | refine jv_hs ?_)) ?_
        refine jv_iast dX8_states_209 (by repeat' (first | assumption | exact ⟨_, by assumption⟩ | refine jv_h1 (by decide) ?_ | refine jv_h0 ?_ | refine jv_h1 (by omega) ?_ | refine jv_hs ?_)) ?_
        refine jv_iinc dX8_states_210 rfl rfl ?_
        refine jv_goto 189 dX8_states_213 ?_
        exact nx _ (by omega) (by omega) (by repeat' (first | assumption | exact ⟨_, by assumption⟩ | refine jv_h1 (by decide) ?_ | refine jv_h0 ?_ | refine jv_h1 (by omega) ?_ | refine jv_hs ?_)) (by repeat' (first | assumption | exact ⟨_, by assumption⟩ | refine jv_h1 (by decide) ?_ | refine jv_h0 ?_ | refine jv_h1 (by omega) ?_ | refine jv_hs ?_)) (by repeat' (first | assumption | exact ⟨_, by assumption⟩ | refine jv_h1 (by decide) ?_ | refine jv_h0 ?_ | refine jv_h1 (by omega) ?_ | refine jv_hs ?_)) (by repeat' (first | assumption | exact ⟨_, by assumption⟩ | refine jv_h1 (by decide) ?_ | refine jv_h0 ?_ | refine jv_h1 (by omega) ?_ | refine jv_hs ?_)) (by repeat' (first | assumption | exact ⟨_, by assumption⟩ | refine jv_h1 (by decide) ?_ | refine jv_h0 ?_ | refine jv_h1 (by omega) ?_ | refine jv_hs ?_)) (by repeat' (first | assumption | exact ⟨_, by assumption⟩ | refine jv_h1 (by decide) ?_ | refine jv_h0 ?_ | refine jv_h1 (by omega) ?_ | refine jv_hs ?_)) (jv_fs_set (by decide) fr)
  have l1 : ∀ (f : Nat) (k : Int) (h1 : List jv_E), 0 ≤ k → k + f = 6 → jw_O h1 rr lv cu n st a wr da ra wa → h1[105]? = some (jv_ai 12 (jq_cp ta 6 k)) → h1[106]? = some (jv_ai 60 re) → h1[107]? = some (jv_ai 120 te) → h1[108]? = some (jv_ai 480 of) → h1[109]? = some (jv_ai 480 le) → jv_fs [97, 105, 106, 107, 108, 109] h h1 → jv_J X cX8_states RX8 (K + 4) 160 [some (.ref 97), some (.int (jv_i m)), some (.int (jv_i mo)), some (.int (jv_i k))] [] h1 := by
    intro f
    induction f with
    | zero =>
      intro k h1 h0 e o y5 y6 y7 y8 y9 fr
      obtain rfl : k = 6 := by omega
      have ll := l2 30 0 h1 (by omega) (by omega) o y5 (by rw [jq_cp_0]; exact y6) y7 y8 y9 fr
      refine jv_iload_n dX8_states_160 rfl ?_
      refine jv_bipush dX8_states_161 ?_
      refine jv_icmp_ge 187 dX8_states_163 (fun c163 => ?_) (fun c163 => ?_)
      · refine jv_iconst dX8_states_187 ?_
        refine jv_istore_n dX8_states_188 rfl (Nat.le_of_ble_eq_true rfl) ?_
        exact ll
      · exact absurd c163 (by omega)
    | succ f ih =>
      intro k h1 h0 e o y5 y6 y7 y8 y9 fr
      unfold jw_O at o
      have nx := ih (k + 1)
      rw [← jq_cp_s ta ⟨h0, by omega⟩] at nx
      refine jv_iload_n dX8_states_160 rfl ?_
      refine jv_bipush dX8_states_161 ?_
      refine jv_icmp_ge 187 dX8_states_163 (fun c163 => ?_) (fun c163 => ?_)
      · exact absurd c163 (by omega)
      · refine jv_aload_n dX8_states_166 rfl ?_
        refine jv_getf dX8_states_167 jf_X8_31 (by repeat' (first | assumption | exact ⟨_, by assumption⟩ | refine jv_h1 (by decide) ?_ | refine jv_h0 ?_ | refine jv_h1 (by omega) ?_ | refine jv_hs ?_)) (by exact rfl) ?_
        refine jv_iload_n dX8_states_170 rfl ?_
        refine jv_aload_n dX8_states_171 rfl ?_
        refine jv_getf dX8_states_172 jf_X8_31 (by repeat' (first | assumption | exact ⟨_, by assumption⟩ | refine jv_h1 (by decide) ?_ | refine jv_h0 ?_ | refine jv_h1 (by omega) ?_ | refine jv_hs ?_)) (by exact rfl) ?_
        refine jv_bipush dX8_states_175 ?_
        refine jv_iload_n dX8_states_177 rfl ?_
        refine jv_iadd dX8_states_178 ?_
        refine jv_iald dX8_states_179 (by repeat' (first | assumption | exact ⟨_, by assumption⟩ | refine jv_h1 (by decide) ?_ | refine jv_h0 ?_ | refine jv_h1 (by omega) ?_ | refine jv_hs ?_)) ?_
        refine jv_iast dX8_states_180 (by repeat' (first | assumption | exact ⟨_, by assumption⟩ | refine jv_h1 (by decide) ?_ | refine jv_h0 ?_ | refine jv_h1 (by omega) ?_ | refine jv_hs ?_)) ?_
        refine jv_iinc dX8_states_181 rfl rfl ?_
        refine jv_goto 160 dX8_states_184 ?_
        exact nx _ (by omega) (by omega) (by repeat' (first | assumption | exact ⟨_, by assumption⟩ | refine jv_h1 (by decide) ?_ | refine jv_h0 ?_ | refine jv_h1 (by omega) ?_ | refine jv_hs ?_)) (by repeat' (first | assumption | exact ⟨_, by assumption⟩ | refine jv_h1 (by decide) ?_ | refine jv_h0 ?_ | refine jv_h1 (by omega) ?_ | refine jv_hs ?_)) (by repeat' (first | assumption | exact ⟨_, by assumption⟩ | refine jv_h1 (by decide) ?_ | refine jv_h0 ?_ | refine jv_h1 (by omega) ?_ | refine jv_hs ?_)) (by repeat' (first | assumption | exact ⟨_, by assumption⟩ | refine jv_h1 (by decide) ?_ | refine jv_h0 ?_ | refine jv_h1 (by omega) ?_ | refine jv_hs ?_)) (by repeat' (first | assumption | exact ⟨_, by assumption⟩ | refine jv_h1 (by decide) ?_ | refine jv_h0 ?_ | refine jv_h1 (by omega) ?_ | refine jv_hs ?_)) (by repeat' (first | assumption | exact ⟨_, by assumption⟩ | refine jv_h1 (by decide) ?_ | refine jv_h0 ?_ | refine jv_h1 (by omega) ?_ | refine jv_hs ?_)) (jv_fs_set (by decide) fr)
  have ll := l1 6 0 h (by omega) (by omega) o (by rw [jq_cp_0]; exact w5) w6 w7 w8 w9 jv_fs_rf
  refine jv_iconst dX8_states_158 ?_
  refine jv_istore_n dX8_states_159 rfl (Nat.le_of_ble_eq_true rfl) ?_
  exact ll
end MSS
