/-! StateRows.narrowByTest, findSpans -/
theorem jq_mb {a b A B : Int} (ha : -A ≤ a ∧ a ≤ A) (hb : -B ≤ b ∧ b ≤ B) : -(A * B) ≤ a * b ∧ a * b ≤ A * B := by
  have hA : 0 ≤ A := by omega
  have hB : 0 ≤ B := by omega
  by_cases h : 0 ≤ a
  · have h1 : a * b ≤ a * B := Int.mul_le_mul_of_nonneg_left hb.2 h
    have h2 : a * B ≤ A * B := Int.mul_le_mul_of_nonneg_right ha.2 hB
    have h3 : a * (-B) ≤ a * b := Int.mul_le_mul_of_nonneg_left hb.1 h
    rw [Int.mul_neg] at h3
    omega
  · have h0 : 0 ≤ -a := by omega
    have h1 : -a * b ≤ -a * B := Int.mul_le_mul_of_nonneg_left hb.2 h0
    have h2 : -a * B ≤ A * B := Int.mul_le_mul_of_nonneg_right (by omega) hB
    have h3 : -a * (-B) ≤ -a * b := Int.mul_le_mul_of_nonneg_left hb.1 h0
    rw [Int.mul_neg] at h3
    rw [Int.neg_mul] at h1 h2 h3
    rw [Int.neg_mul] at h1 h3
    omega
def jq_x (va : Int → Int) (y : Int) : Int → Int := fun i => if i = 0 then y else va i
def jq_r7 (r va : Int → Int) : Nat → Int
  | 0 => 0
  | k + 1 => jq_r7 r va k + r (k + 1 : Int) * va (k + 1 : Int)
theorem jq_r7_d (r va : Int → Int) (y : Int) : jq_dot r (jq_x va y) = r 0 * y + jq_r7 r va 7 := by
  simp [jq_dot, jq_x, jq_r7]
  omega
theorem jq_r7_in {r va : Int → Int} (hr : jq_bd r 800000) (hv : ∀ c : Int, 1 ≤ c → c < 8 → -100000 ≤ va c ∧ va c ≤ 100000) : ∀ k : Nat, k ≤ 7 → -(80000000000 * k) ≤ jq_r7 r va k ∧ jq_r7 r va k ≤ 80000000000 * k
  | 0, _ => by simp [jq_r7]
  | k + 1, hk => by
    have h1 := jq_r7_in hr hv k (by omega)
    have h2 := jq_mb (hr (k + 1 : Int) (by omega) (by omega)) (hv (k + 1 : Int) (by omega) (by omega))
    rw [jq_r7]
    generalize r (k + 1 : Int) * va (k + 1 : Int) = z at *
    omega
/-- a test holds: its relation c, left less right d -/
def jq_ho (c d : Int) : Prop := (c = 60 ∧ d < 0) ∨ (c = 62 ∧ 0 < d) ∨ (c = 61 ∧ d = 0)
section NB
variable {h : List jv_E} {p u t : Nat} {en rl lo hi va : Int → Int} {F : Int → Int → Int} {post : Option Value → List jv_E → Prop}
theorem ct_X6_narrowByTest {s : Int} {g : Nat} (K : Nat) (hp17 : 17 ≤ p) (w : jw_T h p u t en rl lo hi F) (wv : h[14]? = some (jv_ai 8 va)) (hs : 0 ≤ s ∧ s < 6) (hg : g < 30) (hr : 0 ≤ rl g ∧ rl g ≤ 126) (hb : (0 ≤ lo s ∧ lo s ≤ 10000000000000) ∧ (-10000000000000 ≤ hi s ∧ hi s ≤ 10000000000000)) (hF : jq_bd (F g) 800000) (hv : ∀ c : Int, 1 ≤ c → c < 8 → -100000 ≤ va c ∧ va c ≤ 100000) (hp : ∀ h' lo' hi', jw_T h' p u t en rl lo' hi' F → (∀ j, j ≠ s → lo' j = lo j ∧ hi' j = hi j) → (0 ≤ lo' s ∧ lo' s ≤ 10000000000000) ∧ (-10000000000000 ≤ hi' s ∧ hi' s ≤ 10000000000000) → (∀ y, (lo' s ≤ y ∧ y ≤ hi' s) ↔ ((lo s ≤ y ∧ y ≤ hi s) ∧ jq_ho (rl g) (jq_dot (F g) (jq_x va y)))) → jv_fr p (p + 35) h h' → post none h') : jv_Ct yX6_narrowByTest cX6_narrowByTest 11 none (K + 2) [.ref p, .int (jv_i s), .int (jv_i g), .ref 14] h post := by
  have w0 := w
  obtain ⟨w1, w2, w3, w4, w5, w6, w7⟩ := w
  have rw0 : h[p + 4 + (g : Int).toNat]? = some (jv_ai 8 (F g)) := w7 g hg
  have hF0 := hF 0 (by omega) (by omega)
  have h7 := jq_r7_in hF hv 7 (by omega)
  simp only [jq_r7_d] at hp
  refine jv_entry (own := RX6) (by decide) rfl (Nat.le_of_ble_eq_true rfl) (fun X hq => ?_)
  have tail : ∀ (v : Option Value), jv_J X cX6_narrowByTest RX6 (K + 2) 58 [some (.ref p), some (.int (jv_i s)), some (.int (jv_i g)), some (.ref 14), some (.long (jv_l (F g 0))), none, some (.long (jv_l (jq_r7 (F g) va 7))), none, v, none, none] [] h := by
    intro v
    generalize jq_r7 (F g) va 7 = R at *
    refine jv_les (L' := [some (.ref p), some (.int (jv_i s)), some (.int (jv_i g)), some (.ref 14), some (.long (jv_l (F g 0))), none, some (.long (jv_l R)), none, none, none, none]) (by repeat' (first | exact True.intro | exact rfl | apply And.intro)) ?_
    refine jv_aload_n dX6_narrowByTest_58 rfl ?_
    refine jv_getf dX6_narrowByTest_59 jf_X6_15 (by repeat' (first | assumption | exact ⟨_, by assumption⟩ | refine jv_h1 (by decide) ?_ | refine jv_h0 ?_ | refine jv_h1 (by omega) ?_ | refine jv_hs ?_)) (by exact rfl) ?_
    refine jv_iload_n dX6_narrowByTest_62 rfl ?_
    refine jv_cald dX6_narrowByTest_63 (by repeat' (first | assumption | exact ⟨_, by assumption⟩ | refine jv_h1 (by decide) ?_ | refine jv_h0 ?_ | refine jv_h1 (by omega) ?_ | refine jv_hs ?_)) ?_
    refine jv_istore dX6_narrowByTest_64 rfl (Nat.le_of_ble_eq_true rfl) ?_
    refine jv_iload dX6_narrowByTest_66 rfl ?_
    refine jv_bipush dX6_narrowByTest_68 ?_
    refine jv_icmp_ne 77 dX6_narrowByTest_70 (fun c70 => ?_) (fun c70 => ?_)
    · refine jv_ldc2 dX6_narrowByTest_77 jk_X6_44 ?_
      refine jv_lstore dX6_narrowByTest_80 rfl (Nat.le_of_ble_eq_true rfl) ?_
      refine jv_iload dX6_narrowByTest_82 rfl ?_
      refine jv_bipush dX6_narrowByTest_84 ?_
      refine jv_icmp_eq 101 dX6_narrowByTest_86 (fun c86 => ?_) (fun c86 => ?_)
      · refine jv_iload dX6_narrowByTest_101 rfl ?_
        refine jv_bipush dX6_narrowByTest_103 ?_
        refine jv_icmp_eq 121 dX6_narrowByTest_105 (fun c105 => ?_) (fun c105 => ?_)
        · exact absurd c86 (by omega)
        · refine jv_aload_n dX6_narrowByTest_108 rfl ?_
          refine jv_iload_n dX6_narrowByTest_109 rfl ?_
          refine jv_lload dX6_narrowByTest_110 rfl ?_
          refine jv_lneg dX6_narrowByTest_112 ?_
          refine jv_lload dX6_narrowByTest_113 rfl ?_
          refine jv_lload dX6_narrowByTest_115 rfl ?_
          refine jv_ladd dX6_narrowByTest_117 ?_
          refine jv_cV dX6_narrowByTest_118 jm_X6_46 rfl (by repeat' (first | assumption | exact ⟨_, by assumption⟩ | refine jv_h1 (by decide) ?_ | refine jv_h0 ?_ | refine jv_h1 (by omega) ?_ | refine jv_hs ?_)) rfl (ct_X6_narrow K w0 hs hb (by omega) (by omega) (fun h3 lo3 hi3 w3' k3 b3 i3 f3 => ?_))
          exact jv_vret dX6_narrowByTest_121 hq (hp h3 lo3 hi3 w3' k3 b3 (fun y => by rw [i3 y, Int.neg_mul]; unfold jq_ho; omega) f3)
      · refine jv_aload_n dX6_narrowByTest_89 rfl ?_
        refine jv_iload_n dX6_narrowByTest_90 rfl ?_
        refine jv_lload dX6_narrowByTest_91 rfl ?_
        refine jv_lload dX6_narrowByTest_93 rfl ?_
        refine jv_lload dX6_narrowByTest_95 rfl ?_
        refine jv_lsub dX6_narrowByTest_97 ?_
        refine jv_cV dX6_narrowByTest_98 jm_X6_46 rfl (by repeat' (first | assumption | exact ⟨_, by assumption⟩ | refine jv_h1 (by decide) ?_ | refine jv_h0 ?_ | refine jv_h1 (by omega) ?_ | refine jv_hs ?_)) rfl (ct_X6_narrow K w0 hs hb (by omega) (by omega) (fun h2 lo2 hi2 w2' k2 b2 i2 f2 => ?_))
        have v1 := w2'.1
        refine jv_iload dX6_narrowByTest_101 rfl ?_
        refine jv_bipush dX6_narrowByTest_103 ?_
        refine jv_icmp_eq 121 dX6_narrowByTest_105 (fun c105 => ?_) (fun c105 => ?_)
        · exact jv_vret dX6_narrowByTest_121 hq (hp h2 lo2 hi2 w2' k2 b2 (fun y => by rw [i2 y]; unfold jq_ho; omega) f2)
        · refine jv_aload_n dX6_narrowByTest_108 rfl ?_
          refine jv_iload_n dX6_narrowByTest_109 rfl ?_
          refine jv_lload dX6_narrowByTest_110 rfl ?_
          refine jv_lneg dX6_narrowByTest_112 ?_
          refine jv_lload dX6_narrowByTest_113 rfl ?_
          refine jv_lload dX6_narrowByTest_115 rfl ?_
          refine jv_ladd dX6_narrowByTest_117 ?_
          refine jv_cV dX6_narrowByTest_118 jm_X6_46 rfl (by repeat' (first | assumption | exact ⟨_, by assumption⟩ | refine jv_h1 (by decide) ?_ | refine jv_h0 ?_ | refine jv_h1 (by omega) ?_ | refine jv_hs ?_)) rfl (ct_X6_narrow K w2' hs b2 (by omega) (by omega) (fun h3 lo3 hi3 w3' k3 b3 i3 f3 => ?_))
          exact jv_vret dX6_narrowByTest_121 hq (hp h3 lo3 hi3 w3' (fun j e => by rw [(k3 j e).1, (k3 j e).2]; exact k2 j e) b3 (fun y => by rw [i3 y, i2 y, Int.neg_mul]; unfold jq_ho; omega) (fun i z => (f3 i z).trans (f2 i z)))
    · refine jv_lconst 0 dX6_narrowByTest_73 ?_
      refine jv_goto 80 dX6_narrowByTest_74 ?_
      refine jv_lstore dX6_narrowByTest_80 rfl (Nat.le_of_ble_eq_true rfl) ?_
      refine jv_iload dX6_narrowByTest_82 rfl ?_
      refine jv_bipush dX6_narrowByTest_84 ?_
      refine jv_icmp_eq 101 dX6_narrowByTest_86 (fun c86 => ?_) (fun c86 => ?_)
      · exact absurd c86 (by omega)
      · refine jv_aload_n dX6_narrowByTest_89 rfl ?_
        refine jv_iload_n dX6_narrowByTest_90 rfl ?_
        refine jv_lload dX6_narrowByTest_91 rfl ?_
        refine jv_lload dX6_narrowByTest_93 rfl ?_
        refine jv_lload dX6_narrowByTest_95 rfl ?_
        refine jv_lsub dX6_narrowByTest_97 ?_
        refine jv_cV dX6_narrowByTest_98 jm_X6_46 rfl (by repeat' (first | assumption | exact ⟨_, by assumption⟩ | refine jv_h1 (by decide) ?_ | refine jv_h0 ?_ | refine jv_h1 (by omega) ?_ | refine jv_hs ?_)) rfl (ct_X6_narrow K w0 hs hb (by omega) (by omega) (fun h2 lo2 hi2 w2' k2 b2 i2 f2 => ?_))
        have v1 := w2'.1
        refine jv_iload dX6_narrowByTest_101 rfl ?_
        refine jv_bipush dX6_narrowByTest_103 ?_
        refine jv_icmp_eq 121 dX6_narrowByTest_105 (fun c105 => ?_) (fun c105 => ?_)
        · exact jv_vret dX6_narrowByTest_121 hq (hp h2 lo2 hi2 w2' k2 b2 (fun y => by rw [i2 y]; unfold jq_ho; omega) f2)
        · refine jv_aload_n dX6_narrowByTest_108 rfl ?_
          refine jv_iload_n dX6_narrowByTest_109 rfl ?_
          refine jv_lload dX6_narrowByTest_110 rfl ?_
          refine jv_lneg dX6_narrowByTest_112 ?_
          refine jv_lload dX6_narrowByTest_113 rfl ?_
          refine jv_lload dX6_narrowByTest_115 rfl ?_
          refine jv_ladd dX6_narrowByTest_117 ?_
          refine jv_cV dX6_narrowByTest_118 jm_X6_46 rfl (by repeat' (first | assumption | exact ⟨_, by assumption⟩ | refine jv_h1 (by decide) ?_ | refine jv_h0 ?_ | refine jv_h1 (by omega) ?_ | refine jv_hs ?_)) rfl (ct_X6_narrow K w2' hs b2 (by omega) (by omega) (fun h3 lo3 hi3 w3' k3 b3 i3 f3 => ?_))
          exact jv_vret dX6_narrowByTest_121 hq (hp h3 lo3 hi3 w3' (fun j e => by rw [(k3 j e).1, (k3 j e).2]; exact k2 j e) b3 (fun y => by rw [i3 y, i2 y, Int.neg_mul]; unfold jq_ho; omega) (fun i z => (f3 i z).trans (f2 i z)))
  have loop : ∀ (f k : Nat), k + f = 7 → jv_J X cX6_narrowByTest RX6 (K + 2) 17 [some (.ref p), some (.int (jv_i s)), some (.int (jv_i g)), some (.ref 14), some (.long (jv_l (F g 0))), none, some (.long (jv_l (jq_r7 (F g) va k))), none, some (.int (jv_i (k + 1 : Int))), none, none] [] h := by
    intro f
    induction f with
    | zero =>
      intro k e
      obtain rfl : k = 7 := by omega
      refine jv_iload dX6_narrowByTest_17 rfl ?_
      refine jv_bipush dX6_narrowByTest_19 ?_
      refine jv_icmp_ge 58 dX6_narrowByTest_21 (fun c21 => ?_) (fun c21 => ?_)
      · exact tail _
      · exact absurd c21 (by omega)
    | succ f ih =>
      intro k e
      have nx := ih (k + 1) (by omega)
      rw [jq_r7] at nx
      have f1 := hF (k + 1 : Int) (by omega) (by omega)
      have f2 := hv (k + 1 : Int) (by omega) (by omega)
      refine jv_iload dX6_narrowByTest_17 rfl ?_
      refine jv_bipush dX6_narrowByTest_19 ?_
      refine jv_icmp_ge 58 dX6_narrowByTest_21 (fun c21 => ?_) (fun c21 => ?_)
      · exact absurd c21 (by omega)
      · refine jv_iload dX6_narrowByTest_24 rfl ?_
        refine jv_aload_n dX6_narrowByTest_26 rfl ?_
        refine jv_alen_i dX6_narrowByTest_27 (by repeat' (first | assumption | exact ⟨_, by assumption⟩ | refine jv_h1 (by decide) ?_ | refine jv_h0 ?_ | refine jv_h1 (by omega) ?_ | refine jv_hs ?_)) ?_
        refine jv_icmp_ge 58 dX6_narrowByTest_28 (fun c28 => ?_) (fun c28 => ?_)
        · exact absurd c28 (by omega)
        · refine jv_lload dX6_narrowByTest_31 rfl ?_
          refine jv_aload_n dX6_narrowByTest_33 rfl ?_
          refine jv_getf dX6_narrowByTest_34 jf_X6_21 (by repeat' (first | assumption | exact ⟨_, by assumption⟩ | refine jv_h1 (by decide) ?_ | refine jv_h0 ?_ | refine jv_h1 (by omega) ?_ | refine jv_hs ?_)) (by exact rfl) ?_
          refine jv_iload_n dX6_narrowByTest_37 rfl ?_
          refine jv_aald dX6_narrowByTest_38 (by repeat' (first | assumption | exact ⟨_, by assumption⟩ | refine jv_h1 (by decide) ?_ | refine jv_h0 ?_ | refine jv_h1 (by omega) ?_ | refine jv_hs ?_)) ?_
          refine jv_iload dX6_narrowByTest_39 rfl ?_
          refine jv_iald dX6_narrowByTest_41 (by repeat' (first | assumption | exact ⟨_, by assumption⟩ | refine jv_h1 (by decide) ?_ | refine jv_h0 ?_ | refine jv_h1 (by omega) ?_ | refine jv_hs ?_)) ?_
          refine jv_i2l dX6_narrowByTest_42 ?_
          refine jv_aload_n dX6_narrowByTest_43 rfl ?_
          refine jv_iload dX6_narrowByTest_44 rfl ?_
          refine jv_iald dX6_narrowByTest_46 (by repeat' (first | assumption | exact ⟨_, by assumption⟩ | refine jv_h1 (by decide) ?_ | refine jv_h0 ?_ | refine jv_h1 (by omega) ?_ | refine jv_hs ?_)) ?_
          refine jv_i2l dX6_narrowByTest_47 ?_
          refine jv_lmul dX6_narrowByTest_48 ?_
          refine jv_ladd dX6_narrowByTest_49 ?_
          refine jv_lstore dX6_narrowByTest_50 rfl (Nat.le_of_ble_eq_true rfl) ?_
          refine jv_iinc dX6_narrowByTest_52 rfl rfl ?_
          refine jv_goto 17 dX6_narrowByTest_55 ?_
          exact nx
  refine jv_aload_n dX6_narrowByTest_0 rfl ?_
  refine jv_getf dX6_narrowByTest_1 jf_X6_21 (by repeat' (first | assumption | exact ⟨_, by assumption⟩ | refine jv_h1 (by decide) ?_ | refine jv_h0 ?_ | refine jv_h1 (by omega) ?_ | refine jv_hs ?_)) (by exact rfl) ?_
  refine jv_iload_n dX6_narrowByTest_4 rfl ?_
  refine jv_aald dX6_narrowByTest_5 (by repeat' (first | assumption | exact ⟨_, by assumption⟩ | refine jv_h1 (by decide) ?_ | refine jv_h0 ?_ | refine jv_h1 (by omega) ?_ | refine jv_hs ?_)) ?_
  refine jv_iconst dX6_narrowByTest_6 ?_
  refine jv_iald dX6_narrowByTest_7 (by repeat' (first | assumption | exact ⟨_, by assumption⟩ | refine jv_h1 (by decide) ?_ | refine jv_h0 ?_ | refine jv_h1 (by omega) ?_ | refine jv_hs ?_)) ?_
  refine jv_i2l dX6_narrowByTest_8 ?_
  refine jv_lstore dX6_narrowByTest_9 rfl (Nat.le_of_ble_eq_true rfl) ?_
  refine jv_lconst 0 dX6_narrowByTest_11 ?_
  refine jv_lstore dX6_narrowByTest_12 rfl (Nat.le_of_ble_eq_true rfl) ?_
  refine jv_iconst dX6_narrowByTest_14 ?_
  refine jv_istore dX6_narrowByTest_15 rfl (Nat.le_of_ble_eq_true rfl) ?_
  exact loop 7 0 (by omega)
end NB
