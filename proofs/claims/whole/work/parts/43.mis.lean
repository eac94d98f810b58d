/-! the reference's isIn, state, head -/
def jq_hd (x : Int → Int) (T : (Int × List (Int × Int) × List (Int × Int))) : Prop := jq_ho T.1 (jq_ev x T.2.1 - jq_ev x T.2.2)
def jq_hl (x : Int → Int) (l : List (Int × List (Int × Int) × List (Int × Int))) : Prop := ∀ T ∈ l, jq_hd x T
def jq_Ps (R : List (List (Int × List (Int × Int) × List (Int × Int)))) (x : Int → Int) (s : Nat) : Prop := ∃ l, R[s]? = some l ∧ jq_hl x l
def jq_gR (R : List (List (Int × List (Int × Int) × List (Int × Int)))) : Prop := R.length ≤ 6 ∧ ∀ l ∈ R, l.length ≤ 5 ∧ ∀ T ∈ l, jq_gT T
theorem jq_MT_c {b : Int} {T : (Int × List (Int × Int) × List (Int × Int))} {l : List (Int × List (Int × Int) × List (Int × Int))} {re te of le : Int → Int} (h : jq_MT b (T :: l) re te of le) : jq_M1 b T re te of le ∧ jq_MT (b + 1) l re te of le := by
  have h0 := h 0 T rfl
  rw [show b + ((0 : Nat) : Int) = b by omega] at h0
  refine ⟨h0, fun j r z => ?_⟩
  have := h (j + 1) r z
  rwa [show b + ((j + 1 : Nat) : Int) = b + 1 + j by omega] at this
theorem jq_hl_c {x : Int → Int} {T : (Int × List (Int × Int) × List (Int × Int))} {l : List (Int × List (Int × Int) × List (Int × Int))} : jq_hl x (T :: l) ↔ jq_hd x T ∧ jq_hl x l := by
  unfold jq_hl
  simp
section MIS
variable {h : List jv_E} {n : Nat} {rr lv si a wr da ra wa : Int} {me ta re te of le : Int → Int} {R : List (List (Int × List (Int × Int) × List (Int × Int)))} {post : Option Value → List jv_E → Prop}
theorem ct_X8_isIn {s : Nat} {c y t q : Int} (K : Nat) (o : jw_O h rr lv n si R.length a wr da ra wa) (w3 : h[103]? = some (jv_ai 32 me)) (w5 : h[105]? = some (jv_ai 12 ta)) (w6 : h[106]? = some (jv_ai 60 re)) (w7 : h[107]? = some (jv_ai 120 te)) (w8 : h[108]? = some (jv_ai 480 of)) (w9 : h[109]? = some (jv_ai 480 le)) (ms : jq_MS 0 R ta re te of le) (hR : jq_gR R) (hm : jq_gm me) (hs : s < R.length) (hc : 0 ≤ c ∧ c < 8) (hy : 0 ≤ y ∧ y ≤ 20000) (ht : 0 ≤ t ∧ t ≤ 20000) (hqq : 0 ≤ q ∧ q ≤ 20000) (hp : ∀ r : Int, (r = 1 ↔ jq_Ps R (jq_xm me c t q y) s) → 0 ≤ r ∧ r ≤ 1 → post (some (.int (jv_i r))) h) : jv_Ct yX8_isIn cX8_isIn 13 (some .boolean) (K + 1) [.ref 97, .int (jv_i s), .int (jv_i c), .int (jv_i y), .int (jv_i t), .int (jv_i q)] h post := by
  have o9 := o
  have hR6 := hR.1
  unfold jw_O at o
  obtain ⟨l, hl⟩ : ∃ l, R[s]? = some l := ⟨_, List.getElem?_eq_getElem hs⟩
  obtain ⟨m1, m2⟩ := ms s l hl
  rw [Int.zero_add] at m1 m2
  obtain ⟨g1, g2⟩ := hR.2 l (List.mem_of_getElem? hl)
  have hp2 : ∀ r : Int, (r = 1 ↔ jq_hl (jq_xm me c t q y) l) → 0 ≤ r ∧ r ≤ 1 → post (some (.int (jv_i r))) h := fun r z => hp r (z.trans ⟨fun q => ⟨l, hl, q⟩, fun ⟨l', z1, z2⟩ => by rw [hl] at z1; cases z1; exact z2⟩)
  have xin := jq_xm_in (c := c) hm ht hqq hy
  refine jv_entry (own := RX8) (by decide) rfl (Nat.le_of_ble_eq_true rfl) (fun X hq => ?_)
  have out : ∀ k : Int, 0 ≤ k ∧ k ≤ 10 → ¬ jq_hl (jq_xm me c t q y) l → jv_J X cX8_isIn RX8 (K + 1) 6 [some (.ref 97), some (.int (jv_i s)), some (.int (jv_i c)), some (.int (jv_i y)), some (.int (jv_i t)), some (.int (jv_i q)), some (.int (jv_i 0)), some (.int (jv_i k)), none, none, none, none, none] [] h := by
    intro k hk hn
    refine jv_iload dX8_isIn_6 rfl ?_
    refine jv_aload_n dX8_isIn_8 rfl ?_
    refine jv_getf dX8_isIn_9 jf_X8_31 (by repeat' (first | assumption | exact ⟨_, by assumption⟩ | refine jv_h1 (by decide) ?_ | refine jv_h0 ?_ | refine jv_h1 (by omega) ?_ | refine jv_hs ?_)) (by exact rfl) ?_
    refine jv_iload_n dX8_isIn_12 rfl ?_
    refine jv_iald dX8_isIn_13 (by repeat' (first | assumption | exact ⟨_, by assumption⟩ | refine jv_h1 (by decide) ?_ | refine jv_h0 ?_ | refine jv_h1 (by omega) ?_ | refine jv_hs ?_)) ?_
    refine jv_icmp_ge 141 dX8_isIn_14 (fun c14 => ?_) (fun c14 => ?_)
    · refine jv_iload dX8_isIn_141 rfl ?_
      exact jv_iret dX8_isIn_143 hq (hp2 0 ⟨fun z => by omega, fun z => absurd z hn⟩ (by omega)) (by first | rfl | decide)
    · refine jv_iload dX8_isIn_17 rfl ?_
      refine jv_if_eq 141 dX8_isIn_19 (fun c19 => ?_) (fun c19 => ?_)
      · refine jv_iload dX8_isIn_141 rfl ?_
        exact jv_iret dX8_isIn_143 hq (hp2 0 ⟨fun z => by omega, fun z => absurd z hn⟩ (by omega)) (by first | rfl | decide)
      · exact absurd rfl c19
  have loop : ∀ (l2 : List (Int × List (Int × Int) × List (Int × Int))) (k : Int), 0 ≤ k → k + l2.length = l.length → jq_MT (5 * s + k) l2 re te of le → (∀ T ∈ l2, jq_gT T) → (jq_hl (jq_xm me c t q y) l ↔ jq_hl (jq_xm me c t q y) l2) → jv_J X cX8_isIn RX8 (K + 1) 6 [some (.ref 97), some (.int (jv_i s)), some (.int (jv_i c)), some (.int (jv_i y)), some (.int (jv_i t)), some (.int (jv_i q)), some (.int (jv_i 1)), some (.int (jv_i k)), none, none, none, none, none] [] h := by
    intro l2
    induction l2 with
    | nil =>
      intro k h0 e em g ev
      rw [List.length_nil] at e
      refine jv_iload dX8_isIn_6 rfl ?_
      refine jv_aload_n dX8_isIn_8 rfl ?_
      refine jv_getf dX8_isIn_9 jf_X8_31 (by repeat' (first | assumption | exact ⟨_, by assumption⟩ | refine jv_h1 (by decide) ?_ | refine jv_h0 ?_ | refine jv_h1 (by omega) ?_ | refine jv_hs ?_)) (by exact rfl) ?_
      refine jv_iload_n dX8_isIn_12 rfl ?_
      refine jv_iald dX8_isIn_13 (by repeat' (first | assumption | exact ⟨_, by assumption⟩ | refine jv_h1 (by decide) ?_ | refine jv_h0 ?_ | refine jv_h1 (by omega) ?_ | refine jv_hs ?_)) ?_
      refine jv_icmp_ge 141 dX8_isIn_14 (fun c14 => ?_) (fun c14 => ?_)
      · refine jv_iload dX8_isIn_141 rfl ?_
        exact jv_iret dX8_isIn_143 hq (hp2 1 ⟨fun _ => ev.mpr (fun T z => by simp at z), fun _ => rfl⟩ (by omega)) (by decide)
      · exact absurd c14 (by omega)
    | cons T l2 ih =>
      intro k h0 e em g ev
      obtain ⟨⟨em1, em2, em3⟩, em4⟩ := jq_MT_c em
      obtain ⟨gr, gl, gg1, gg2⟩ := g T List.mem_cons_self
      rw [List.length_cons] at e
      have e1 := jq_ev_in xin T.2.1 gg1
      have e2 := jq_ev_in xin T.2.2 gg2
      have tr : jq_hd (jq_xm me c t q y) T → jv_J X cX8_isIn RX8 (K + 1) 6 [some (.ref 97), some (.int (jv_i s)), some (.int (jv_i c)), some (.int (jv_i y)), some (.int (jv_i t)), some (.int (jv_i q)), some (.int (jv_i 1)), some (.int (jv_i (k + 1))), none, none, none, none, none] [] h := fun z => ih (k + 1) (by omega) (by omega) (by rw [← Int.add_assoc]; exact em4) (fun U z => g U (List.mem_cons_of_mem _ z)) (by rw [ev, jq_hl_c]; exact ⟨fun w => w.2, fun w => ⟨z, w⟩⟩)
      have fa : ¬ jq_hd (jq_xm me c t q y) T → jv_J X cX8_isIn RX8 (K + 1) 6 [some (.ref 97), some (.int (jv_i s)), some (.int (jv_i c)), some (.int (jv_i y)), some (.int (jv_i t)), some (.int (jv_i q)), some (.int (jv_i 0)), some (.int (jv_i (k + 1))), none, none, none, none, none] [] h := fun z => out (k + 1) (by omega) (fun w => z ((jq_hl_c.mp (ev.mp w)).1))
      unfold jq_hd jq_ho at tr fa
      refine jv_iload dX8_isIn_6 rfl ?_
      refine jv_aload_n dX8_isIn_8 rfl ?_
      refine jv_getf dX8_isIn_9 jf_X8_31 (by repeat' (first | assumption | exact ⟨_, by assumption⟩ | refine jv_h1 (by decide) ?_ | refine jv_h0 ?_ | refine jv_h1 (by omega) ?_ | refine jv_hs ?_)) (by exact rfl) ?_
      refine jv_iload_n dX8_isIn_12 rfl ?_
      refine jv_iald dX8_isIn_13 (by repeat' (first | assumption | exact ⟨_, by assumption⟩ | refine jv_h1 (by decide) ?_ | refine jv_h0 ?_ | refine jv_h1 (by omega) ?_ | refine jv_hs ?_)) ?_
      refine jv_icmp_ge 141 dX8_isIn_14 (fun c14 => ?_) (fun c14 => ?_)
      · exact absurd c14 (by omega)
      · refine jv_iload dX8_isIn_17 rfl ?_
        refine jv_if_eq 141 dX8_isIn_19 (fun c19 => ?_) (fun c19 => ?_)
        · exact absurd c19 (by omega)
        · refine jv_iconst dX8_isIn_22 ?_
          refine jv_iload_n dX8_isIn_23 rfl ?_
          refine jv_imul dX8_isIn_24 ?_
          refine jv_iload dX8_isIn_25 rfl ?_
          refine jv_iadd dX8_isIn_27 ?_
          refine jv_istore dX8_isIn_28 rfl (Nat.le_of_ble_eq_true rfl) ?_
          refine jv_aload_n dX8_isIn_30 rfl ?_
          refine jv_iconst dX8_isIn_31 ?_
          refine jv_iload dX8_isIn_32 rfl ?_
          refine jv_imul dX8_isIn_34 ?_
          refine jv_iload_n dX8_isIn_35 rfl ?_
          refine jv_iload_n dX8_isIn_36 rfl ?_
          refine jv_iload dX8_isIn_37 rfl ?_
          refine jv_iload dX8_isIn_39 rfl ?_
          refine jv_cV dX8_isIn_41 jm_X8_152 rfl (by repeat' (first | assumption | exact ⟨_, by assumption⟩ | refine jv_h1 (by decide) ?_ | refine jv_h0 ?_ | refine jv_h1 (by omega) ?_ | refine jv_hs ?_)) rfl (ct_X8_sumOf K o9 w3 w7 w8 w9 (by omega) hc hm hy ht hqq em2 gl.1 gg1 ?_)
          refine jv_lstore dX8_isIn_44 rfl (Nat.le_of_ble_eq_true rfl) ?_
          refine jv_aload_n dX8_isIn_46 rfl ?_
          refine jv_iconst dX8_isIn_47 ?_
          refine jv_iload dX8_isIn_48 rfl ?_
          refine jv_imul dX8_isIn_50 ?_
          refine jv_iconst dX8_isIn_51 ?_
          refine jv_iadd dX8_isIn_52 ?_
          refine jv_iload_n dX8_isIn_53 rfl ?_
          refine jv_iload_n dX8_isIn_54 rfl ?_
          refine jv_iload dX8_isIn_55 rfl ?_
          refine jv_iload dX8_isIn_57 rfl ?_
          refine jv_cV dX8_isIn_59 jm_X8_152 rfl (by repeat' (first | assumption | exact ⟨_, by assumption⟩ | refine jv_h1 (by decide) ?_ | refine jv_h0 ?_ | refine jv_h1 (by omega) ?_ | refine jv_hs ?_)) rfl (ct_X8_sumOf K o9 w3 w7 w8 w9 (by omega) hc hm hy ht hqq em3 gl.2 gg2 ?_)
          refine jv_lstore dX8_isIn_62 rfl (Nat.le_of_ble_eq_true rfl) ?_
          refine jv_aload_n dX8_isIn_64 rfl ?_
          refine jv_getf dX8_isIn_65 jf_X8_34 (by repeat' (first | assumption | exact ⟨_, by assumption⟩ | refine jv_h1 (by decide) ?_ | refine jv_h0 ?_ | refine jv_h1 (by omega) ?_ | refine jv_hs ?_)) (by exact rfl) ?_
          refine jv_iload dX8_isIn_68 rfl ?_
          refine jv_iald dX8_isIn_70 (by repeat' (first | assumption | exact ⟨_, by assumption⟩ | refine jv_h1 (by decide) ?_ | refine jv_h0 ?_ | refine jv_h1 (by omega) ?_ | refine jv_hs ?_)) ?_
          refine jv_bipush dX8_isIn_71 ?_
          refine jv_icmp_ne 92 dX8_isIn_73 (fun c73 => ?_) (fun c73 => ?_)
          · refine jv_aload_n dX8_isIn_92 rfl ?_
            refine jv_getf dX8_isIn_93 jf_X8_34 (by repeat' (first | assumption | exact ⟨_, by assumption⟩ | refine jv_h1 (by decide) ?_ | refine jv_h0 ?_ | refine jv_h1 (by omega) ?_ | refine jv_hs ?_)) (by exact rfl) ?_
            refine jv_iload dX8_isIn_96 rfl ?_
            refine jv_iald dX8_isIn_98 (by repeat' (first | assumption | exact ⟨_, by assumption⟩ | refine jv_h1 (by decide) ?_ | refine jv_h0 ?_ | refine jv_h1 (by omega) ?_ | refine jv_hs ?_)) ?_
            refine jv_bipush dX8_isIn_99 ?_
            refine jv_icmp_ne 120 dX8_isIn_101 (fun c101 => ?_) (fun c101 => ?_)
            · refine jv_lload dX8_isIn_120 rfl ?_
              refine jv_lload dX8_isIn_122 rfl ?_
              refine jv_lcmp_ne 132 dX8_isIn_124 dX8_isIn_125 (fun c124 => ?_) (fun c124 => ?_)
              · refine jv_iconst dX8_isIn_132 ?_
                refine jv_istore dX8_isIn_133 rfl (Nat.le_of_ble_eq_true rfl) ?_
                refine jv_iinc dX8_isIn_135 rfl rfl ?_
                refine jv_goto 6 dX8_isIn_138 ?_
                exact jv_les (by repeat' (first | exact True.intro | exact rfl | apply And.intro)) (fa (by omega))
              · refine jv_iconst dX8_isIn_128 ?_
                refine jv_goto 133 dX8_isIn_129 ?_
                refine jv_istore dX8_isIn_133 rfl (Nat.le_of_ble_eq_true rfl) ?_
                refine jv_iinc dX8_isIn_135 rfl rfl ?_
                refine jv_goto 6 dX8_isIn_138 ?_
                exact jv_les (by repeat' (first | exact True.intro | exact rfl | apply And.intro)) (tr (by omega))
            · refine jv_lload dX8_isIn_104 rfl ?_
              refine jv_lload dX8_isIn_106 rfl ?_
              refine jv_lcmp_le 116 dX8_isIn_108 dX8_isIn_109 (fun c108 => ?_) (fun c108 => ?_)
              · refine jv_iconst dX8_isIn_116 ?_
                refine jv_goto 133 dX8_isIn_117 ?_
                refine jv_istore dX8_isIn_133 rfl (Nat.le_of_ble_eq_true rfl) ?_
                refine jv_iinc dX8_isIn_135 rfl rfl ?_
                refine jv_goto 6 dX8_isIn_138 ?_
                exact jv_les (by repeat' (first | exact True.intro | exact rfl | apply And.intro)) (fa (by omega))
              · refine jv_iconst dX8_isIn_112 ?_
                refine jv_goto 133 dX8_isIn_113 ?_
                refine jv_istore dX8_isIn_133 rfl (Nat.le_of_ble_eq_true rfl) ?_
                refine jv_iinc dX8_isIn_135 rfl rfl ?_
                refine jv_goto 6 dX8_isIn_138 ?_
                exact jv_les (by repeat' (first | exact True.intro | exact rfl | apply And.intro)) (tr (by omega))
          · refine jv_lload dX8_isIn_76 rfl ?_
            refine jv_lload dX8_isIn_78 rfl ?_
            refine jv_lcmp_ge 88 dX8_isIn_80 dX8_isIn_81 (fun c80 => ?_) (fun c80 => ?_)
            · refine jv_iconst dX8_isIn_88 ?_
              refine jv_goto 133 dX8_isIn_89 ?_
              refine jv_istore dX8_isIn_133 rfl (Nat.le_of_ble_eq_true rfl) ?_
              refine jv_iinc dX8_isIn_135 rfl rfl ?_
              refine jv_goto 6 dX8_isIn_138 ?_
              exact jv_les (by repeat' (first | exact True.intro | exact rfl | apply And.intro)) (fa (by omega))
            · refine jv_iconst dX8_isIn_84 ?_
              refine jv_goto 133 dX8_isIn_85 ?_
              refine jv_istore dX8_isIn_133 rfl (Nat.le_of_ble_eq_true rfl) ?_
              refine jv_iinc dX8_isIn_135 rfl rfl ?_
              refine jv_goto 6 dX8_isIn_138 ?_
              exact jv_les (by repeat' (first | exact True.intro | exact rfl | apply And.intro)) (tr (by omega))
  refine jv_iconst dX8_isIn_0 ?_
  refine jv_istore dX8_isIn_1 rfl (Nat.le_of_ble_eq_true rfl) ?_
  refine jv_iconst dX8_isIn_3 ?_
  refine jv_istore dX8_isIn_4 rfl (Nat.le_of_ble_eq_true rfl) ?_
  exact loop l 0 (by omega) (by omega) (by rw [Int.add_zero]; exact m2) g2 Iff.rfl
def jq_okS (n : Nat) (c y t q : Int) : Prop := (0 ≤ c ∧ c < n) ∧ (0 ≤ y ∧ y ≤ 20000) ∧ (0 ≤ t ∧ t ≤ 20000) ∧ (0 ≤ q ∧ q ≤ 20000)
theorem ct_X8_state {c y t q : Int} (K : Nat) (o : jw_O h rr lv n si R.length a wr da ra wa) (w3 : h[103]? = some (jv_ai 32 me)) (w5 : h[105]? = some (jv_ai 12 ta)) (w6 : h[106]? = some (jv_ai 60 re)) (w7 : h[107]? = some (jv_ai 120 te)) (w8 : h[108]? = some (jv_ai 480 of)) (w9 : h[109]? = some (jv_ai 480 le)) (ms : jq_MS 0 R ta re te of le) (hR : jq_gR R) (hm : jq_gm me) (hn : n ≤ 8) (hc : jq_rg c) (hy : jq_rg y) (ht : jq_rg t) (hqq : jq_rg q) (hp1 : jq_okS n c y t q → ∀ r, jq_fa R.length (fun s => jq_Ps R (jq_xm me c t q y) s) r → post (some (.int (jv_i r))) h) (hp2 : ¬ jq_okS n c y t q → post (some (.int (jv_i (-1)))) h) : jv_Ct yX8_state cX8_state 6 (some .int) (K + 2) [.ref 97, .int (jv_i c), .int (jv_i y), .int (jv_i t), .int (jv_i q)] h post := by
  have o9 := o
  have hR6 := hR.1
  unfold jw_O at o
  have hc' := hc
  unfold jq_okS at hp1 hp2
  refine jv_entry (own := RX8) (by decide) rfl (Nat.le_of_ble_eq_true rfl) (fun X hq => ?_)
  have loop : (0 ≤ c ∧ c < n) ∧ (0 ≤ y ∧ y ≤ 20000) ∧ (0 ≤ t ∧ t ≤ 20000) ∧ (0 ≤ q ∧ q ≤ 20000) → ∀ (f s : Nat), s + f = R.length → (∀ j : Nat, j < s → ¬ jq_Ps R (jq_xm me c t q y) j) → jv_J X cX8_state RX8 (K + 2) 35 [some (.ref 97), some (.int (jv_i c)), some (.int (jv_i y)), some (.int (jv_i t)), some (.int (jv_i q)), some (.int (jv_i s))] [] h := by
    intro ok f
    have hp1 := hp1 ok
    obtain ⟨k1, k2, k3, k4⟩ := ok
    induction f with
    | zero =>
      intro s e dn
      refine jv_iload dX8_state_35 rfl ?_
      refine jv_aload_n dX8_state_37 rfl ?_
      refine jv_getf dX8_state_38 jf_X8_149 (by repeat' (first | assumption | exact ⟨_, by assumption⟩ | refine jv_h1 (by decide) ?_ | refine jv_h0 ?_ | refine jv_h1 (by omega) ?_ | refine jv_hs ?_)) (by exact rfl) ?_
      refine jv_icmp_ge 67 dX8_state_41 (fun c41 => ?_) (fun c41 => ?_)
      · refine jv_iconst dX8_state_67 ?_
        exact jv_iret dX8_state_68 hq (hp1 (-1) (Or.inl ⟨rfl, fun j z => dn j (by omega)⟩)) (by first | rfl | decide)
      · exact absurd c41 (by omega)
    | succ f ih =>
      intro s e dn
      refine jv_iload dX8_state_35 rfl ?_
      refine jv_aload_n dX8_state_37 rfl ?_
      refine jv_getf dX8_state_38 jf_X8_149 (by repeat' (first | assumption | exact ⟨_, by assumption⟩ | refine jv_h1 (by decide) ?_ | refine jv_h0 ?_ | refine jv_h1 (by omega) ?_ | refine jv_hs ?_)) (by exact rfl) ?_
      refine jv_icmp_ge 67 dX8_state_41 (fun c41 => ?_) (fun c41 => ?_)
      · exact absurd c41 (by omega)
      · refine jv_aload_n dX8_state_44 rfl ?_
        refine jv_iload dX8_state_45 rfl ?_
        refine jv_iload_n dX8_state_47 rfl ?_
        refine jv_iload_n dX8_state_48 rfl ?_
        refine jv_iload_n dX8_state_49 rfl ?_
        refine jv_iload dX8_state_50 rfl ?_
        refine jv_cV dX8_state_52 jm_X8_164 rfl (by repeat' (first | assumption | exact ⟨_, by assumption⟩ | refine jv_h1 (by decide) ?_ | refine jv_h0 ?_ | refine jv_h1 (by omega) ?_ | refine jv_hs ?_)) rfl (ct_X8_isIn K o9 w3 w5 w6 w7 w8 w9 ms hR hm (by omega) (by omega) k2 k3 k4 (fun r q1 q3 => ?_))
        refine jv_if_eq 61 dX8_state_55 (fun c55 => ?_) (fun c55 => ?_)
        · refine jv_iinc dX8_state_61 rfl rfl ?_
          refine jv_goto 35 dX8_state_64 ?_
          exact ih (s + 1) (by omega) (fun j z => by by_cases e : j = s; rw [e]; intro zz; have := q1.mpr zz; omega; exact dn j (by omega))
        · refine jv_iload dX8_state_58 rfl ?_
          exact jv_iret dX8_state_60 hq (hp1 s (Or.inr ⟨s, by omega, rfl, q1.mp (by omega), dn⟩))
  refine jv_aload_n dX8_state_0 rfl ?_
  refine jv_iload_n dX8_state_1 rfl ?_
  refine jv_cV dX8_state_2 jm_X8_158 rfl (by repeat' (first | assumption | exact ⟨_, by assumption⟩ | refine jv_h1 (by decide) ?_ | refine jv_h0 ?_ | refine jv_h1 (by omega) ?_ | refine jv_hs ?_)) rfl (ct_X8_isCulvert K o9 hn hc (fun r1 q11 q12 q13 => ?_))
  refine jv_if_eq 30 dX8_state_5 (fun c5 => ?_) (fun c5 => ?_)
  · refine jv_iconst dX8_state_30 ?_
    exact jv_iret dX8_state_31 hq (hp2 (by omega))
  · refine jv_iload_n dX8_state_8 rfl ?_
    refine jv_cS dX8_state_9 jm_X8_161 (ct_X8_isWater K hy (fun r2 q21 q22 q23 => ?_))
    refine jv_if_eq 30 dX8_state_12 (fun c12 => ?_) (fun c12 => ?_)
    · refine jv_iconst dX8_state_30 ?_
      exact jv_iret dX8_state_31 hq (hp2 (by omega))
    · refine jv_iload_n dX8_state_15 rfl ?_
      refine jv_cS dX8_state_16 jm_X8_161 (ct_X8_isWater K ht (fun r3 q31 q32 q33 => ?_))
      refine jv_if_eq 30 dX8_state_19 (fun c19 => ?_) (fun c19 => ?_)
      · refine jv_iconst dX8_state_30 ?_
        exact jv_iret dX8_state_31 hq (hp2 (by omega))
      · refine jv_iload dX8_state_22 rfl ?_
        refine jv_cS dX8_state_24 jm_X8_161 (ct_X8_isWater K hqq (fun r4 q41 q42 q43 => ?_))
        refine jv_if_ne 32 dX8_state_27 (fun c27 => ?_) (fun c27 => ?_)
        · refine jv_iconst dX8_state_32 ?_
          refine jv_istore dX8_state_33 rfl (Nat.le_of_ble_eq_true rfl) ?_
          exact loop (by omega) R.length 0 (by omega) (fun j z => by omega)
        · refine jv_iconst dX8_state_30 ?_
          exact jv_iret dX8_state_31 hq (hp2 (by omega))
def jq_okH (n st : Nat) (c s t q : Int) : Prop := (0 ≤ c ∧ c < n) ∧ (0 ≤ s ∧ s < st) ∧ (0 ≤ t ∧ t ≤ 20000) ∧ (0 ≤ q ∧ q ≤ 20000)
theorem ct_X8_head {c w t q : Int} (K : Nat) (o : jw_O h rr lv n si R.length a wr da ra wa) (w3 : h[103]? = some (jv_ai 32 me)) (w5 : h[105]? = some (jv_ai 12 ta)) (w6 : h[106]? = some (jv_ai 60 re)) (w7 : h[107]? = some (jv_ai 120 te)) (w8 : h[108]? = some (jv_ai 480 of)) (w9 : h[109]? = some (jv_ai 480 le)) (ms : jq_MS 0 R ta re te of le) (hR : jq_gR R) (hm : jq_gm me) (hn : n ≤ 8) (hc : jq_rg c) (hw : jq_rg w) (ht : jq_rg t) (hqq : jq_rg q) (hp1 : jq_okH n R.length c w t q → ∀ (wn : Nat) (r : Int), w = wn → jq_lh wn (fun s y => (0 ≤ y ∧ y ≤ 20000) ∧ jq_Ps R (jq_xm me c t q y) s) r → post (some (.int (jv_i r))) h) (hp2 : ¬ jq_okH n R.length c w t q → post (some (.int (jv_i (-1)))) h) : jv_Ct yX8_head cX8_head 6 (some .int) (K + 3) [.ref 97, .int (jv_i c), .int (jv_i w), .int (jv_i t), .int (jv_i q)] h post := by
  have o9 := o
  have hR6 := hR.1
  unfold jw_O at o
  unfold jq_okH at hp1 hp2
  have hw' := hw
  unfold jq_rg at hw'
  refine jv_entry (own := RX8) (by decide) rfl (Nat.le_of_ble_eq_true rfl) (fun X hq => ?_)
  have loop : (0 ≤ c ∧ c < n) ∧ (0 ≤ w ∧ w < R.length) ∧ (0 ≤ t ∧ t ≤ 20000) ∧ (0 ≤ q ∧ q ≤ 20000) → ∀ (f : Nat) (y : Int), 0 ≤ y → y + f = 20001 → (∀ z, z < y → (0 ≤ z ∧ z ≤ 20000) ∧ jq_Ps R (jq_xm me c t q z) w.toNat → ∃ s, s < w.toNat ∧ (0 ≤ z ∧ z ≤ 20000) ∧ jq_Ps R (jq_xm me c t q z) s) → jv_J X cX8_head RX8 (K + 3) 40 [some (.ref 97), some (.int (jv_i c)), some (.int (jv_i w)), some (.int (jv_i t)), some (.int (jv_i q)), some (.int (jv_i y))] [] h := by
    intro ok f
    have hp1 := hp1 ok
    obtain ⟨k1, k2, k3, k4⟩ := ok
    obtain ⟨wn, rfl⟩ : ∃ wn : Nat, w = wn := ⟨w.toNat, by omega⟩
    rw [Int.toNat_natCast]
    induction f with
    | zero =>
      intro y h0 e dn
      refine jv_iload dX8_head_40 rfl ?_
      refine jv_sipush dX8_head_42 ?_
      refine jv_icmp_gt 85 dX8_head_45 (fun c45 => ?_) (fun c45 => ?_)
      · refine jv_iconst dX8_head_85 ?_
        exact jv_iret dX8_head_86 hq (hp1 wn (-1) rfl (Or.inl ⟨rfl, fun z zz => dn z (by omega) zz⟩)) (by first | rfl | decide)
      · exact absurd c45 (by omega)
    | succ f ih =>
      intro y h0 e dn
      refine jv_iload dX8_head_40 rfl ?_
      refine jv_sipush dX8_head_42 ?_
      refine jv_icmp_gt 85 dX8_head_45 (fun c45 => ?_) (fun c45 => ?_)
      · exact absurd c45 (by omega)
      · refine jv_aload_n dX8_head_48 rfl ?_
        refine jv_iload_n dX8_head_49 rfl ?_
        refine jv_iload_n dX8_head_50 rfl ?_
        refine jv_iload dX8_head_51 rfl ?_
        refine jv_iload_n dX8_head_53 rfl ?_
        refine jv_iload dX8_head_54 rfl ?_
        refine jv_cV dX8_head_56 jm_X8_164 rfl (by repeat' (first | assumption | exact ⟨_, by assumption⟩ | refine jv_h1 (by decide) ?_ | refine jv_h0 ?_ | refine jv_h1 (by omega) ?_ | refine jv_hs ?_)) rfl (ct_X8_isIn K o9 w3 w5 w6 w7 w8 w9 ms hR hm (by omega) (by omega) (by omega) k3 k4 (fun r q1 q3 => ?_))
        refine jv_if_eq 79 dX8_head_59 (fun c59 => ?_) (fun c59 => ?_)
        · refine jv_iinc dX8_head_79 rfl rfl ?_
          refine jv_goto 40 dX8_head_82 ?_
          exact ih (y + 1) (by omega) (by omega) (fun z z1 zz => by by_cases e : z = y; rw [e] at zz; have := q1.mpr zz.2; omega; exact dn z (by omega) zz)
        · refine jv_aload_n dX8_head_62 rfl ?_
          refine jv_iload_n dX8_head_63 rfl ?_
          refine jv_iload dX8_head_64 rfl ?_
          refine jv_iload_n dX8_head_66 rfl ?_
          refine jv_iload dX8_head_67 rfl ?_
          refine jv_cV dX8_head_69 jm_X8_168 rfl (by repeat' (first | assumption | exact ⟨_, by assumption⟩ | refine jv_h1 (by decide) ?_ | refine jv_h0 ?_ | refine jv_h1 (by omega) ?_ | refine jv_hs ?_)) rfl (ct_X8_state K o9 w3 w5 w6 w7 w8 w9 ms hR hm hn hc (by unfold jq_rg; omega) ht hqq (fun ok r9 fa => ?_) (fun nok => absurd (by unfold jq_okS; omega) nok))
          have rb : -1 ≤ r9 ∧ r9 < 7 := by rcases fa with ⟨z1, z2⟩ | ⟨s, z1, z2, z3⟩ <;> omega
          refine jv_iload_n dX8_head_72 rfl ?_
          refine jv_icmp_ne 79 dX8_head_73 (fun c73 => ?_) (fun c73 => ?_)
          · refine jv_iinc dX8_head_79 rfl rfl ?_
            refine jv_goto 40 dX8_head_82 ?_
            refine ih (y + 1) (by omega) (by omega) (fun z z1 zz => ?_)
            by_cases e : z = y
            · rcases fa with ⟨z1, z2⟩ | ⟨s, z1, z2, z3, z4⟩
              · exact absurd (q1.mp (by omega)) (z2 wn (by omega))
              · rw [e]
                refine ⟨s, ?_, by omega, z3⟩
                by_cases e2 : wn < s
                · exact absurd (q1.mp (by omega)) (z4 wn e2)
                · omega
            · exact dn z (by omega) zz
          · refine jv_iload dX8_head_76 rfl ?_
            refine jv_iret dX8_head_78 hq (hp1 wn y rfl (Or.inr ⟨⟨by omega, q1.mp (by omega)⟩, ?_, dn⟩))
            rcases fa with ⟨z1, z2⟩ | ⟨s, z1, z2, z3, z4⟩
            · omega
            · obtain rfl : s = wn := by omega
              exact fun j z zz => z4 j z zz.2
  refine jv_aload_n dX8_head_0 rfl ?_
  refine jv_iload_n dX8_head_1 rfl ?_
  refine jv_cV dX8_head_2 jm_X8_158 rfl (by repeat' (first | assumption | exact ⟨_, by assumption⟩ | refine jv_h1 (by decide) ?_ | refine jv_h0 ?_ | refine jv_h1 (by omega) ?_ | refine jv_hs ?_)) rfl (ct_X8_isCulvert K o9 hn hc (fun r1 q11 q12 q13 => ?_))
  refine jv_if_eq 35 dX8_head_5 (fun c5 => ?_) (fun c5 => ?_)
  · refine jv_iconst dX8_head_35 ?_
    exact jv_iret dX8_head_36 hq (hp2 (by omega))
  · refine jv_iload_n dX8_head_8 rfl ?_
    refine jv_if_lt 35 dX8_head_9 (fun c9 => ?_) (fun c9 => ?_)
    · refine jv_iconst dX8_head_35 ?_
      exact jv_iret dX8_head_36 hq (hp2 (by omega))
    · refine jv_iload_n dX8_head_12 rfl ?_
      refine jv_aload_n dX8_head_13 rfl ?_
      refine jv_getf dX8_head_14 jf_X8_149 (by repeat' (first | assumption | exact ⟨_, by assumption⟩ | refine jv_h1 (by decide) ?_ | refine jv_h0 ?_ | refine jv_h1 (by omega) ?_ | refine jv_hs ?_)) (by exact rfl) ?_
      refine jv_icmp_ge 35 dX8_head_17 (fun c17 => ?_) (fun c17 => ?_)
      · refine jv_iconst dX8_head_35 ?_
        exact jv_iret dX8_head_36 hq (hp2 (by omega))
      · refine jv_iload_n dX8_head_20 rfl ?_
        refine jv_cS dX8_head_21 jm_X8_161 (ct_X8_isWater K ht (fun r3 q31 q32 q33 => ?_))
        refine jv_if_eq 35 dX8_head_24 (fun c24 => ?_) (fun c24 => ?_)
        · refine jv_iconst dX8_head_35 ?_
          exact jv_iret dX8_head_36 hq (hp2 (by omega))
        · refine jv_iload dX8_head_27 rfl ?_
          refine jv_cS dX8_head_29 jm_X8_161 (ct_X8_isWater K hqq (fun r4 q41 q42 q43 => ?_))
          refine jv_if_ne 37 dX8_head_32 (fun c32 => ?_) (fun c32 => ?_)
          · refine jv_iconst dX8_head_37 ?_
            refine jv_istore dX8_head_38 rfl (Nat.le_of_ble_eq_true rfl) ?_
            exact loop (by omega) 20001 0 (by omega) (by omega) (fun z z1 zz => by omega)
          · refine jv_iconst dX8_head_35 ?_
            exact jv_iret dX8_head_36 hq (hp2 (by omega))
end MIS
