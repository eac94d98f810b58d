/-! THE LAW'S INVARIANT: the class's world and the reference's tell the same -/
def jI_R (h : List jv_E) (rr : Int) : Prop := ∃ (n : Nat) (ys ms ds : Int → Int), rr = n ∧ jw_R h n ys ms ds ∧ jw_MR h ys ms ds ∧ jq_R n ys ms ds ∧ ∀ i : Int, 0 ≤ i → i < n → 1 ≤ ms i
def jI_P (h : List jv_E) (lv : Int) : Prop := ∃ (n : Nat) (f ar co : Int → Int), lv = n ∧ jw_P h n f ar co ∧ jw_MP h f ar ∧ jq_P n f ar co
def jI_C (h : List jv_E) (cu : Int) : Prop := ∃ (n : Nat) (wi he le fa va me : Int → Int), cu = n ∧ jw_C h n wi he le fa va ∧ h[103]? = some (jv_ai 32 me) ∧ jq_C n wi he le fa ∧ jq_gm me ∧ ∀ i : Int, 0 ≤ i → i < n → me (4 * i) = wi i ∧ me (4 * i + 1) = he i ∧ me (4 * i + 2) = le i ∧ me (4 * i + 3) = fa i
def jI_S (h : List jv_E) (si : Int) : Prop := ∃ (a : Int) (sg : Int → Int), jw_S h si a sg ∧ h[104]? = some (jv_ai 300 sg) ∧ jq_S si sg
def jI_T (h : List jv_E) (t0 d0 : Nat) (st : Int) : Prop := ∃ (R : List (List (Int × List (Int × Int) × List (Int × Int)))) (en rl lo hi : Int → Int) (F : Int → Int → Int) (ta re te of le : Int → Int), st = R.length ∧ jw_T h t0 R.length R.flatten.length en rl lo hi F ∧ (∃ (u t : Nat) (en2 rl2 lo2 hi2 : Int → Int) (F2 : Int → Int → Int), jw_T h d0 u t en2 rl2 lo2 hi2 F2) ∧ (h[105]? = some (jv_ai 12 ta) ∧ h[106]? = some (jv_ai 60 re) ∧ h[107]? = some (jv_ai 120 te) ∧ h[108]? = some (jv_ai 480 of) ∧ h[109]? = some (jv_ai 480 le)) ∧ jq_gR R ∧ jq_Fo R.flatten rl F ∧ jq_En R en ∧ jq_MS 0 R ta re te of le
def jI_D (h : List jv_E) (da ra : Int) : Prop := ∃ (n : Nat) (cm he go ab so ho we ov : Int → Int) (al : Int), da = n ∧ jw_D h n cm he go ab so al ra ∧ jw_MD h cm ho we ov ∧ jq_D n cm al ∧ (ra = 0 ∨ (ra = 1 ∧ ∃ ou ro, jq_run n cm ou ro he go ab so ∧ jq_mrun n cm ou ro ho we ov))
def jI_W (h : List jv_E) (wa : Int) : Prop := ∃ f : Int → Int, jw_W h wa f ∧ h[114]? = some (jv_ai 50 f) ∧ (0 ≤ wa ∧ wa ≤ 50) ∧ ∀ i, -100000 ≤ f i ∧ f i ≤ 100000
def jI (h : List jv_E) : Prop := ∃ (t0 d0 : Nat) (rr lv cu si st at_ wr da ra wa : Int), ((t0 = 17 ∧ d0 = 53) ∨ (t0 = 53 ∧ d0 = 17)) ∧ jw_B h t0 d0 ∧ jw_O h rr lv cu si st at_ wr da ra wa ∧ jI_R h rr ∧ jI_P h lv ∧ jI_C h cu ∧ jI_S h si ∧ jI_T h t0 d0 st ∧ jI_D h da ra ∧ jI_W h wa
section JI
variable {h h' : List jv_E}
theorem jw_R_g {n : Nat} {ys ms ds : Int → Int} (g : ∀ i, 1 ≤ i → i ≤ 4 → h'[i]? = h[i]?) (w : jw_R h n ys ms ds) : jw_R h' n ys ms ds := ⟨(g 1 (by omega) (by omega)).trans w.1, (g 2 (by omega) (by omega)).trans w.2.1, (g 3 (by omega) (by omega)).trans w.2.2.1, (g 4 (by omega) (by omega)).trans w.2.2.2⟩
theorem jw_MR_g {ys ms ds : Int → Int} (g : ∀ i, 98 ≤ i → i ≤ 100 → h'[i]? = h[i]?) (w : jw_MR h ys ms ds) : jw_MR h' ys ms ds := ⟨(g 98 (by omega) (by omega)).trans w.1, (g 99 (by omega) (by omega)).trans w.2.1, (g 100 (by omega) (by omega)).trans w.2.2⟩
theorem jw_P_g {n : Nat} {lv ar co : Int → Int} (g : ∀ i, 5 ≤ i → i ≤ 8 → h'[i]? = h[i]?) (w : jw_P h n lv ar co) : jw_P h' n lv ar co := ⟨(g 5 (by omega) (by omega)).trans w.1, (g 6 (by omega) (by omega)).trans w.2.1, (g 7 (by omega) (by omega)).trans w.2.2.1, (g 8 (by omega) (by omega)).trans w.2.2.2⟩
theorem jw_MP_g {lv ar : Int → Int} (g : ∀ i, 101 ≤ i → i ≤ 102 → h'[i]? = h[i]?) (w : jw_MP h lv ar) : jw_MP h' lv ar := ⟨(g 101 (by omega) (by omega)).trans w.1, (g 102 (by omega) (by omega)).trans w.2⟩
theorem jw_C_g {n : Nat} {wi he le fa va : Int → Int} (g : ∀ i, 9 ≤ i → i ≤ 14 → h'[i]? = h[i]?) (w : jw_C h n wi he le fa va) : jw_C h' n wi he le fa va := ⟨(g 9 (by omega) (by omega)).trans w.1, (g 10 (by omega) (by omega)).trans w.2.1, (g 11 (by omega) (by omega)).trans w.2.2.1, (g 12 (by omega) (by omega)).trans w.2.2.2.1, (g 13 (by omega) (by omega)).trans w.2.2.2.2.1, (g 14 (by omega) (by omega)).trans w.2.2.2.2.2⟩
theorem jw_S_g {n a : Int} {sg : Int → Int} (g : ∀ i, 15 ≤ i → i ≤ 16 → h'[i]? = h[i]?) (w : jw_S h n a sg) : jw_S h' n a sg := ⟨(g 15 (by omega) (by omega)).trans w.1, (g 16 (by omega) (by omega)).trans w.2⟩
theorem jw_D_g {n : Nat} {cm he go ab so : Int → Int} {al hr : Int} (g : ∀ i, 89 ≤ i → i ≤ 94 → h'[i]? = h[i]?) (w : jw_D h n cm he go ab so al hr) : jw_D h' n cm he go ab so al hr := ⟨(g 89 (by omega) (by omega)).trans w.1, (g 90 (by omega) (by omega)).trans w.2.1, (g 91 (by omega) (by omega)).trans w.2.2.1, (g 92 (by omega) (by omega)).trans w.2.2.2.1, (g 93 (by omega) (by omega)).trans w.2.2.2.2.1, (g 94 (by omega) (by omega)).trans w.2.2.2.2.2⟩
theorem jw_MD_g {cm ho we ov : Int → Int} (g : ∀ i, 110 ≤ i → i ≤ 113 → h'[i]? = h[i]?) (w : jw_MD h cm ho we ov) : jw_MD h' cm ho we ov := ⟨(g 110 (by omega) (by omega)).trans w.1, (g 111 (by omega) (by omega)).trans w.2.1, (g 112 (by omega) (by omega)).trans w.2.2.1, (g 113 (by omega) (by omega)).trans w.2.2.2⟩
theorem jw_W_g {n : Int} {f : Int → Int} (g : ∀ i, 95 ≤ i → i ≤ 96 → h'[i]? = h[i]?) (w : jw_W h n f) : jw_W h' n f := ⟨(g 95 (by omega) (by omega)).trans w.1, (g 96 (by omega) (by omega)).trans w.2⟩
theorem jI_R_g {x : Int} (g : ∀ i, (1 ≤ i ∧ i ≤ 4) ∨ (98 ≤ i ∧ i ≤ 100) → h'[i]? = h[i]?) (w : jI_R h x) : jI_R h' x := by
  obtain ⟨n, ys, ms, ds, e, a, b, c, d⟩ := w
  exact ⟨n, ys, ms, ds, e, jw_R_g (fun i p q => g i (by omega)) a, jw_MR_g (fun i p q => g i (by omega)) b, c, d⟩
theorem jI_P_g {x : Int} (g : ∀ i, (5 ≤ i ∧ i ≤ 8) ∨ (101 ≤ i ∧ i ≤ 102) → h'[i]? = h[i]?) (w : jI_P h x) : jI_P h' x := by
  obtain ⟨n, f, ar, co, e, a, b, c⟩ := w
  exact ⟨n, f, ar, co, e, jw_P_g (fun i p q => g i (by omega)) a, jw_MP_g (fun i p q => g i (by omega)) b, c⟩
theorem jI_C_g {x : Int} (g : ∀ i, (9 ≤ i ∧ i ≤ 14) ∨ i = 103 → h'[i]? = h[i]?) (w : jI_C h x) : jI_C h' x := by
  obtain ⟨n, wi, he, le, fa, va, me, e, a, b, c⟩ := w
  exact ⟨n, wi, he, le, fa, va, me, e, jw_C_g (fun i p q => g i (by omega)) a, (g 103 (by omega)).trans b, c⟩
theorem jI_S_g {x : Int} (g : ∀ i, (15 ≤ i ∧ i ≤ 16) ∨ i = 104 → h'[i]? = h[i]?) (w : jI_S h x) : jI_S h' x := by
  obtain ⟨b, sg, a1, a2, c⟩ := w
  exact ⟨b, sg, jw_S_g (fun i p q => g i (by omega)) a1, (g 104 (by omega)).trans a2, c⟩
theorem jI_T_g {t0 d0 : Nat} {x : Int} (ht : (t0 = 17 ∧ d0 = 53) ∨ (t0 = 53 ∧ d0 = 17)) (g : ∀ i, (17 ≤ i ∧ i ≤ 88) ∨ (105 ≤ i ∧ i ≤ 109) → h'[i]? = h[i]?) (w : jI_T h t0 d0 x) : jI_T h' t0 d0 x := by
  obtain ⟨R, en, rl, lo, hi, F, ta, re, te, of, le, e, a, ⟨u, t, en2, rl2, lo2, hi2, F2, b⟩, ⟨c1, c2, c3, c4, c5⟩, d⟩ := w
  exact ⟨R, en, rl, lo, hi, F, ta, re, te, of, le, e, jw_T_g a (fun i p q => g i (by omega)), ⟨u, t, en2, rl2, lo2, hi2, F2, jw_T_g b (fun i p q => g i (by omega))⟩, ⟨(g 105 (by omega)).trans c1, (g 106 (by omega)).trans c2, (g 107 (by omega)).trans c3, (g 108 (by omega)).trans c4, (g 109 (by omega)).trans c5⟩, d⟩
theorem jI_D_g {x y : Int} (g : ∀ i, (89 ≤ i ∧ i ≤ 94) ∨ (110 ≤ i ∧ i ≤ 113) → h'[i]? = h[i]?) (w : jI_D h x y) : jI_D h' x y := by
  obtain ⟨n, cm, he, go, ab, so, ho, we, ov, al, e, a, b, c⟩ := w
  exact ⟨n, cm, he, go, ab, so, ho, we, ov, al, e, jw_D_g (fun i p q => g i (by omega)) a, jw_MD_g (fun i p q => g i (by omega)) b, c⟩
theorem jI_W_g {x : Int} (g : ∀ i, (95 ≤ i ∧ i ≤ 96) ∨ i = 114 → h'[i]? = h[i]?) (w : jI_W h x) : jI_W h' x := by
  obtain ⟨f, a, b, c⟩ := w
  exact ⟨f, jw_W_g (fun i p q => g i (by omega)) a, (g 114 (by omega)).trans b, c⟩
end JI
/-! what the changes keep -/
theorem jq_up_b {f : Int → Int} {k x a b : Int} (hf : ∀ i, a ≤ f i ∧ f i ≤ b) (hx : a ≤ x ∧ x ≤ b) (i : Int) : a ≤ jv_up f k x i ∧ jv_up f k x i ≤ b := by
  by_cases e : i = k
  · subst e; rw [jv_up_s]; exact hx
  · rw [jv_up_n f e]; exact hf i
theorem jq_R_up {n : Nat} {ys ms ds : Int → Int} {y mi de : Int} (hR : jq_R n ys ms ds) (ok : jq_okR n ys ms ds y mi de) : jq_R (n + 1) (jv_up ys n y) (jv_up ms n mi) (jv_up ds n de) := by
  obtain ⟨a, b, c, d, -⟩ := ok
  exact ⟨by omega, fun i => ⟨jq_up_b (fun i => (hR.2 i).1) (by omega) i, jq_up_b (fun i => (hR.2 i).2.1) (by omega) i, jq_up_b (fun i => (hR.2 i).2.2) (by omega) i⟩⟩
theorem jq_P_up {n : Nat} {lv ar co : Int → Int} {mm a : Int} (hP : jq_P n lv ar co) (ok : jq_okP n lv ar mm a) : jq_P (n + 1) (jv_up lv n mm) (jv_up ar n a) (jv_up co n (jq_nc n lv ar co mm a)) := by
  obtain ⟨o1, o2, o3, o4⟩ := ok
  obtain ⟨p1, p2, p3, p4⟩ := hP
  refine ⟨by omega, fun i => ⟨jq_up_b (fun i => (p2 i).1) o1 i, jq_up_b (fun i => (p2 i).2) o2 i⟩, fun i h0 h1 => ?_, fun _ => ?_⟩
  · rw [jv_up_n lv (j := i) (by omega), jv_up_n ar (j := i) (by omega), jv_up_n co (j := i) (by omega)]
    by_cases e : i + 1 = n
    · rw [e, jv_up_s, jv_up_s, jv_up_s]
      have e2 : i = (n : Int) - 1 := by omega
      have hn : ¬ n = 0 := by omega
      rw [jq_nc, if_neg hn, ← e2]
      rcases o4 with q | q
      · exact absurd q hn
      · rw [← e2] at q
        exact ⟨q.1, q.2, rfl⟩
    · rw [jv_up_n lv (j := i + 1) (by omega), jv_up_n ar (j := i + 1) (by omega), jv_up_n co (j := i + 1) (by omega)]
      exact p3 i h0 (by omega)
  · by_cases e : n = 0
    · subst e
      rw [show (0 : Int) = ((0 : Nat) : Int) from rfl, jv_up_s, jq_nc, if_pos rfl]
      rfl
    · rw [jv_up_n co (by omega)]
      exact p4 (by omega)
theorem jq_C_up {n : Nat} {wi he le fa : Int → Int} {a b c d : Int} (hC : jq_C n wi he le fa) (ok : jq_okC n a b c d) : jq_C (n + 1) (jv_up wi n a) (jv_up he n b) (jv_up le n c) (jv_up fa n d) := by
  obtain ⟨o1, o2, o3, o4, o5⟩ := ok
  exact ⟨by omega, fun i => ⟨jq_up_b (fun i => (hC.2 i).1) (by omega) i, jq_up_b (fun i => (hC.2 i).2.1) (by omega) i, jq_up_b (fun i => (hC.2 i).2.2.1) (by omega) i, jq_up_b (fun i => (hC.2 i).2.2.2) (by omega) i⟩⟩
theorem jq_S_up {n u : Int} {sg : Int → Int} (hS : jq_S n sg) (ok : jq_okU n u) : jq_S (n + 1) (jv_up sg n u) := by
  obtain ⟨o1, o2⟩ := ok
  exact ⟨by have := hS.1; omega, fun i => jq_up_b hS.2 (by omega) i⟩
theorem jq_sm_cg {f g : Int → Int} : ∀ n : Nat, (∀ j : Nat, j < n → f j = g j) → jq_sm f n = jq_sm g n
  | 0, _ => rfl
  | n + 1, e => by rw [jq_sm, jq_sm, jq_sm_cg n (fun j hj => e j (by omega)), e n (by omega)]
theorem jq_D_up {n : Nat} {cm : Int → Int} {al wt : Int} (hD : jq_D n cm al) (hw : 0 ≤ wt ∧ wt ≤ 1000000000000) (hn : n < 400) : jq_D (n + 1) (jv_up cm n wt) (al + wt) := by
  refine ⟨by omega, fun i => jq_up_b hD.2.1 hw i, ?_⟩
  rw [jq_sm, jv_up_s, hD.2.2, jq_sm_cg (f := jv_up cm n wt) (g := cm) n (fun j hj => jv_up_n cm (by omega))]
theorem jq_so_sm {n : Nat} {cm ov : Int → Int} {ou ro : Int} (e : ∀ j : Nat, j < n → ov j = jq_av cm ou ro j) : ∀ k : Nat, k ≤ n → jq_sm ov k = jq_so cm ou ro k
  | 0, _ => rfl
  | k + 1, hk => by rw [jq_sm, jq_so, jq_so_sm e k (by omega), e k (by omega)]
theorem jq_rc_eq {n : Nat} {ra : Int} {cm he go ab so ho we ov : Int → Int} (r : ra = 0 ∨ (ra = 1 ∧ ∃ ou ro, jq_run n cm ou ro he go ab so ∧ jq_mrun n cm ou ro ho we ov)) (dy wh : Int) : jq_rc n ra he go ab so dy wh = jq_rc n ra ho we ov (fun j => jq_sm ov (j.toNat + 1)) dy wh := by
  unfold jq_rc
  rcases r with r | ⟨r, ou, ro, q1, q2⟩
  · rw [if_pos (Or.inl r), if_pos (Or.inl r)]
  · by_cases z : ra = 0 ∨ ¬ (0 ≤ dy ∧ dy < n)
    · rw [if_pos z, if_pos z]
    · rw [if_neg z, if_neg z]
      have hd : 0 ≤ dy ∧ dy < n := by
        by_cases y : 0 ≤ dy ∧ dy < n
        · exact y
        · exact absurd (Or.inr y) z
      obtain ⟨k, rfl⟩ := Int.eq_ofNat_of_zero_le hd.1
      have hk : k < n := by omega
      obtain ⟨a1, a2, a3, a4⟩ := q1 k hk
      obtain ⟨b1, b2, b3⟩ := q2 k hk
      have e : jq_sm ov (k + 1) = jq_so cm ou ro (k + 1) := jq_so_sm (fun j hj => (q2 j hj).2.2) (k + 1) (by omega)
      dsimp only
      rw [Int.toNat_natCast, a1, a2, a3, a4, b1, b2, b3, e]
theorem jq_xc_xm {wi he le fa me : Int → Int} {c t q y : Int} (e : me (4 * c) = wi c ∧ me (4 * c + 1) = he c ∧ me (4 * c + 2) = le c ∧ me (4 * c + 3) = fa c) : jq_xc wi he le fa c t q y = jq_xm me c t q y := by
  unfold jq_xc jq_xm
  rw [e.1, e.2.1, e.2.2.1, e.2.2.2]
theorem jq_me_up {n : Nat} {wi he le fa me : Int → Int} {a b c d : Int} (e : ∀ i : Int, 0 ≤ i → i < n → me (4 * i) = wi i ∧ me (4 * i + 1) = he i ∧ me (4 * i + 2) = le i ∧ me (4 * i + 3) = fa i) : ∀ i : Int, 0 ≤ i → i < (n + 1 : Nat) → (jv_up (jv_up (jv_up (jv_up me (4 * n) a) (4 * n + 1) b) (4 * n + 2) c) (4 * n + 3) d) (4 * i) = jv_up wi n a i ∧ (jv_up (jv_up (jv_up (jv_up me (4 * n) a) (4 * n + 1) b) (4 * n + 2) c) (4 * n + 3) d) (4 * i + 1) = jv_up he n b i ∧ (jv_up (jv_up (jv_up (jv_up me (4 * n) a) (4 * n + 1) b) (4 * n + 2) c) (4 * n + 3) d) (4 * i + 2) = jv_up le n c i ∧ (jv_up (jv_up (jv_up (jv_up me (4 * n) a) (4 * n + 1) b) (4 * n + 2) c) (4 * n + 3) d) (4 * i + 3) = jv_up fa n d i := by
  intro i h0 h1
  by_cases z : i = n
  · subst z
    simp only [jv_up_s]
    refine ⟨?_, ?_, ?_, trivial⟩
    · rw [jv_up_n _ (by omega), jv_up_n _ (by omega), jv_up_n _ (by omega), jv_up_s]
    · rw [jv_up_n _ (by omega), jv_up_n _ (by omega), jv_up_s]
    · rw [jv_up_n _ (by omega), jv_up_s]
  · have q := e i h0 (by omega)
    rw [jv_up_n wi z, jv_up_n he z, jv_up_n le z, jv_up_n fa z, ← q.1, ← q.2.1, ← q.2.2.1, ← q.2.2.2]
    refine ⟨?_, ?_, ?_, ?_⟩ <;> rw [jv_up_n _ (by omega), jv_up_n _ (by omega), jv_up_n _ (by omega), jv_up_n _ (by omega)]
theorem jq_gm_up {n : Nat} {me : Int → Int} {a b c d : Int} (hm : jq_gm me) (ok : jq_okC n a b c d) : jq_gm (jv_up (jv_up (jv_up (jv_up me (4 * n) a) (4 * n + 1) b) (4 * n + 2) c) (4 * n + 3) d) := by
  obtain ⟨o1, o2, o3, o4, o5⟩ := ok
  exact fun i => jq_up_b (jq_up_b (jq_up_b (jq_up_b hm (by omega)) (by omega)) (by omega)) (by omega) i
theorem jq_ss_R {sg : Int → Int} {n : Int} (hS : jq_S n sg) (e : (jq_ss sg n 6 0).1 = true) : jq_gR (jq_ss sg n 6 0).2.2 := ⟨(jq_ss_sm hS 6 0 (by have := hS.1; omega)).2.1, jq_ss_g hS 6 0 (by have := hS.1; omega) e⟩
