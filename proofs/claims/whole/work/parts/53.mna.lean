/-! the making of an array of arrays -/
theorem jn_arrV_cg (cA : ClassId) (N : Nat) {f g : Nat → Value} (e : ∀ j, j < N → f j = g j) : arrV cA N f = arrV cA N g := by
  have q : (fun j : Fin N => f j.val) = fun j : Fin N => g j.val := funext fun j => e j.val j.isLt
  unfold arrV
  rw [q]
theorem jn_outerC (cA : ClassId) (N h0 : Nat) : ∀ i : Nat, Jvm.Free.Multi.outerC cA N h0 i = arrV cA N (fun j => if j < i then Value.ref (h0 + 1 + j) else .null)
  | 0 => by
    rw [Jvm.Free.Multi.outerC, arrV_new]
    exact jn_arrV_cg cA N (fun j _ => by rw [if_neg (by omega)])
  | i + 1 => by
    rw [Jvm.Free.Multi.outerC, jn_outerC cA N h0 i, arrV_store]
    refine jn_arrV_cg cA N (fun j _ => ?_)
    unfold updV
    by_cases e : j = i
    · subst e; rw [if_pos rfl, if_pos (by omega)]
    · by_cases q : j < i
      · rw [if_neg e, if_pos (show j < i + 1 by omega)]; exact if_pos q
      · rw [if_neg e, if_neg (show ¬ j < i + 1 by omega)]; exact if_neg q
theorem jn_outer (cA : ClassId) (h0 : Nat) (g : Nat → Nat) (hg : ∀ j, j < 30 → g j = h0 + 1 + j) : Jvm.Free.Multi.outerC cA 30 h0 30 = arrV cA 30 (fun j => Value.ref (g j)) := by
  rw [jn_outerC]
  exact jn_arrV_cg cA 30 (fun j hj => by rw [if_pos hj, hg j hj])
theorem jn_ma : jn_MA := by
  intro X cc own K B pc idx L S h cells slots d w1 w2 hl hc hs kk
  obtain ⟨⟨p, l, e, R, s⟩, ⟨m, args, below, meth, c⟩, Q, ⟨G, base, nL⟩⟩ := X
  intro C hN H locs ls hz hP hS hL
  have C9 := C
  obtain ⟨hx, hb, hml, hown, hts, hK, hbs, had, hR, hB1, hB2, hAO⟩ := C9
  have e30 : (jv_i 30).toNatClampNeg = 30 := by decide
  have e8 : (jv_i 8).toNatClampNeg = 8 := by decide
  intro T hT Xs
  obtain ⟨vm₁, cA, comp, -, fA, fC, -, -, X', step⟩ := Xs.multianewarray2F hx (own := own) (index := idx) (ty := .int) hown (hts _ w1) (over_moved (Vm.Alike.refl _) hAO.1) (hts _ w2) (g := F0 m pc ls ((Value.int (jv_i 8) :: Value.int (jv_i 30) :: S).map (jv_V G.2.2))) rfl (by rw [hb]; exact d) (n := jv_i 30) (k := jv_i 8) (rest := S.map (jv_V G.2.2)) rfl (by decide) (by decide) (by decide) (by decide) (by decide) rfl rfl (by rw [e30]; exact Nat.le_trans (by omega) hB1) (by rw [e30, e8]; exact Nat.le_trans (by omega) hB2)
  rw [e30, e8] at X' step
  have eA : cA = G.2.1.2.2.2 := Option.some.inj (fA.symm.trans (hK.2 3 (G.2.1.2.2.2, .array .int) rfl).2)
  have eC : comp = G.2.1.1 := Option.some.inj (fC.symm.trans (hK.2 0 (G.2.1.1, .int) rfl).2)
  subst eA; subst eC
  have hsz : (T.setVm vm₁).heap.size = base + h.length := by show T.heap.size = _; rw [hT]; exact hz
  obtain ⟨f1, f2, -, -⟩ := Jvm.Free.Multi.fill_facts (T.setVm vm₁) G.2.1.2.2.2 G.2.1.1 30 8 (defaultValue .int) 30
  have f3 : ∀ q : Nat, q < base + h.length → (Jvm.Free.Multi.fill (T.setVm vm₁) G.2.1.2.2.2 G.2.1.1 30 8 (defaultValue .int) 30).heap[q]? = H[q]? := fun q hq => by
    rw [Jvm.Free.Multi.fill_old (T.setVm vm₁) G.2.1.2.2.2 G.2.1.1 30 8 (defaultValue .int) (by rw [hsz]; exact hq) 30]
    show T.heap[q]? = _
    rw [hT]
  have f4 : ∀ j : Nat, j < 30 → (Jvm.Free.Multi.fill (T.setVm vm₁) G.2.1.2.2.2 G.2.1.1 30 8 (defaultValue .int) 30).heap[base + h.length + 1 + j]? = some (arrV G.2.1.1 8 (fun _ => defaultValue .int)) := fun j hj => by
    have := Jvm.Free.Multi.fill_inner (T.setVm vm₁) G.2.1.2.2.2 G.2.1.1 30 8 (defaultValue .int) 30 j hj
    rw [hsz] at this
    rw [this, ← arrV_new]
    rfl
  rw [hsz] at f1 f2
  have e9 := had h.length (by omega)
  have hP1 : va_P G.1 jv_cl (jv_tr G (h ++ (jv_aq 30 (fun i => h.length + 1 + i.toNat) :: List.replicate 30 (jv_ai 8 (fun _ => 0))))) (Jvm.Free.Multi.fill (T.setVm vm₁) G.2.1.2.2.2 G.2.1.1 30 8 (defaultValue .int) 30).heap := by
    intro k q hq
    simp only [jv_tr, List.getElem?_mapIdx] at hq
    by_cases hk : k < h.length
    · rw [List.getElem?_append_left hk] at hq
      have hq2 : (jv_tr G h)[k]? = some q := by simp only [jv_tr, List.getElem?_mapIdx]; exact hq
      have hv := hP k q hq2
      exact hv.kept (f3 q.1 (by rw [← hz]; exact hv.lt))
    · rw [List.getElem?_append_right (by omega)] at hq
      by_cases hk2 : k = h.length
      · subst hk2
        rw [Nat.sub_self] at hq
        cases hq
        show _ = some (vp_cell _ _)
        rw [e9, f2, jn_outer G.2.1.2.2.2 (base + h.length) (fun j => G.2.2 (h.length + 1 + ((j : Nat) : Int).toNat)) (fun j hj => by rw [Int.toNat_natCast, had _ (by omega)]; omega)]
        rfl
      · obtain ⟨j, hj⟩ : ∃ j, k - h.length = j + 1 := ⟨k - h.length - 1, by omega⟩
        rw [hj, List.getElem?_cons_succ, List.getElem?_replicate] at hq
        by_cases hj30 : j < 30
        · rw [if_pos hj30] at hq
          cases hq
          show _ = some (vp_cell _ _)
          rw [had k (by omega), show base + k = base + h.length + 1 + j by omega, f4 j hj30]
          rfl
        · rw [if_neg hj30] at hq
          cases hq
  have hlen : (h ++ (jv_aq 30 (fun i => h.length + 1 + i.toNat) :: List.replicate 30 (jv_ai 8 (fun _ => 0)))).length = h.length + 31 := by simp
  obtain ⟨t, a1, b1⟩ := kk C (by rw [hlen]; omega) (Jvm.Free.Multi.fill (T.setVm vm₁) G.2.1.2.2.2 G.2.1.1 30 8 (defaultValue .int) 30).heap locs ls (by rw [f1, hlen]; omega) hP1 (jn_S hS hz (by rw [f1]; omega) f3) hL (Jvm.Free.Multi.fill (T.setVm vm₁) G.2.1.2.2.2 G.2.1.1 30 8 (defaultValue .int) 30) rfl X'
  refine ⟨t, step t ?_, b1⟩
  have e7 : T.heap.size = G.2.2 h.length := by rw [hT, hz, e9]
  rw [e7]
  exact a1
/-- from the entry, for every script of at most 2560 ints, the law comes to its end with true -/
theorem whole_start {p : Program} {e : Env} {s : State} {m : MethodId} {below : List Frame} {meth : Method} {c : Code} (l : Launch) {b L : Nat} {xs : Nat → Int32} (hL : L ≤ 2560) (C0 : lw_At p s m meth c b L xs) : W p l e room_1 s m #[Value.ref b] below meth c s.heap [] 0 0 (lw_Z below #[Value.ref b] s) (entryFrame m ([Value.ref b] : List Value).toArray 4) := whole_startM jn_ma l hL C0
