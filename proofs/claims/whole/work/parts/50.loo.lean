/-! THE LAW'S LOOP -/
theorem jl_next {X : jv_M} {n0 : Nat} {sc : Int → Int} (hX : jl_X X n0 sc) (hn : n0 ≤ 2560) (hsc : ∀ k, jq_rg (sc k)) {i : Int} {h : List jv_E} (hi : 0 ≤ i ∧ i + 5 ≤ n0) (hI : jI h) (kk : ∀ h', jI h' → jv_J X cL_law RL 15 962 [some (.ref 2000), some (.ref 0), some (.ref 97), some (.int (jv_i i))] [] h') : jv_J X cL_law RL 15 26 [some (.ref 2000), some (.ref 0), some (.ref 97), some (.int (jv_i i))] [] h := by
  refine jv_aload_n dL_law_26 rfl ?_
  refine jv_iload_n dL_law_27 rfl ?_
  refine jl_sld dL_law_28 hX (by omega) hn ?_
  refine jv_bipush dL_law_29 ?_
  refine jl_iand dL_law_31 ?_
  have g1 : -2147483648 ≤ (jv_i (sc i) &&& jv_i 31).toInt := Int32.le_toInt _
  have g2 := Int32.toInt_lt (jv_i (sc i) &&& jv_i 31)
  generalize (jv_i (sc i) &&& jv_i 31).toInt = m at g1 g2 ⊢
  by_cases z : m < 0 ∨ 19 < m
  · exact jv_tabOut 962 dL_law_32 z (kk h hI)
  · have c : m = 0 ∨ m = 1 ∨ m = 2 ∨ m = 3 ∨ m = 4 ∨ m = 5 ∨ m = 6 ∨ m = 7 ∨ m = 8 ∨ m = 9 ∨ m = 10 ∨ m = 11 ∨ m = 12 ∨ m = 13 ∨ m = 14 ∨ m = 15 ∨ m = 16 ∨ m = 17 ∨ m = 18 ∨ m = 19 := by omega
    rcases c with rfl | rfl | rfl | rfl | rfl | rfl | rfl | rfl | rfl | rfl | rfl | rfl | rfl | rfl | rfl | rfl | rfl | rfl | rfl | rfl
    · exact jv_tabIn 128 dL_law_32 (by decide) (by decide) rfl (jl_rain hX hn hsc hi hI kk)
    · exact jv_tabIn 171 dL_law_32 (by decide) (by decide) rfl (jl_volume hX hn hsc hi hI kk)
    · exact jv_tabIn 215 dL_law_32 (by decide) (by decide) rfl (jl_by hX hn hsc hi hI kk)
    · exact jv_tabIn 258 dL_law_32 (by decide) (by decide) rfl (jl_outflow hX hn hsc hi hI kk)
    · exact jv_tabIn 331 dL_law_32 (by decide) (by decide) rfl (jl_level hX hn hsc hi hI kk)
    · exact jv_tabIn 364 dL_law_32 (by decide) (by decide) rfl (jl_area hX hn hsc hi hI kk)
    · exact jv_tabIn 387 dL_law_32 (by decide) (by decide) rfl (jl_content hX hn hsc hi hI kk)
    · exact jv_tabIn 411 dL_law_32 (by decide) (by decide) rfl (jl_fill hX hn hsc hi hI kk)
    · exact jv_tabIn 464 dL_law_32 (by decide) (by decide) rfl (jl_culvert hX hn hsc hi hI kk)
    · exact jv_tabIn 517 dL_law_32 (by decide) (by decide) rfl (jl_unit hX hn hsc hi hI kk)
    · exact jv_tabIn 540 dL_law_32 (by decide) (by decide) rfl (jl_states hX hn hsc hi hI kk)
    · exact jv_tabIn 553 dL_law_32 (by decide) (by decide) rfl (jl_state hX hn hsc hi hI kk)
    · exact jv_tabIn 606 dL_law_32 (by decide) (by decide) rfl (jl_head hX hn hsc hi hI kk)
    · exact jv_tabIn 659 dL_law_32 (by decide) (by decide) rfl (jl_day hX hn hsc hi hI kk)
    · exact jv_tabIn 712 dL_law_32 (by decide) (by decide) rfl (jl_run hX hn hsc hi hI kk)
    · exact jv_tabIn 805 dL_law_32 (by decide) (by decide) rfl (jl_behind hX hn hsc hi hI kk)
    · exact jv_tabIn 839 dL_law_32 (by decide) (by decide) rfl (jl_room hX hn hsc hi hI kk)
    · exact jv_tabIn 903 dL_law_32 (by decide) (by decide) rfl (jl_way hX hn hsc hi hI kk)
    · exact jv_tabIn 926 dL_law_32 (by decide) (by decide) rfl (jl_stops hX hn hsc hi hI kk)
    · exact jv_tabIn 939 dL_law_32 (by decide) (by decide) rfl (jl_count hX hn hsc hi hI kk)
theorem jl_loop {X : jv_M} {n0 : Nat} {sc : Int → Int} (hX : jl_X X n0 sc) (hn : n0 ≤ 2560) (hsc : ∀ k, jq_rg (sc k)) (hend : ∀ (i : Int) (h : List jv_E), jv_J X cL_law RL 15 968 [some (.ref 2000), some (.ref 0), some (.ref 97), some (.int (jv_i i))] [] h) : ∀ (f : Nat) (i : Int) (h : List jv_E), jI h → 0 ≤ i ∧ i ≤ n0 → n0 ≤ i + f → jv_J X cL_law RL 15 18 [some (.ref 2000), some (.ref 0), some (.ref 97), some (.int (jv_i i))] [] h
  | f, i, h, hI, h0, hf => by
    refine jv_iload_n dL_law_18 rfl ?_
    refine jv_aload_n dL_law_19 rfl ?_
    refine jl_slen dL_law_20 hX ?_
    refine jv_iconst dL_law_21 ?_
    refine jv_isub dL_law_22 ?_
    refine jv_icmp_gt 968 dL_law_23 (fun _ => hend i h) (fun c => ?_)
    refine jl_next hX hn hsc ⟨h0.1, by omega⟩ hI (fun h' hI' => ?_)
    refine jv_iinc dL_law_962 rfl rfl ?_
    refine jv_goto 18 dL_law_965 ?_
    cases f with
    | zero => exact absurd hf (by omega)
    | succ f => exact jl_loop hX hn hsc hend f (i + 5) h' hI' (by omega) (by omega)
/-! the worlds at the law's start tell the same -/
theorem jI_start : jI (rX7 0 ++ rX8 97) := by
  have rows : ∀ (p i : Nat), (p = 17 ∨ p = 53) → i < 30 → (rX7 0 ++ rX8 97)[p + 4 + i]? = some (jv_ai 8 (fun _ => 0)) := by
    intro p i hp hi
    have c : i = 0 ∨ i = 1 ∨ i = 2 ∨ i = 3 ∨ i = 4 ∨ i = 5 ∨ i = 6 ∨ i = 7 ∨ i = 8 ∨ i = 9 ∨ i = 10 ∨ i = 11 ∨ i = 12 ∨ i = 13 ∨ i = 14 ∨ i = 15 ∨ i = 16 ∨ i = 17 ∨ i = 18 ∨ i = 19 ∨ i = 20 ∨ i = 21 ∨ i = 22 ∨ i = 23 ∨ i = 24 ∨ i = 25 ∨ i = 26 ∨ i = 27 ∨ i = 28 ∨ i = 29 := by omega
    rcases hp with rfl | rfl <;> rcases c with rfl | rfl | rfl | rfl | rfl | rfl | rfl | rfl | rfl | rfl | rfl | rfl | rfl | rfl | rfl | rfl | rfl | rfl | rfl | rfl | rfl | rfl | rfl | rfl | rfl | rfl | rfl | rfl | rfl | rfl <;> rfl
  refine ⟨17, 53, 0, 0, 0, 0, 0, 0, 0, 0, 0, 0, Or.inl ⟨rfl, rfl⟩, rfl, rfl, ⟨0, fun _ => 0, fun _ => 0, fun _ => 0, rfl, ⟨rfl, rfl, rfl, rfl⟩, ⟨rfl, rfl, rfl⟩, ⟨by omega, fun i => by dsimp only; omega⟩, fun i a b => absurd b (by omega)⟩, ⟨0, fun _ => 0, fun _ => 0, fun _ => 0, rfl, ⟨rfl, rfl, rfl, rfl⟩, ⟨rfl, rfl⟩, ⟨by omega, fun i => by dsimp only; omega, fun i a b => absurd b (by omega), fun z => absurd z (by omega)⟩⟩, ⟨0, fun _ => 0, fun _ => 0, fun _ => 0, fun _ => 0, fun _ => 0, fun _ => 0, rfl, ⟨rfl, rfl, rfl, rfl, rfl, rfl⟩, rfl, ⟨by omega, fun i => by dsimp only; omega⟩, fun i => by dsimp only; omega, fun i a b => absurd b (by omega)⟩, ⟨0, fun _ => 0, ⟨rfl, rfl⟩, rfl, ⟨by omega, fun i => by dsimp only; omega⟩⟩, ⟨[], fun _ => 0, fun _ => 0, fun _ => 0, fun _ => 0, fun _ _ => 0, fun _ => 0, fun _ => 0, fun _ => 0, fun _ => 0, fun _ => 0, rfl, ⟨rfl, rfl, rfl, rfl, rfl, rfl, fun i hi => rows 17 i (Or.inl rfl) hi⟩, ⟨0, 0, fun _ => 0, fun _ => 0, fun _ => 0, fun _ => 0, fun _ _ => 0, ⟨rfl, rfl, rfl, rfl, rfl, rfl, fun i hi => rows 53 i (Or.inr rfl) hi⟩⟩, ⟨rfl, rfl, rfl, rfl, rfl⟩, ⟨by simp, by simp⟩, fun g T z => by simp at z, fun s z => by simp at z, fun s l z => by simp at z⟩, ⟨0, fun _ => 0, fun _ => 0, fun _ => 0, fun _ => 0, fun _ => 0, fun _ => 0, fun _ => 0, fun _ => 0, 0, rfl, ⟨rfl, rfl, rfl, rfl, rfl, rfl⟩, ⟨rfl, rfl, rfl, rfl⟩, ⟨by omega, fun i => by dsimp only; omega, rfl⟩, Or.inl rfl⟩, ⟨fun _ => 0, ⟨rfl, rfl⟩, rfl, by omega, fun i => by dsimp only; omega⟩⟩
