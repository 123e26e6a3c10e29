/-! CALLS: a method's locals at its entry; what a run grows by. -/
theorem ms_ents_len (ρ : Nat → Nat) : ∀ as : List Value, (ms_ents as).length = (lg_sl (as.map (ms_mv ρ))).length
  | [] => rfl
  | x :: r => by
    have ih := ms_ents_len ρ r
    cases x <;> simp [ms_ents, lg_sl, ms_mv, Value.category] at ih ⊢ <;> omega
theorem ms_ents_one (ρ : Nat → Nat) (x : Value) (r : List Value) (i i0 : Nat) (hx : x.category = 1) (ih : ∀ i i0, (ms_ents r).getD i .null ≠ .null → (i + i0, ms_mv ρ ((ms_ents r).getD i .null)) ∈ lv_args i0 (r.map (ms_mv ρ))) (h : (ms_ents (x :: r)).getD i .null ≠ .null) : (i + i0, ms_mv ρ ((ms_ents (x :: r)).getD i .null)) ∈ lv_args i0 ((x :: r).map (ms_mv ρ)) := by
  have e : ms_ents (x :: r) = x :: ms_ents r := by cases x <;> first | rfl | cases hx
  rw [e] at h ⊢
  have hc : ¬ (ms_mv ρ x).category = 2 := by rw [ms_mv_cat, hx]; decide
  simp only [List.map_cons, lv_args, if_neg hc]
  match i with
  | 0 => simp
  | i + 1 =>
    have h' : (ms_ents r).getD i .null ≠ .null := by simpa using h
    refine List.mem_cons_of_mem _ ?_
    rw [List.getD_cons_succ, show i + 1 + i0 = i + (i0 + 1) by omega]
    exact ih i (i0 + 1) h'
theorem ms_ents_mem (ρ : Nat → Nat) : ∀ (as : List Value) (i i0 : Nat), (ms_ents as).getD i .null ≠ .null → (i + i0, ms_mv ρ ((ms_ents as).getD i .null)) ∈ lv_args i0 (as.map (ms_mv ρ))
  | [], i, _, h => absurd (by simp [ms_ents]) h
  | .long x :: r, i, i0, h => by
    match i with
    | 0 => simp [ms_ents, lv_args]
    | 1 => exact absurd (by simp [ms_ents]) h
    | i + 2 =>
      have h' : (ms_ents r).getD i .null ≠ .null := by simpa [ms_ents] using h
      have ih := ms_ents_mem ρ r i (i0 + 2) h'
      simp only [ms_ents, List.getD_cons_succ, List.map_cons, lv_args, ms_mv, Value.category, if_true]
      refine List.mem_cons_of_mem _ ?_
      rw [show i + 2 + i0 = i + (i0 + 2) by omega]
      exact ih
  | .double x :: r, i, i0, h => by
    match i with
    | 0 => simp [ms_ents, lv_args]
    | 1 => exact absurd (by simp [ms_ents]) h
    | i + 2 =>
      have h' : (ms_ents r).getD i .null ≠ .null := by simpa [ms_ents] using h
      have ih := ms_ents_mem ρ r i (i0 + 2) h'
      simp only [ms_ents, List.getD_cons_succ, List.map_cons, lv_args, ms_mv, Value.category, if_true]
      refine List.mem_cons_of_mem _ ?_
      rw [show i + 2 + i0 = i + (i0 + 2) by omega]
      exact ih
  | .int x :: r, i, i0, h => ms_ents_one ρ (.int x) r i i0 rfl (by intro i i0 h; exact ms_ents_mem ρ r i i0 h) h
  | .float x :: r, i, i0, h => ms_ents_one ρ (.float x) r i i0 rfl (by intro i i0 h; exact ms_ents_mem ρ r i i0 h) h
  | .null :: r, i, i0, h => ms_ents_one ρ .null r i i0 rfl (by intro i i0 h; exact ms_ents_mem ρ r i i0 h) h
  | .ref x :: r, i, i0, h => ms_ents_one ρ (.ref x) r i i0 rfl (by intro i i0 h; exact ms_ents_mem ρ r i i0 h) h
  | .retAddr x :: r, i, i0, h => ms_ents_one ρ (.retAddr x) r i i0 rfl (by intro i i0 h; exact ms_ents_mem ρ r i i0 h) h
theorem ms_getD_app (A : List Value) (n i : Nat) : (A ++ List.replicate n Value.null).getD i .null = A.getD i .null := by
  rw [List.getD_eq_getElem?_getD, List.getD_eq_getElem?_getD]
  rcases Nat.lt_or_ge i A.length with h | h
  · rw [List.getElem?_append_left h]
  · rw [List.getElem?_append_right h, List.getElem?_eq_none h, List.getElem?_replicate]
    split <;> rfl
theorem ms_ent_Lr (ρ : Nat → Nat) (k : Nat) (as : List Value) (h : (ms_ents as).length ≤ ms_mx k) : (ms_ent k as).length = ms_mx k ∧ ms_Lr ρ ((lg_sl (as.map (ms_mv ρ)) ++ List.replicate (ms_mx k - (lg_sl (as.map (ms_mv ρ))).length) Slot.unset).toArray) (ms_ent k as) := by
  have hlen : (ms_ent k as).length = ms_mx k := by
    simp only [ms_ent, List.length_append, List.length_replicate]
    omega
  refine ⟨hlen, ?_⟩
  have hl := lv_entry (as.map (ms_mv ρ)) (n := ms_mx k) (by rw [← ms_ents_len]; exact h)
  refine ⟨by rw [hlen]; exact hl.1, hl.2.1, ?_⟩
  rintro ⟨i, u⟩ hm
  obtain ⟨-, h2, rfl⟩ := ms_lv_mem.mp hm
  have e : (ms_ent k as).getD i .null = (ms_ents as).getD i .null := ms_getD_app _ _ _
  rw [e] at h2 ⊢
  exact hl.2.2 _ (ms_ents_mem ρ as i 0 h2)
theorem ms_st1_grow {i : Jvm.ClassFile.Instr} {len : Nat} {x : ms_X} {pc : Nat} {L S : List Value} {σ : ms_M} {y : ms_N} (h : ms_st1 i len x pc L S σ = some y) : σ.1 ≤ y.2.2.2.1 ∧ σ.2.1 ≤ y.2.2.2.2.1 ∧ y.2.1.length = L.length := by
  unfold ms_st1 at h
  split at h
  all_goals (try unfold ms_ldi at h)
  all_goals (try unfold ms_ldl at h)
  all_goals (try unfold ms_lda at h)
  all_goals (try unfold ms_sti at h)
  all_goals (try unfold ms_stl at h)
  all_goals (try unfold ms_sta at h)
  all_goals (try unfold ms_ii at h)
  all_goals (try unfold ms_id at h)
  all_goals (try unfold ms_ll at h)
  all_goals (try unfold ms_li at h)
  all_goals (repeat' split at h)
  all_goals first
    | (cases h; done)
    | (cases h; exact ⟨Nat.le_refl _, Nat.le_refl _, rfl⟩)
    | (cases h; exact ⟨Nat.le_refl _, Nat.le_refl _, ms_s1_len _ _ _⟩)
    | (cases h; exact ⟨Nat.le_refl _, Nat.le_refl _, ms_s2_len _ _ _⟩)
    | (cases h; exact ⟨Nat.le_add_right _ _, Nat.le_add_right _ _, rfl⟩)
    | (cases h; refine ⟨?_, ?_, rfl⟩ <;> (dsimp only; omega))
    | (rw [Option.map_eq_some_iff] at h; obtain ⟨_, -, h⟩ := h; cases h; exact ⟨Nat.le_refl _, Nat.le_refl _, rfl⟩)
theorem ms_ev_grow (f : Nat) : ∀ {j pc : Nat} {L S : List Value} {σ : ms_M} {r : ms_R}, ms_ev f j pc L S σ = some r → σ.1 ≤ r.2.1 ∧ σ.2.1 ≤ r.2.2.1 := by
  induction f with
  | zero => intro j pc L S σ r h; cases h
  | succ f ih =>
    intro j pc L S σ r h
    rw [ms_ev] at h
    split at h
    · cases h
    · rename_i q hq
      unfold ms_stp at h
      split at h
      · split at h
        · rename_i y hy
          have h1 := ms_st1_grow hy
          have h2 := ih h
          exact ⟨Nat.le_trans h1.1 h2.1, Nat.le_trans h1.2.1 h2.2⟩
        · cases h
      · unfold ms_call at h
        split at h
        · split at h
          · rename_i w τ hτ
            have h1 := ih hτ
            have h2 := ih h
            exact ⟨Nat.le_trans h1.1 h2.1, Nat.le_trans h1.2 h2.2⟩
          · rename_i w τ hτ
            have h1 := ih hτ
            split at h
            · have h2 := ih h
              exact ⟨Nat.le_trans h1.1 h2.1, Nat.le_trans h1.2 h2.2⟩
            · cases h
          · cases h
        · cases h
      · unfold ms_ret at h
        repeat' split at h
        all_goals first
          | (cases h; done)
          | (cases h; exact ⟨Nat.le_refl _, Nat.le_refl _⟩)
      · unfold ms_thr at h
        repeat' split at h
        all_goals first
          | (cases h; done)
          | (cases h; exact ⟨Nat.le_add_right _ _, Nat.le_add_right _ _⟩)
