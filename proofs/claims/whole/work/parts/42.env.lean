/-! WHAT HOLDS AT A CALLER HOLDS AT THE METHOD CALLED. -/
theorem ms_words {args a' : Array Value} {s U : State} (hW : s.WarmedH U.vm) (h : ∀ w ∈ ms_ws, w.before args s = true) : ∀ w ∈ ms_ws, w.before a' U = true :=
  fun w hw => word_at hW (good_of_word (List.mem_filter.mp hw).2) (h w hw)
def ms_isN : Cond → Bool
  | .methodLinkNest .. => true
  | .fieldLinkNest .. => true
  | _ => false
theorem ms_nst_ok : ms_nst.all ms_isN = true := by decide +kernel
theorem ms_Zs.moved {v : ms_V} {n d : String} {s U : State} (hW : s.vm.Alike U.vm) (h : ms_Zs v n d s) : ms_Zs v n d U := by
  obtain ⟨c, k, i, f, a, cell, w, h1, h2, h3, h4, h5, h6, h7, h8, h9, h10⟩ := h
  obtain ⟨k', hi', he⟩ := State.fieldFound?_setVm hW h2
  exact ⟨c, k', i, f, a, cell, w, by rw [hW.findClass]; exact h1, hi', h3, by rw [he]; exact h4, h5, h6, h7, h8, by rw [he]; exact h9, h10⟩
theorem ms_Gx2.moved {v : ms_V} {s U : State} (hW : s.WarmedH U.vm) (h : ms_Gx2 v s) : ms_Gx2 v U := by
  obtain ⟨h1, ⟨h2, h3⟩, c0, c1, h4, h5, h6, h7⟩ := h
  refine ⟨fun w hw => ?_, ⟨h2.moved hW.alike, h3.moved hW.alike⟩, c0, c1, by rw [hW.alike.findClass]; exact h4, by rw [hW.alike.findClass]; exact h5, by rw [hW.alike.assignable]; exact h6, by rw [hW.alike.assignable]; exact h7⟩
  have h9 := h1 w hw
  simp only [ms_spw, List.mem_cons, List.not_mem_nil, or_false] at hw
  rcases hw with rfl | rfl | rfl | rfl | rfl
  · exact va_Nw.warmC hW h9
  · exact va_Nw.warmC hW h9
  · exact va_Nw.warmD hW h9
  · exact va_Nw.warmD hW h9
  · exact va_Nw.warmD hW h9
theorem ms_Gx.moved {v : ms_V} {s U : State} (hW : s.WarmedH U.vm) (h : ms_Gx v s) : ms_Gx v U := by
  obtain ⟨h1, h2, h3, h4, h5, h6, ⟨h7, h8⟩, ⟨k, h9, h10⟩, h11⟩ := h
  refine ⟨h1, h2.moved hW.alike, fun k hk => (h3 k hk).moved hW.alike, fun w hw => ?_, fun k hk => (h5 k hk).moved hW.alike, h6, ⟨h7.moved hW.alike, h8.moved hW.alike⟩, ?_, h11.moved hW⟩
  · have hN := List.all_eq_true.mp ms_nst_ok w hw
    have hw2 := h4 w hw
    cases w with
    | methodLinkNest a i x t => exact va_Nw.warmM hW hw2
    | fieldLinkNest a i b n d t => exact va_Nw.warmF hW hw2
    | _ => cases hN
  · obtain ⟨k', hk', he⟩ := hW.alike.2.2 _ _ h9
    exact ⟨k', hk', by rw [he]; exact h10⟩
-- a method's own word
def ms_cw (k : Nat) : Cond := match ms_hs k with
  | [] => .code (ms_y k) (ms_by k) (ms_mx k) (ms_rt k)
  | h :: r => .codeWith (ms_y k) (ms_by k) (ms_mx k) (ms_rt k) ((h :: r).map fun h => (h.1, h.2.1, h.2.2.1, h.2.2.2.2))
def ms_Hx (k : Nat) (c : Code) : Prop := c.exceptionTable.toList.map (fun h => (h.startPc, h.endPc, h.handlerPc, h.catchType)) = (ms_hs k).map fun h => (h.1, h.2.1, h.2.2.1, h.2.2.2.2)
theorem ms_cw_spec {args : Array Value} {s : State} {k : Nat} (h : (ms_cw k).before args s = true) : ∃ mk methk ck, s.methodNamed? (ms_y k) = some mk ∧ s.vm.method? mk = some methk ∧ methk.code = some ck ∧ ck.code = ms_by k ∧ ck.maxLocals = ms_mx k ∧ ms_Hx k ck ∧ methk.sig.returnType = ms_rt k ∧ methk.locks = false ∧ parseMethodDescriptor (ms_y k).desc = some methk.sig := by
  unfold ms_cw at h
  split at h
  · rename_i hh
    obtain ⟨mk, hn⟩ := Cond.code_named h
    obtain ⟨meth, c, h1, h2, h3, h4, h5, h6, h7, h8⟩ := Cond.code_spec hn h
    refine ⟨mk, meth, c, hn, h1, h2, h3, h4, ?_, h5, h6, h8⟩
    unfold ms_Hx
    have h0 : c.exceptionTable.size = 0 := by simpa [Array.isEmpty] using h7
    have h1 : c.exceptionTable.toList = [] := List.eq_nil_of_length_eq_zero (by simpa using h0)
    rw [h1, hh]
    rfl
  · rename_i hh
    obtain ⟨mk, meth, c, hn, h1, h2, h3, h4, h5, h6, h7, h8⟩ := Cond.codeWith_spec h
    exact ⟨mk, meth, c, hn, h1, h2, h3, h4, by unfold ms_Hx; rw [h5, hh], h6, h7, h8⟩
-- what a program decides of a method: the places of its words
def ms_okm (k : Nat) : Bool :=
  ms_has ((ms_mw k).getD 1 0) (.initialized (ms_ow k)) &&
  decide (ms_ow k ≠ "java/lang/invoke/MethodHandle" ∧ ms_ow k ≠ "java/lang/invoke/VarHandle") && plainFor (ms_y k) &&
  decide (ms_ini k = true → (ms_y k).name = "<init>") &&
  decide ((parseMethodDescriptor (ms_y k).desc).map (fun d => d.parameters.length) = some (if ms_st k = true then ms_na k else ms_na k - 1)) && decide (ms_st k = true ∨ 1 ≤ ms_na k) &&
  (if ms_st k = true then ms_has ((ms_mw k).getD 2 0) (.static (ms_y k)) else ms_has ((ms_mw k).getD 2 0) (.instanceMethod (ms_y k))) &&
  match ms_rc k with
  | some ci => ms_has ((ms_mw k).getD 3 0) (.selects (ms_ow k) (ms_y k) (ms_y k)) && decide ((ms_cl[ci]?).map (fun r => r.1) = some (ms_ow k))
  | none => decide (ms_st k = true ∨ ms_ini k = true)
-- the method called, in the real tables
def ms_Ck (s : State) (k : Nat) (mk : MethodId) (methk : Method) (ck : Code) : Prop :=
  s.methodNamed? (ms_y k) = some mk ∧ s.vm.method? mk = some methk ∧ methk.code = some ck ∧ ck.code = ms_by k ∧ ck.maxLocals = ms_mx k ∧ ms_Hx k ck ∧ methk.sig.returnType = ms_rt k ∧ methk.locks = false ∧ parseMethodDescriptor (ms_y k).desc = some methk.sig ∧ (ms_ini k = true → methk.name = "<init>") ∧ s.plainMethod mk
theorem ms_okm_spec {args : Array Value} {s : State} {k : Nat} (hcw : ms_cw k ∈ ms_ws) (h : ms_okm k = true) (hts : ∀ w ∈ ms_ws, w.before args s = true) : (∃ mk methk ck, ms_Ck s k mk methk ck) ∧ (Cond.initialized (ms_ow k)).before args s = true ∧ (ms_ow k ≠ "java/lang/invoke/MethodHandle" ∧ ms_ow k ≠ "java/lang/invoke/VarHandle") ∧
    (parseMethodDescriptor (ms_y k).desc).map (fun d => d.parameters.length) = some (if ms_st k = true then ms_na k else ms_na k - 1) ∧ (ms_st k = true ∨ 1 ≤ ms_na k) ∧
    (if ms_st k = true then (Cond.static (ms_y k)).before args s = true else (Cond.instanceMethod (ms_y k)).before args s = true) ∧
    (∀ ci, ms_rc k = some ci → (Cond.selects (ms_ow k) (ms_y k) (ms_y k)).before args s = true ∧ (ms_cl[ci]?).map (fun r => r.1) = some (ms_ow k)) := by
  simp only [ms_okm, Bool.and_eq_true, decide_eq_true_eq] at h
  obtain ⟨⟨⟨⟨⟨⟨⟨h2, h3⟩, h4⟩, h5⟩, h6⟩, h7⟩, h8⟩, h9⟩ := h
  obtain ⟨mk, methk, ck, g1, g2, g3, g4, g5, g6, g7, g8, g9⟩ := ms_cw_spec (hts _ hcw)
  refine ⟨⟨mk, methk, ck, g1, g2, g3, g4, g5, g6, g7, g8, g9, fun hi => (name_of_methodNamed g1 g2).1.trans (h5 hi), State.plainMethod.of_named h4 g1 g2⟩, hts _ (ms_has_in h2), h3, h6, h7, ?_, fun ci hc => ?_⟩
  · split at h8
    · rename_i hs
      rw [if_pos hs]
      exact hts _ (ms_has_in h8)
    · rename_i hs
      rw [if_neg hs]
      exact hts _ (ms_has_in h8)
  · rw [hc] at h9
    simp only [Bool.and_eq_true, decide_eq_true_eq] at h9
    exact ⟨hts _ (ms_has_in h9.1), h9.2⟩
