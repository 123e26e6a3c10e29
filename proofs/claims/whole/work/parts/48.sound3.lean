/-! SOUNDNESS: every run of the pure machine is one of the real machine. -/
section MsAll
variable {p : Program} {l : Launch} {e : Env} {R : Room} {s : State} {m : MethodId} {args : Array Value} {below : List Frame} {meth : Method} {c : Code} {H : Heap} {locs : List Loc} {cells slots : Nat} {Q : State → Prop}
variable {v : ms_V} {j pc len : Nat} {i : Jvm.ClassFile.Instr} {x : ms_X} {ls : Array Slot} {L S : List Value} {σ : ms_M}
theorem ms_same_heap {s t : State} {L : List Loc} {k n : Nat} (h : s.sameButNew ({ t with vm := s.vm } : State) L k n) (hL : ∀ q ∈ L, False) (hk : k = 0) : t.heap = s.heap := by
  have hL : L = [] := List.eq_nil_iff_forall_not_mem.mpr fun q hq => hL q hq
  subst hL
  subst hk
  have h2 : ({ t with vm := s.vm } : State) = s.setFrames ({ t with vm := s.vm } : State).frames := State.sameBut_nil.mp h.sameBut
  have h3 := congrArg State.heap h2
  exact h3
theorem ms_w_call (C : ms_Cx v j p s m args meth c) (hd : decode (ms_by j) pc = .ok (i, len)) (ck : ms_ckc j i len x = true) (hcan : ms_can x.1 S σ = true) (hL : ms_Lr (ms_vr v) ls L) (hLm : L.length = ms_mx j) (hR : ms_Rl v σ H) (hfr : ms_fr j ≤ R.frames) (hlo : ms_lo j ≤ R.locals) {rc : ms_R}
    (ihc : ms_Snd l v x.1 0 (ms_ent x.1 (S.take (ms_na x.1)).reverse) [] (σ.1, σ.2.1, false, σ.2.2.2) rc) (hc : cells + (rc.2.1 - σ.1) ≤ R.cells) (hs : slots + (rc.2.2.1 - σ.2.1) ≤ R.slots) (hw : rc.2.2.2.1 = false → rc.2 = (σ.1, σ.2.1, false, σ.2.2.2))
    (kret : ∀ o, rc.1 = .inl o → ∀ (H' : Heap) (locs' : List Loc), ms_Rl v rc.2 H' → (∀ q ∈ locs', q ∈ locs ∨ (rc.2.2.2.1 = true ∧ ms_vB v ≤ q.base)) → (rc.2.2.2.1 = false → H' = H ∧ locs' = locs) →
      W p l e R s m args below meth c H' locs' (cells + (rc.2.1 - σ.1)) (slots + (rc.2.2.1 - σ.2.1)) Q (F0 m (pc + 3) ls ((o.toList ++ S.drop (ms_na x.1)).map (ms_mv (ms_vr v)))))
    (kthr : ∀ k, rc.1 = .inr k → ∀ (T' : State) (locs' : List Loc), ms_Rl v rc.2 T'.heap → (∀ q ∈ locs', q ∈ locs ∨ (rc.2.2.2.1 = true ∧ ms_vB v ≤ q.base)) → Stand p l e R s m args below meth c T' locs' (cells + (rc.2.1 - σ.1)) (slots + (rc.2.2.1 - σ.2.1)) →
      (∃ cell, T'.heap[ms_vr v (rc.2.1 - 1)]? = some cell ∧ cell.vm = .none ∧ s.vm.findClass (ms_xn k) = some cell.cls) →
      ∃ t, Steps p.tables e below ((T'.setTop (F0 m pc ls ((S.drop (ms_na x.1)).map (ms_mv (ms_vr v))))).pushFrame (.throwing (ms_vr v (rc.2.1 - 1)))) t ∧ Q t) :
    W p l e R s m args below meth c H locs cells slots Q (F0 m pc ls (S.map (ms_mv (ms_vr v)))) := by
  intro T hT X
  subst hT
  have hb := C.1.2.1
  have hdT : decode c.code pc = .ok (i, len) := by rw [hb]; exact hd
  simp only [ms_ckc, Bool.and_eq_true, decide_eq_true_eq] at ck
  obtain ⟨⟨rfl, hk1, hk2, hf1, hl1⟩, ck⟩ := ck
  obtain ⟨hcw, hok⟩ := ms_okms x.1 hk1 hk2
  simp only [ms_can, Bool.and_eq_true, decide_eq_true_eq] at hcan
  obtain ⟨⟨⟨hcn, hc8⟩, hce⟩, hrcv⟩ := hcan
  have hsz : (F0 m pc ls ((S.drop (ms_na x.1)).map (ms_mv (ms_vr v)))).locals.size = c.maxLocals := (hL.1.trans hLm).trans C.1.2.2.1.symm
  have hstk : S = (S.take (ms_na x.1)).reverse.reverse ++ S.drop (ms_na x.1) := by rw [List.reverse_reverse, List.take_append_drop]
  have hal : (S.take (ms_na x.1)).reverse.length = ms_na x.1 := by rw [List.length_reverse, List.length_take]; omega
  generalize hAs : (S.take (ms_na x.1)).reverse = As at *
  generalize hRs : S.drop (ms_na x.1) = rest at *
  have key : ∃ mk methk ck vm₁, ms_Ck s x.1 mk methk ck ∧ Stand p l e R s m args below meth c (T.setVm vm₁) locs cells slots ∧ ∀ target, (∀ acts, Steps p.tables e below (doInvoke e ((T.setVm vm₁).setTop (F0 m pc ls (rest.map (ms_mv (ms_vr v))))) acts mk (As.map (ms_mv (ms_vr v))).toArray).1 target) → Steps p.tables e below (T.setTop (F0 m pc ls (S.map (ms_mv (ms_vr v))))) target := by
    cases i with
    | invokestatic q =>
      simp only [Bool.and_eq_true] at ck
      exact ms_goS X C hcw hok ck.1 ck.2 (g := F0 m pc ls (S.map (ms_mv (ms_vr v)))) rfl (As := As.map (ms_mv (ms_vr v))) (rest := rest.map (ms_mv (ms_vr v))) (by rw [List.length_map]; exact hal) (by show S.map _ = _; rw [hstk, List.map_append, List.map_reverse]) hdT
    | invokevirtual q =>
      simp only [Bool.and_eq_true, Bool.not_eq_true', decide_eq_true_eq] at ck
      obtain ⟨⟨⟨hr1, hst⟩, h0⟩, hln⟩ := ck
      obtain ⟨ci, hci⟩ := Option.isSome_iff_exists.mp hr1
      rw [hci] at hrcv
      obtain ⟨-, -, -, -, hna, -, hsel⟩ := ms_okm_spec hcw hok C.2.1
      cases As with
      | nil => simp at hrcv
      | cons a0 As =>
        simp only [List.head?_cons] at hrcv
        split at hrcv
        · rename_i a ha
          cases ha
          split at hrcv
          · rename_i cj fs hM
            have hcj := of_decide_eq_true hrcv
            subst hcj
            have hnm := (hsel cj hci).2
            cases hr : ms_cl[cj]? with
            | none => rw [hr] at hnm; cases hnm
            | some r0 =>
              rw [hr] at hnm
              have hnm : r0.1 = ms_ow x.1 := Option.some.inj hnm
              obtain ⟨-, cellB, g1, g2, g3, -⟩ := ms_obj hR hM hr
              have hfc : s.vm.findClass (ms_ow x.1) = some cellB.cls := by
                rw [g2, ← hnm]
                exact (C.2.2.1.2.1.1 cj r0 hr).2.1
              exact ms_goV X C hcw hok hst hci h0 hln (g := F0 m pc ls (S.map (ms_mv (ms_vr v)))) rfl (b := ms_vr v a) g1 g3 hfc (As := As.map (ms_mv (ms_vr v))) (rest := rest.map (ms_mv (ms_vr v))) (by rw [List.length_map]; exact hal) (by show S.map _ = _; rw [hstk, List.map_append, List.map_reverse]; simp [ms_mv]) hdT
          · cases hrcv
        · cases hrcv
    | invokespecial q =>
      simp only [Bool.and_eq_true, Bool.not_eq_true', decide_eq_true_eq] at ck
      obtain ⟨⟨⟨⟨hini, hst⟩, hnone⟩, hhs, hrt⟩, hln⟩ := ck
      have hnone : ms_rc x.1 = none := Option.isNone_iff_eq_none.mp hnone
      rw [hnone, hini] at hrcv
      simp only [Bool.not_true, Bool.false_or] at hrcv
      cases As with
      | nil => simp at hrcv
      | cons a0 As =>
        simp only [List.head?_cons] at hrcv
        split at hrcv
        · rename_i a ha
          cases ha
          exact ms_goI X C hcw hok hst hini hhs hrt hln (g := F0 m pc ls (S.map (ms_mv (ms_vr v)))) rfl (b := ms_vr v a) (As := As.map (ms_mv (ms_vr v))) (rest := rest.map (ms_mv (ms_vr v))) (by rw [List.length_map]; exact hal) (by show S.map _ = _; rw [hstk, List.map_append, List.map_reverse]; simp [ms_mv]) hdT
        · cases hrcv
    | _ => cases ck
  obtain ⟨mk, methk, ckk, vm₁, hCk, X₁, st1⟩ := key
  obtain ⟨t, hst, hend⟩ := ms_body X₁ C hCk (g := F0 m pc ls (rest.map (ms_mv (ms_vr v)))) rfl hsz rfl (by rw [ms_mv_sum]; exact hc8) hdT (Nat.le_trans hf1 hfr) (Nat.le_trans hl1 hlo) hce rfl (show ms_Rl v (σ.1, σ.2.1, false, σ.2.2.2) T.heap from hR) hc hs ihc
  obtain ⟨hrun, hWt, hRt, ⟨Lw, hLw, hsame⟩, hfin⟩ := hend
  have hloc : ∀ q ∈ locs ++ Lw, q ∈ locs ∨ (rc.2.2.2.1 = true ∧ ms_vB v ≤ q.base) := fun q hq => by
    rcases List.mem_append.mp hq with h1 | h1
    · exact Or.inl h1
    · exact Or.inr (hLw q h1)
  cases hrc : rc.1 with
  | inl o =>
    rw [hrc] at hfin
    obtain ⟨T', X', -, -, ht⟩ := X₁.outOf (g := F0 m pc ls (rest.map (ms_mv (ms_vr v)))) rfl hdT hfin hWt hsame
    have hh : T'.heap = t.heap := by rw [ht]; rfl
    obtain ⟨t2, a2, b2⟩ := kret o hrc T'.heap (locs ++ Lw) (by rw [hh]; exact hRt) hloc (fun h0 => by
      have hLn : ∀ q ∈ Lw, False := fun q hq => by have := (hLw q hq).1; rw [h0] at this; cases this
      have hk : rc.2.1 - σ.1 = 0 := by have := congrArg Prod.fst (hw h0); simp only at this; omega
      refine ⟨?_, ?_⟩
      · rw [hh]
        have h9 := ms_same_heap hsame hLn hk
        exact h9
      · rw [List.eq_nil_iff_forall_not_mem.mpr fun q hq => hLn q hq, List.append_nil]) T' rfl X'
    refine ⟨t2, st1 t2 (fun acts => (hst acts).trans ?_), b2⟩
    rw [ht]
    have e1 : (o.map (ms_mv (ms_vr v))).toList ++ rest.map (ms_mv (ms_vr v)) = (o.toList ++ rest).map (ms_mv (ms_vr v)) := by cases o <;> simp
    have a3 := a2
    rw [← e1] at a3
    exact a3
  | inr k =>
    rw [hrc] at hfin
    obtain ⟨hfin, cell, hx1, hx2, hx3⟩ := hfin
    obtain ⟨T', X', -, -, ht⟩ := X₁.outOfThrown (g := F0 m pc ls (rest.map (ms_mv (ms_vr v)))) rfl hfin hWt hsame
    have hh : T'.heap = t.heap := by rw [ht]; rfl
    have hx3' : s.vm.findClass (ms_xn k) = some cell.cls := by
      have h5 : (T.setVm vm₁).vm.findClass (ms_xn k) = some cell.cls := hx3
      rw [X₁.warmed.alike.findClass] at h5
      exact h5
    obtain ⟨t2, a2, b2⟩ := kthr k hrc T' (locs ++ Lw) (by rw [hh]; exact hRt) hloc X' ⟨cell, by rw [hh]; exact hx1, hx2, hx3'⟩
    refine ⟨t2, st1 t2 (fun acts => (hst acts).trans ?_), b2⟩
    rw [ht]
    exact a2
end MsAll
