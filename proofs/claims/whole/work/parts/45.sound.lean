/-! A RUN OF THE PURE MACHINE IS A RUN OF THE REAL ONE. -/
theorem ms_ok_at {j pc : Nat} {q : ms_I} (h : ms_at j pc = some q) : ms_ckA j pc q = true := by
  unfold ms_at at h
  have key : ∀ (l : List (Nat × ms_I)), l.lookup pc = some q → (pc, q) ∈ l := by
    intro l
    induction l with
    | nil => intro h; cases h
    | cons a l ih =>
      intro h
      obtain ⟨k, z⟩ := a
      rw [List.lookup_cons] at h
      split at h
      · rename_i hk
        have hk : pc = k := by simpa using hk
        subst hk
        cases h
        exact List.mem_cons_self
      · exact List.mem_cons_of_mem _ (ih h)
  exact ms_oks j (pc, q) (key _ h)
-- the end of a method's run
def ms_End (v : ms_V) (r : ms_R) (below : List Frame) (s : State) (cells slots : Nat) (t : State) : Prop :=
  t.status = .running ∧ s.WarmedH t.vm ∧ ms_Rl v r.2 t.heap ∧ (∃ L, (∀ q ∈ L, r.2.2.2.1 = true ∧ ms_vB v ≤ q.base) ∧ s.sameButNew ({ t with vm := s.vm } : State) L cells slots) ∧
  match r.1 with
  | .inl o => Ended t below (.returned (o.map (ms_mv (ms_vr v))))
  | .inr k => Ended t below (.threw (ms_vr v (r.2.1 - 1))) ∧ ∃ cell, t.heap[ms_vr v (r.2.1 - 1)]? = some cell ∧ cell.vm = .none ∧ s.vm.findClass (ms_xn k) = some cell.cls
section MsSound
variable {p : Program} {l : Launch} {e : Env} {R : Room} {s : State} {m : MethodId} {args : Array Value} {below : List Frame} {meth : Method} {c : Code} {H : Heap} {locs : List Loc} {cells slots : Nat} {Q Q' : State → Prop}
variable {v : ms_V} {j pc : Nat} {ls : Array Slot} {L S : List Value} {σ : ms_M} {r : ms_R}
theorem ms_Wm {g : JFrame} (h : ∀ t, Q t → Q' t) (k : W p l e R s m args below meth c H locs cells slots Q g) : W p l e R s m args below meth c H locs cells slots Q' g := fun T hT X => by
  obtain ⟨t, a, b⟩ := k T hT X
  exact ⟨t, a, h t b⟩
theorem ms_w_ret {i : Jvm.ClassFile.Instr} {len : Nat} (C : ms_Cx v j p s m args meth c) (hd : decode (ms_by j) pc = .ok (i, len)) (ck : ms_ckr j i len = true) (h : ms_ret j S σ = some r) (hR : ms_Rl v σ H) (hl : ∀ q ∈ locs, σ.2.2.1 = true ∧ ms_vB v ≤ q.base) :
    W p l e R s m args below meth c H locs cells slots (ms_End v r below s cells slots) (F0 m pc ls (S.map (ms_mv (ms_vr v)))) := by
  obtain ⟨⟨hx, hb, -, -⟩, -, -, hr, hlk, -⟩ := C
  simp only [ms_ckr, Bool.and_eq_true, decide_eq_true_eq] at ck
  obtain ⟨rfl, ck⟩ := ck
  have fin : ∀ (o : Option Value) (t : State), MQ below (fun _ _ oc t => oc = .returned (o.map (ms_mv (ms_vr v))) ∧ t.heap = H) args s cells slots (fun q => σ.2.2.1 = true ∧ ms_vB v ≤ q) t → ms_End v (.inl o, σ) below s cells slots t := by
    rintro o t ⟨oc, hrun, hend, ⟨rfl, hh⟩, L, ⟨-, hW, hsame⟩, hfree⟩
    exact ⟨hrun, hW, by rw [hh]; exact hR, ⟨L, hfree, hsame⟩, hend⟩
  unfold ms_ret at h
  split at h
  · split at h
    · rename_i hok
      cases h
      split at ck
      · rename_i he; rw [he] at hok; cases hok
      · rename_i he; rw [he] at hok; cases hok
      · rename_i he; rw [he] at hok; cases hok
      · rename_i he; rw [he] at hok; cases hok
      · rename_i he; rw [he] at hok; cases hok
      · rename_i he
        exact ms_Wm (fin none) (W.vret hx hb (hr.trans he) (fun t ht hW => ⟨rfl, ht⟩) hl hd hlk)
      · cases ck
    · cases h
  · rename_i val
    split at h
    · rename_i hok
      cases h
      split at ck
      · rename_i he
        rw [he] at hok
        cases val with
        | int z => exact ms_Wm (fin (some (.int z))) (W.iret hx hb (hr.trans he) (fun t ht hW => ⟨rfl, ht⟩) hl hd hlk)
        | _ => cases hok
      · rename_i he
        rw [he] at hok
        cases val with
        | int z =>
          have hz := of_decide_eq_true hok
          refine ms_Wm (fin (some (.int z))) (W.zret hx hb (hr.trans he) ?_ (fun t ht hW => ⟨rfl, ht⟩) hl hd hlk)
          rcases hz with rfl | rfl <;> decide
        | _ => cases hok
      · rename_i he
        rw [he] at hok
        cases val with
        | long z => exact ms_Wm (fin (some (.long z))) (W.lret hx hb (hr.trans he) (fun t ht hW => ⟨rfl, ht⟩) hl hd hlk)
        | _ => cases hok
      · rename_i he
        rw [he] at hok
        cases val with
        | ref z => exact ms_Wm (fin (some (.ref z))) (W.aret hx hb (hr.trans he) (Or.inl ⟨_, rfl⟩) (Or.inr ⟨_, rfl⟩) (fun t ht hW => ⟨rfl, ht⟩) hl hd hlk)
        | _ => cases hok
      · rename_i he
        rw [he] at hok
        cases val with
        | ref z => exact ms_Wm (fin (some (.ref z))) (W.aret hx hb (hr.trans he) (Or.inr ⟨_, rfl⟩) (Or.inr ⟨_, rfl⟩) (fun t ht hW => ⟨rfl, ht⟩) hl hd hlk)
        | _ => cases hok
      · rename_i he
        rw [he] at hok
        cases val <;> cases hok
      · cases ck
    · cases h
  · cases h
end MsSound
