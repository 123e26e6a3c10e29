/-! CALLS. -/
theorem ms_st1_w {i : Jvm.ClassFile.Instr} {len : Nat} {x : ms_X} {pc : Nat} {L S : List Value} {σ : ms_M} {y : ms_N} (h : ms_st1 i len x pc L S σ = some y) : y.2.2.2.2.2.1 = false → y.2.2.2 = σ := by
  unfold ms_st1 at h
  split at h
  all_goals (try unfold ms_ldi at h)
  all_goals (try unfold ms_ldl at h)
  all_goals (try unfold ms_lda at h)
  all_goals (try unfold ms_sti at h)
  all_goals (try unfold ms_stl at h)
  all_goals (try unfold ms_sta at h)
  all_goals (try unfold ms_ii at h)
  all_goals (try unfold ms_id at h)
  all_goals (try unfold ms_ll at h)
  all_goals (try unfold ms_li at h)
  all_goals (repeat' split at h)
  all_goals first
    | (cases h; done)
    | (cases h; exact fun _ => rfl)
    | (cases h; exact fun q => by cases q)
    | (rw [Option.map_eq_some_iff] at h; obtain ⟨_, -, h⟩ := h; cases h; exact fun _ => rfl)
theorem ms_ev_w (f : Nat) : ∀ {j pc : Nat} {L S : List Value} {σ : ms_M} {r : ms_R}, ms_ev f j pc L S σ = some r → r.2.2.2.1 = false → r.2 = σ := by
  induction f with
  | zero => intro j pc L S σ r h; cases h
  | succ f ih =>
    intro j pc L S σ r h hw
    rw [ms_ev] at h
    split at h
    · cases h
    · rename_i q hq
      unfold ms_stp at h
      split at h
      · split at h
        · rename_i y hy
          have h2 := ih h hw
          exact h2.trans (ms_st1_w hy (by rw [← h2]; exact hw))
        · cases h
      · unfold ms_call at h
        split at h
        · split at h
          · rename_i w τ hτ
            have h2 := ih h hw
            rw [h2] at hw
            have hw2 : σ.2.2.1 = false ∧ τ.2.2.1 = false := by simpa using hw
            have h1 : τ = _ := ih hτ hw2.2
            rw [h2, h1]
            obtain ⟨a, b, w0, d⟩ := σ
            obtain ⟨h3, -⟩ := hw2
            have h3 : w0 = false := h3
            subst h3
            rfl
          · rename_i w τ hτ
            split at h
            · have h2 := ih h hw
              rw [h2] at hw
              cases hw
            · cases h
          · cases h
        · cases h
      · unfold ms_ret at h
        repeat' split at h
        all_goals first
          | (cases h; done)
          | (cases h; rfl)
      · unfold ms_thr at h
        repeat' split at h
        all_goals first
          | (cases h; done)
          | (cases h; cases hw)
theorem ms_steps_up {tb : Tables} {e : Env} {f : Frame} {below : List Frame} {s t : State} (h : Steps tb e (f :: below) s t) : Steps tb e below s t := by
  obtain ⟨n, h1, h2⟩ := h
  exact ⟨n, h1, fun k hk => (h2 k hk).weaken (mid := [f])⟩
section MsCalls
variable {p : Program} {l : Launch} {e : Env} {R : Room} {s : State} {m : MethodId} {args : Array Value} {below : List Frame} {meth : Method} {c : Code} {T : State} {locs : List Loc} {cells slots : Nat}
variable {v : ms_V} {j : Nat}
theorem ms_goS (X : Stand p l e R s m args below meth c T locs cells slots) (C : ms_Cx v j p s m args meth c) {k q : Nat} {t : List Nat} (hcw : ms_cw k ∈ ms_ws) (hok : ms_okm k = true) (hst : ms_st k = true) (hln : ms_lnk j q k t = true) {g : JFrame} (hg : g.method = m) {As rest : List Value} (hlen : As.length = ms_na k) (hstack : g.stack = As.reverse ++ rest) (hdg : decode c.code g.pc = .ok (.invokestatic q, 3)) :
    ∃ mk methk ck vm₁, ms_Ck s k mk methk ck ∧ Stand p l e R s m args below meth c (T.setVm vm₁) locs cells slots ∧ ∀ target, (∀ acts, Steps p.tables e below (doInvoke e ((T.setVm vm₁).setTop { g with stack := rest }) acts mk As.toArray).1 target) → Steps p.tables e below (T.setTop g) target := by
  obtain ⟨⟨mk, methk, ck, hCk⟩, hini, hy, hpd, -, hs, -⟩ := ms_okm_spec hcw hok C.2.1
  rw [if_pos hst] at hs hpd
  obtain ⟨hn, hm, -, -, -, -, -, -, hsig, -⟩ := id hCk
  rw [hsig] at hpd
  have hpd : methk.sig.parameters.length = ms_na k := Option.some.inj hpd
  have hstatic := Cond.static_spec hn hm hs
  obtain ⟨kP, hkP, -⟩ := className_of_methodNamed hn
  have hinitP : kP.init = .initialized := Cond.initialized_spec (findClass_of_methodNamed hn) hkP hini
  unfold ms_lnk at hln
  split at hln
  · obtain ⟨vm₁, X₁, st⟩ := X.invokestatic C.1.1 C.1.2.2.2 (C.2.1 _ (ms_has_in hln)) hn hm hstatic hkP hinitP hy hg (argsL := As) (rest := rest) (hlen.trans hpd.symm) hstack hdg
    exact ⟨mk, methk, ck, vm₁, hCk, X₁, st⟩
  · have hN := C.2.2.1.2.2.2.1 _ (List.mem_of_getElem? (of_decide_eq_true hln))
    obtain ⟨vm₁, X₁, st⟩ := X.invokestaticNest C.1.1 C.1.2.2.2 (va_Nw.use rfl hN) hn hm hstatic hkP hinitP hy hg (argsL := As) (rest := rest) (hlen.trans hpd.symm) hstack hdg
    exact ⟨mk, methk, ck, vm₁, hCk, X₁, st⟩
theorem ms_goV (X : Stand p l e R s m args below meth c T locs cells slots) (C : ms_Cx v j p s m args meth c) {k q ci : Nat} {t : List Nat} (hcw : ms_cw k ∈ ms_ws) (hok : ms_okm k = true) (hst : ms_st k = false) (hrc : ms_rc k = some ci) (ht : t.getD 0 0 = 0) (hln : ms_lnk j q k t = true) {g : JFrame} (hg : g.method = m) {b : Addr} {cellB : Cell} (hcell : T.heap[b]? = some cellB) (hvm : cellB.vm = .none) (hcls : s.vm.findClass (ms_ow k) = some cellB.cls)
    {As rest : List Value} (hlen : As.length + 1 = ms_na k) (hstack : g.stack = As.reverse ++ .ref b :: rest) (hdg : decode c.code g.pc = .ok (.invokevirtual q, 3)) :
    ∃ mk methk ck vm₁, ms_Ck s k mk methk ck ∧ Stand p l e R s m args below meth c (T.setVm vm₁) locs cells slots ∧ ∀ target, (∀ acts, Steps p.tables e below (doInvoke e ((T.setVm vm₁).setTop { g with stack := rest }) acts mk (.ref b :: As).toArray).1 target) → Steps p.tables e below (T.setTop g) target := by
  obtain ⟨⟨mk, methk, ck, hCk⟩, hini, hy, hpd, -, hs, hsel⟩ := ms_okm_spec hcw hok C.2.1
  have hst' : ¬ ms_st k = true := by rw [hst]; decide
  rw [if_neg hst'] at hs hpd
  obtain ⟨hn, hm, -, -, -, -, -, -, hsig, -⟩ := id hCk
  rw [hsig] at hpd
  have hpd : methk.sig.parameters.length = ms_na k - 1 := Option.some.inj hpd
  obtain ⟨mk', methM, hn', hmM, hstM, habM⟩ := Cond.instanceMethod_spec hs
  cases hn.symm.trans hn'
  cases hm.symm.trans hmM
  obtain ⟨c2, r2, m2, q1, q2, q3, q4, kP, hkP, hkPi⟩ := Cond.selects_spec (hsel ci hrc).1
  cases hcls.symm.trans q1
  cases (State.methodFound?_of_named hn hy).symm.trans q2
  cases hn.symm.trans q3
  have hselP : selectMethod e.platform s.vm cellB.cls mk = .method mk := by rw [Launch.admits_selectMethod X.admits]; exact q4
  unfold ms_lnk at hln
  rw [if_pos ht] at hln
  obtain ⟨vm₁, X₁, st⟩ := X.invokevirtual C.1.1 C.1.2.2.2 (C.2.1 _ (ms_has_in hln)) hn hm hstM hkP hkPi hy (a := b) (cell := cellB) hcell (fun z h => by rw [hvm] at h; cases h) hselP hm habM hkP hkPi hg (argsL := As) (rest := rest) (by omega) hstack hdg
  exact ⟨mk, methk, ck, vm₁, hCk, X₁, st⟩
theorem ms_goI (X : Stand p l e R s m args below meth c T locs cells slots) (C : ms_Cx v j p s m args meth c) {k q : Nat} {t : List Nat} (hcw : ms_cw k ∈ ms_ws) (hok : ms_okm k = true) (hst : ms_st k = false) (hini : ms_ini k = true) (hhs : ms_hs k = []) (hrt : ms_rt k = none) (hln : ms_lnk j q k t = true) {g : JFrame} (hg : g.method = m) {b : Addr}
    {As rest : List Value} (hlen : As.length + 1 = ms_na k) (hstack : g.stack = As.reverse ++ .ref b :: rest) (hdg : decode c.code g.pc = .ok (.invokespecial q, 3)) :
    ∃ mk methk ck vm₁, ms_Ck s k mk methk ck ∧ Stand p l e R s m args below meth c (T.setVm vm₁) locs cells slots ∧ ∀ target, (∀ acts, Steps p.tables e below (doInvoke e ((T.setVm vm₁).setTop { g with stack := rest }) acts mk (.ref b :: As).toArray).1 target) → Steps p.tables e below (T.setTop g) target := by
  obtain ⟨⟨mk, methk, ck, hCk⟩, hin, hy, hpd, -, hs, -⟩ := ms_okm_spec hcw hok C.2.1
  have hst' : ¬ ms_st k = true := by rw [hst]; decide
  rw [if_neg hst'] at hs hpd
  obtain ⟨hn, hm, -, -, -, -, -, -, hsig, hnm, -⟩ := id hCk
  rw [hsig] at hpd
  have hpd : methk.sig.parameters.length = ms_na k - 1 := Option.some.inj hpd
  have hpl : e.platform.magicAccessors = ({} : Platform).magicAccessors := by rw [X.admits.platform]
  have hy1 : (ms_y k).name = "<init>" := (name_of_methodNamed hn hm).1.symm.trans (hnm hini)
  have hcode : (Cond.code (ms_y k) (ms_by k) (ms_mx k) none).before args s = true := by
    have h := C.2.1 _ hcw
    unfold ms_cw at h
    rw [hhs, hrt] at h
    exact h
  have hl : ∀ sig, parseMethodDescriptor (ms_y k).desc = some sig → As.length = sig.parameters.length := fun sig h => by
    cases hsig.symm.trans h
    omega
  subst hg
  unfold ms_lnk at hln
  split at hln
  · obtain ⟨mk', methM, cM, kP, vm₁, hn', -, -, -, -, -, -, -, hW₁, st⟩ := Steps.initColdArgs (e := e) X.here C.1.1 X.warmed hpl C.1.2.2.2 hy1 hy (C.2.1 _ (ms_has_in hln)) hs hcode (f := g) rfl hl hstack hdg
    cases hn.symm.trans hn'
    exact ⟨mk, methk, ck, vm₁, hCk, X.noted hW₁, st⟩
  · have hN := C.2.2.1.2.2.2.1 _ (List.mem_of_getElem? (of_decide_eq_true hln))
    obtain ⟨mk', methM, cM, kP, vm₁, hn', -, -, -, -, -, -, -, hW₁, st⟩ := Steps.initColdArgsNest (e := e) X.here C.1.1 X.warmed hpl C.1.2.2.2 hy1 hy (va_Nw.use (A := args) rfl hN) hs hcode (f := g) rfl hl hstack hdg
    cases hn.symm.trans hn'
    exact ⟨mk, methk, ck, vm₁, hCk, X.noted hW₁, st⟩
end MsCalls
