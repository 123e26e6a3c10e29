/-! AN EXCEPTION IS CAUGHT: the search links what it asks for. -/
section MsCatch
variable {e : Env} {s : State} {f : JFrame} {a : Addr}
theorem ms_go_cold {x : ExceptionTableEntry} {t : List ExceptionTableEntry} {c : ClassId} {vm' : Vm} {Q : Handler → Pre} {E : CtlPost} {d : Bool} {acts : List Action} (hx : covers x f.pc = true) (h0 : x.catchType ≠ 0) (hg : (resolveClass f.method.cls x.catchType).Gives e.toSetting s.vm (.ok c) vm') (hr : vm'.classReady f.method.cls x.catchType c) (hsz : vm'.classes.size ≤ s.vm.classes.size) :
    wp (findHandler.go f a (x :: t)) Q E e d acts s ↔ wp (findHandler.go f a (x :: t)) Q E e d acts (s.setVm vm') := by
  obtain ⟨ha, ht⟩ := hg.op (op := VmOp.resolveClass f.method.cls x.catchType) rfl
  obtain ⟨k, hk, hres⟩ := hr
  obtain ⟨ha', ht'⟩ := resolveClass_memo e (show (s.setVm vm').vm.classes[f.method.cls]? = some k from hk) hres
  simp only [covers] at hx
  have e1 : (VmOp.resolveClass f.method.cls x.catchType).answer e (s.setVm vm').vm = .ok c := ha'
  have e2 : (VmOp.resolveClass f.method.cls x.catchType).tables e (s.setVm vm').vm = vm' := ht'
  simp only [findHandler.go, hx, if_true, beq_iff_eq, h0, if_false, W.ite, wp_bind']
  rw [W.vmOp_same _ (by rw [ht]; exact hsz), W.vmOp_same _ (by rw [e2]; exact Nat.le_refl _), ha, ht, e1, e2]
  exact Iff.rfl
theorem ms_step_catch {r : List Frame} {pc : Nat} {vm' : Vm} (hfind : ∀ (Q : Handler → Pre) (E : CtlPost) (d : Bool) (acts : List Action), wp (findHandler f a) Q E e d acts s ↔ Q (.found pc) d acts (s.setVm vm')) :
    (stepThrowing e s a (.java f :: r)).Is ((s.setVm vm').setFrames (.java { f with pc := pc, stack := [.ref a] } :: r)) [] := by
  simp only [stepThrowing, searchFrame, vmDo]
  generalize hr : Sem.go _ e false [] s = res
  obtain ⟨as, rfl, ha⟩ := Sem.eq_ok_of hr (a := Handler.found pc) (s' := s.setVm vm') (acts' := []) (by simp [hfind _ _ _ _])
  exact ⟨rfl, ha⟩
variable {tb : Tables} {target : State} {g : JFrame} {c : Code} {below : List Frame}
theorem ms_caught (h : At s g.method c below) {pc : Nat} {vm' : Vm} (hfind : ∀ (Q : Handler → Pre) (E : CtlPost) (d : Bool) (acts : List Action), wp (findHandler g a) Q E e d acts ((s.setTop g).pushFrame (.throwing a)) ↔ Q (.found pc) d acts (((s.setTop g).pushFrame (.throwing a)).setVm vm'))
    (hrest : Steps tb e below ((s.setVm vm').setTop { g with pc := pc, stack := [.ref a] }) target) :
    Steps tb e below ((s.setTop g).pushFrame (.throwing a)) target := by
  obtain ⟨hgo, hw⟩ := h.throwing a
  refine Steps.head hgo hw ?_
  rw [stepThread_throwing (frames_entered h.top _), (ms_step_catch (s := (s.setTop g).pushFrame (.throwing a)) hfind).1]
  obtain ⟨g₀, hg⟩ := Option.isSome_iff_exists.mp h.top
  obtain ⟨r, hr⟩ := State.topJava?_eq_some.mp hg
  have e1 : (((s.setTop g).pushFrame (.throwing a)).setVm vm').setFrames (.java { g with pc := pc, stack := [.ref a] } :: s.frames.tail) = (s.setVm vm').setTop { g with pc := pc, stack := [.ref a] } := by
    have hr' : (s.setVm vm').frames = .java g₀ :: r := hr
    have e2 : ∀ F, (s.setFrames F).setVm vm' = (s.setVm vm').setFrames F := fun _ => rfl
    rw [State.setTop_of_frames _ hr', State.pushFrame, State.setTop_of_frames _ hr, State.setFrames_setFrames, hr, e2, State.setFrames_setFrames]
    rfl
  rw [e1]
  exact hrest
end MsCatch
section MsCatch2
variable {p : Program} {l : Launch} {e : Env} {R : Room} {s : State} {m : MethodId} {args : Array Value} {below : List Frame} {meth : Method} {c : Code} {T : State} {locs : List Loc} {cells slots : Nat}
variable {v : ms_V} {j pc : Nat}
-- a handler's kind, by its catch type
def ms_hok (j : Nat) : Bool := (ms_hs j).all fun h => decide (h.2.2.2.1 < 2 ∧ h.2.2.2.2 ≠ 0) && (ms_has (ms_hw h.2.2.2.1) (.classLink (ms_ow j) h.2.2.2.2 (ms_xn h.2.2.2.1)))
theorem ms_xas (C : ms_Cx v j p s m args meth c) {k q : Nat} (hk : k < 2) (hq : q < 2) {ck cq : ClassId} (h1 : s.vm.findClass (ms_xn k) = some ck) (h2 : s.vm.findClass (ms_xn q) = some cq) : s.vm.assignable ck cq = decide (k = q) := by
  obtain ⟨hsp, -, c0, c1, g0, g1, g2, g3⟩ := C.2.2.1.2.2.2.2.2.2.2.2
  have w0 : s.vm.assignable c0 c0 = true := by
    obtain ⟨c3, c4, hc3, hc4, h⟩ := Cond.castable_spec (hsp _ (by simp [ms_spw] : Cond.castable "java/lang/IllegalArgumentException" "java/lang/IllegalArgumentException" ∈ ms_spw))
    cases hc3.symm.trans g0
    cases hc4.symm.trans g0
    exact h
  have w1 : s.vm.assignable c1 c1 = true := by
    obtain ⟨c3, c4, hc3, hc4, h⟩ := Cond.castable_spec (hsp _ (by simp [ms_spw] : Cond.castable "java/lang/IllegalStateException" "java/lang/IllegalStateException" ∈ ms_spw))
    cases hc3.symm.trans g1
    cases hc4.symm.trans g1
    exact h
  match k, q, hk, hq with
  | 0, 0, _, _ => cases h1.symm.trans g0; cases h2.symm.trans g0; exact w0
  | 0, 1, _, _ => cases h1.symm.trans g0; cases h2.symm.trans g1; exact g3
  | 1, 0, _, _ => cases h1.symm.trans g1; cases h2.symm.trans g0; exact g2
  | 1, 1, _, _ => cases h1.symm.trans g1; cases h2.symm.trans g1; exact w1
theorem ms_go (C : ms_Cx v j p s m args meth c) (hpl : e.platform.magicAccessors = ({} : Platform).magicAccessors) {f : JFrame} (hfm : f.method = m) (hpc : f.pc = pc) {k h : Nat} (hk : k < 2) {a : Nat} {cell : Cell} (hvm : cell.vm = .none) (hcls : s.vm.findClass (ms_xn k) = some cell.cls) :
    ∀ (hs : List (Nat × Nat × Nat × Nat × Nat)) (t : List ExceptionTableEntry) (T : State), t.map (fun h => (h.startPc, h.endPc, h.handlerPc, h.catchType)) = hs.map (fun h => (h.1, h.2.1, h.2.2.1, h.2.2.2.2)) → (∀ q ∈ hs, (q.2.2.2.1 < 2 ∧ q.2.2.2.2 ≠ 0) ∧ Cond.classLink (ms_ow j) q.2.2.2.2 (ms_xn q.2.2.2.1) ∈ ms_ws) → s.WarmedH T.vm → T.heap[a]? = some cell →
      (hs.find? (fun h => decide (h.1 ≤ pc) && decide (pc < h.2.1) && h.2.2.2.1 == k)).map (fun h => h.2.2.1) = some h →
      ∃ vm', s.WarmedH vm' ∧ ∀ (Q : Handler → Pre) (E : CtlPost) (d : Bool) (acts : List Action), wp (findHandler.go f a t) Q E e d acts T ↔ Q (.found h) d acts (T.setVm vm')
  | [], _, _, _, _, _, _, hf => by cases hf
  | q :: hs, [], _, ht, _, _, _, _ => by cases ht
  | q :: hs, x :: t, T, ht, hok, hW, hcell, hf => by
    simp only [List.map_cons, List.cons.injEq, Prod.mk.injEq] at ht
    obtain ⟨⟨e1, e2, e3, e4⟩, ht⟩ := ht
    obtain ⟨⟨hq2, hq0⟩, hlink⟩ := hok q List.mem_cons_self
    by_cases hcv : covers x f.pc = true
    · have hcv' : (decide (q.1 ≤ pc) && decide (pc < q.2.1)) = true := by rw [← e1, ← e2, ← hpc]; exact hcv
      obtain ⟨cq, hfq, hcl⟩ := Cond.classLink_spec C.1.2.2.2 (C.2.1 _ hlink) e.platform hpl
      obtain ⟨hg1, hw1, hr1⟩ := State.classEntry (e := e) hW hcl
      generalize T.vm.noted m.cls q.2.2.2.2 (.cls cq) = vm1 at hg1 hw1 hr1
      have hal : T.vm.Alike vm1 := hW.alike.symm.trans hw1.alike
      have hct : x.catchType ≠ 0 := by rw [e4]; exact hq0
      have hstep : ∀ (Q : Handler → Pre) (E : CtlPost) (d : Bool) (acts : List Action), wp (findHandler.go f a (x :: t)) Q E e d acts T ↔ if (T.setVm vm1).vm.assignable cell.cls cq = true then Q (.found x.handlerPc) d acts (T.setVm vm1) else wp (findHandler.go f a t) Q E e d acts (T.setVm vm1) := by
        intro Q E d acts
        rw [ms_go_cold hcv hct (c := cq) (vm' := vm1) (by rw [hfm, e4]; exact hg1) (by rw [hfm, e4]; exact hr1) (by rw [hal.2.1]; exact Nat.le_refl _)]
        exact W.findHandler_go_class (s := T.setVm vm1) hcv hct (by rw [hfm, e4]; exact hr1) hcell (fun z hz => by rw [hvm] at hz; cases hz) (Vm.classAt_of_findClass (vm := vm1) (by rw [hw1.alike.findClass]; exact hcls)) (Vm.classAt_of_findClass (vm := vm1) (by rw [hw1.alike.findClass]; exact hfq))
      have has : (T.setVm vm1).vm.assignable cell.cls cq = decide (k = q.2.2.2.1) := by
        show vm1.assignable cell.cls cq = _
        rw [hw1.alike.assignable]
        exact ms_xas C hk hq2 hcls hfq
      rw [List.find?_cons] at hf
      by_cases hkq : k = q.2.2.2.1
      · have hb : (decide (q.1 ≤ pc) && decide (pc < q.2.1) && q.2.2.2.1 == k) = true := by rw [hcv', ← hkq]; simp
        rw [hb] at hf
        have hh : q.2.2.1 = h := Option.some.inj hf
        refine ⟨vm1, hw1, fun Q E d acts => ?_⟩
        rw [hstep, has, if_pos (decide_eq_true hkq), e3, hh]
      · have hb : (decide (q.1 ≤ pc) && decide (pc < q.2.1) && q.2.2.2.1 == k) = false := by
          rw [hcv']
          simp
          exact fun z => hkq z.symm
        rw [hb] at hf
        obtain ⟨vm2, hw2, hgo⟩ := ms_go C hpl hfm hpc hk hvm hcls hs t (T.setVm vm1) ht (fun z hz => hok z (List.mem_cons_of_mem _ hz)) hw1 hcell hf
        refine ⟨vm2, hw2, fun Q E d acts => ?_⟩
        rw [hstep, has, if_neg (by simp [hkq]), hgo]
        exact Iff.rfl
    · have hcv : covers x f.pc = false := by simpa using hcv
      have hcv' : (decide (q.1 ≤ pc) && decide (pc < q.2.1)) = false := by rw [← e1, ← e2, ← hpc]; exact hcv
      have hb : (decide (q.1 ≤ pc) && decide (pc < q.2.1) && q.2.2.2.1 == k) = false := by rw [hcv']; rfl
      rw [List.find?_cons, hb] at hf
      obtain ⟨vm2, hw2, hgo⟩ := ms_go C hpl hfm hpc hk hvm hcls hs t T ht (fun z hz => hok z (List.mem_cons_of_mem _ hz)) hW hcell hf
      refine ⟨vm2, hw2, fun Q E d acts => ?_⟩
      rw [W.findHandler_go_skip hcv, hgo]
theorem ms_catch (C : ms_Cx v j p s m args meth c) (hHx : ms_Hx j c) (hok : ms_hok j = true) (X : Stand p l e R s m args below meth c T locs cells slots) {ls : Array Slot} {st : List Value} {k h : Nat} (hhd : ms_hd j pc k = some h) (hk : k < 2) {a : Nat} {cell : Cell} (hcell : T.heap[a]? = some cell) (hvm : cell.vm = .none) (hcls : s.vm.findClass (ms_xn k) = some cell.cls) :
    ∃ vm', Stand p l e R s m args below meth c (T.setVm vm') locs cells slots ∧ ∀ target, Steps p.tables e below ((T.setVm vm').setTop (F0 m h ls [.ref a])) target → Steps p.tables e below ((T.setTop (F0 m pc ls st)).pushFrame (.throwing a)) target := by
  have hpl : e.platform.magicAccessors = ({} : Platform).magicAccessors := by rw [X.admits.platform]
  have hv0 : ((T.setTop (F0 m pc ls st)).pushFrame (.throwing a)).vm = T.vm := Stand.throwing_vm T _ a
  have hh0 : ((T.setTop (F0 m pc ls st)).pushFrame (.throwing a)).heap = T.heap := Stand.throwing_heap T _ a
  have hall : ∀ q ∈ ms_hs j, (q.2.2.2.1 < 2 ∧ q.2.2.2.2 ≠ 0) ∧ Cond.classLink (ms_ow j) q.2.2.2.2 (ms_xn q.2.2.2.1) ∈ ms_ws := fun q hq => by
    have h1 := List.all_eq_true.mp hok q hq
    simp only [Bool.and_eq_true, decide_eq_true_eq] at h1
    exact ⟨h1.1, ms_has_in h1.2⟩
  obtain ⟨vm', hw, hgo⟩ := ms_go (f := F0 m pc ls st) (pc := pc) C hpl rfl rfl hk hvm hcls (ms_hs j) c.exceptionTable.toList ((T.setTop (F0 m pc ls st)).pushFrame (.throwing a)) hHx hall (by rw [hv0]; exact X.warmed) (by rw [hh0]; exact hcell) hhd
  refine ⟨vm', X.noted hw, fun target ht => ms_caught (g := F0 m pc ls st) X.here (vm' := vm') (fun Q E d acts => ?_) ht⟩
  rw [W.findHandler_eq (meth := meth) (code := c) (by rw [hv0]; exact X.method') X.code, hgo]
end MsCatch2
