/-! THE RUN OF A METHOD THAT IS CALLED; THE SOUNDNESS OF ALL RUNS. -/
def ms_Snd (l : Launch) (v : ms_V) (j pc : Nat) (L S : List Value) (σ : ms_M) (r : ms_R) : Prop :=
  ∀ (p : Program) (e : Env) (R : Room) (s : State) (m : MethodId) (args : Array Value) (below : List Frame) (meth : Method) (c : Code) (H : Heap) (locs : List Loc) (cells slots : Nat) (ls : Array Slot),
    ms_Cx v j p s m args meth c → ms_Hx j c → ms_Lr (ms_vr v) ls L → L.length = ms_mx j → ms_Rl v σ H → ms_fr j ≤ R.frames → ms_lo j ≤ R.locals → cells + (r.2.1 - σ.1) ≤ R.cells → slots + (r.2.2.1 - σ.2.1) ≤ R.slots → (∀ q ∈ locs, σ.2.2.1 = true ∧ ms_vB v ≤ q.base) → (σ.2.2.1 = false → cells = 0 ∧ slots = 0 ∧ H = s.heap) →
    W p l e R s m args below meth c H locs cells slots (ms_End v r below s (cells + (r.2.1 - σ.1)) (slots + (r.2.2.1 - σ.2.1))) (F0 m pc ls (S.map (ms_mv (ms_vr v))))
section MsBody
variable {p : Program} {l : Launch} {e : Env} {R : Room} {s : State} {m : MethodId} {args : Array Value} {below : List Frame} {meth : Method} {c : Code} {T : State} {locs : List Loc} {cells slots : Nat}
variable {v : ms_V} {j : Nat}
theorem ms_body (X : Stand p l e R s m args below meth c T locs cells slots) (C : ms_Cx v j p s m args meth c) {k : Nat} {mk : MethodId} {methk : Method} {ck : Code} (hCk : ms_Ck s k mk methk ck) {g : JFrame} (hg : g.method = m) (hsz : g.locals.size = c.maxLocals) (hmr : g.monitorRoom = 0) (hst8 : (g.stack.map fun v => v.category).sum ≤ 8) {ig : Instr} (hdg : decode c.code g.pc = .ok (ig, 3))
    (hfr : ms_fr k + 1 ≤ R.frames) (hlo : 8 + (ms_mx k + 11) + ms_lo k ≤ R.locals) {as : List Value} {σ : ms_M} {rc : ms_R} (hents : (ms_ents as).length ≤ ms_mx k) (hw0 : σ.2.2.1 = false) (hR : ms_Rl v σ T.heap) (hc : cells + (rc.2.1 - σ.1) ≤ R.cells) (hs : slots + (rc.2.2.1 - σ.2.1) ≤ R.slots)
    (ih : ms_Snd l v k 0 (ms_ent k as) [] σ rc) :
    ∃ t, (∀ acts, Steps p.tables e below (doInvoke e (T.setTop g) acts mk (as.map (ms_mv (ms_vr v))).toArray).1 t) ∧ ms_End v rc (.java g :: below) (T.calling g mk (as.map (ms_mv (ms_vr v))).toArray) (rc.2.1 - σ.1) (rc.2.2.1 - σ.2.1) t := by
  obtain ⟨hn, hm, hcode, hbytes, hmax, hHx, hret, hlk, hsig, hnm, hpl⟩ := hCk
  have hnT : T.methodNamed? (ms_y k) = some mk := X.named hn
  have hmT : T.vm.method? mk = some methk := by rw [X.warmed.alike.method?]; exact hm
  have hplT : T.plainMethod mk := by
    intro kk hkk
    obtain ⟨k0, hk0, he⟩ := X.warmed.alike.symm.2.2 _ _ hkk
    have := hpl k0 hk0
    rw [he] at this
    exact this
  obtain ⟨Y, hin⟩ := X.into hg hsz hdg (as.map (ms_mv (ms_vr v))).toArray (R' := { frames := ms_fr k, cells := rc.2.1 - σ.1, slots := rc.2.2.1 - σ.2.1, locals := ms_lo k }) hmT hcode hlk hplT hfr (by rw [hmr, hmax]; show 2 * 0 + _ + _ + ms_lo k ≤ _; omega) hc hs
  have hWm : s.WarmedH (T.calling g mk (as.map (ms_mv (ms_vr v))).toArray).vm := X.warmed
  have C' : ms_Cx v k p (T.calling g mk (as.map (ms_mv (ms_vr v))).toArray) mk (as.map (ms_mv (ms_vr v))).toArray methk ck :=
    ⟨⟨C.1.1, hbytes, hmax, findClass_of_methodNamed hnT⟩, ms_words hWm C.2.1, C.2.2.1.moved hWm, hret, hlk, hnm⟩
  obtain ⟨hel, heL⟩ := ms_ent_Lr (ms_vr v) k as hents
  have hw := ih p e { frames := ms_fr k, cells := rc.2.1 - σ.1, slots := rc.2.2.1 - σ.2.1, locals := ms_lo k } (T.calling g mk (as.map (ms_mv (ms_vr v))).toArray) mk (as.map (ms_mv (ms_vr v))).toArray (.java g :: below) methk ck T.heap [] 0 0 _ C' hHx heL hel hR (Nat.le_refl _) (Nat.le_refl _) (by show 0 + (rc.2.1 - σ.1) ≤ rc.2.1 - σ.1; omega) (by show 0 + (rc.2.2.1 - σ.2.1) ≤ rc.2.2.1 - σ.2.1; omega) (fun q hq => by cases hq) (fun _ => ⟨rfl, rfl, rfl⟩)
  rw [Nat.zero_add, Nat.zero_add] at hw
  obtain ⟨t, hst, hend⟩ := hw ((T.setTop g).pushFrame (.java (entryFrame mk (as.map (ms_mv (ms_vr v))).toArray ck.maxLocals))) rfl Y
  refine ⟨t, fun acts => ?_, hend⟩
  rw [hin acts, hmax, lg_entry_eq]
  rw [hmax, lg_entry_eq] at hst
  exact ms_steps_up hst
end MsBody
