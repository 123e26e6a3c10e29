/-! THE CLAIM OUT OF THE PURE RUN. -/
def R_law : String := "MaskedSumLaw"
def lw_P (b : Addr) (xs : List Int32) (args : Array Value) (s : State) : Prop := args = #[.ref b] ∧ s.IntsAt b xs ∧ xs.length ≤ 3072 ∧ (Jvm.Cond.and given_1 narrow_1).before args s = true
def lw_Q (_ : Array Value) (s : State) (o : Outcome) (t : State) : Prop := o = .returned (some (.int 1)) ∧ Framed s o t [] 601024 7293034
def lw_Z (below : List Frame) (a : Array Value) (s : State) : State → Prop := fun t => ∃ o, t.status = .running ∧ Ended t below o ∧ lw_Q a s o t
/-- what holds at the law's entry: the machine, the code, the tables' words (any of lw_tbl by 'hts w (by decide +kernel)'), the script of L ints xs at the cell b, what the Statement gives of the start (any of its parts by flat_of_before) -/
def lw_At (p : Program) (s : State) (m : MethodId) (meth : Method) (c : Code) (b L : Nat) (xs : Nat → Int32) : Prop :=
  p.tables.exec = Jvm.exec ∧ c.code = code ∧ meth.sig.returnType = ret ∧ c.maxLocals = 7 ∧ s.vm.findClass R_law = some m.cls ∧ (∀ w ∈ lw_tbl, w.before #[Value.ref b] s = true) ∧ va_X b L xs s s.heap ∧ b < s.heap.size ∧ meth.locks = false ∧ (Jvm.Cond.and given_1 narrow_1).before #[Value.ref b] s = true
-- the memory at the law's entry
def ms_sw : Nat → Int32 := fun j => [4, 64, 4, 17].getD j 0
def ms_aw : Nat → Int32 := fun j => [33, 65, 1].getD j 0
def ms_M0 (L : Nat) (xs : Nat → Int32) : Nat → ms_E
  | 0 => .inl (5, L, .inl xs)
  | 1 => .inl (5, 4, .inl ms_sw)
  | 2 => .inl (5, 3, .inl ms_aw)
  | _ => .inr (99, [])
/-- what is left to prove: the pure run of the law -/
def ms_pure (L : Nat) (xs : Nat → Int32) : Prop := ∃ r : ms_M, ms_G ms_law 0 (ms_ent ms_law [.ref 0]) [] (3, 0, false, ms_M0 L xs) = some (.inl (some (.int 1)), r) ∧ r.1 ≤ 601027 ∧ r.2.1 ≤ 7293034
theorem ms_in_tbl {ws : List Cond} (ix : List Nat) (h : (ws.zip ix).all (fun p => decide (lw_tbl[p.2]? = some p.1)) = true) (hl : ws.length = ix.length) : ∀ w ∈ ws, w ∈ lw_tbl := by
  intro w hw
  obtain ⟨k, hk⟩ := List.mem_iff_getElem?.mp hw
  have hk2 : k < ix.length := by
    rw [← hl]
    exact (List.getElem?_eq_some_iff.mp hk).1
  have hz : (w, ix[k]) ∈ ws.zip ix := List.mem_iff_getElem?.mpr ⟨k, List.getElem?_zip_eq_some.mpr ⟨hk, List.getElem?_eq_getElem hk2⟩⟩
  have := List.all_eq_true.mp h _ hz
  exact List.mem_of_getElem? (of_decide_eq_true this)
theorem ms_nst_in : ∀ w ∈ ms_nst, w ∈ lw_tbl := ms_in_tbl [83, 89, 103, 141, 169, 184, 509, 618, 643] (by decide +kernel) (by decide +kernel)
theorem ms_spw_in : ∀ w ∈ ms_spw, w ∈ lw_tbl := ms_in_tbl [309, 398, 310, 312, 314] (by decide +kernel) (by decide +kernel)
theorem ms_spw_on : ∀ w ∈ ms_spw, w.onTables = true := by decide +kernel
theorem ms_nst_on : ∀ w ∈ ms_nst, w.onTables = true := by decide +kernel
theorem ms_t_M : Cond.arrayOver (.object ms_cM) ∈ lw_tbl := List.mem_of_getElem? (i := 139) (by decide +kernel)
theorem ms_t_P : Cond.arrayOver (.object ms_cP) ∈ lw_tbl := List.mem_of_getElem? (i := 229) (by decide +kernel)
theorem ms_t_A : Cond.arrayOver (.array .int) ∈ lw_tbl := List.mem_of_getElem? (i := 189) (by decide +kernel)
theorem ms_t_s1 : Cond.laysStatic ms_cO (ms_sn 1) "[I" ∈ lw_tbl := List.mem_of_getElem? (i := 142) (by decide +kernel)
theorem ms_t_s2 : Cond.laysStatic ms_cO (ms_sn 2) "[I" ∈ lw_tbl := List.mem_of_getElem? (i := 170) (by decide +kernel)
theorem ms_t_i : Cond.initialized ms_cO ∈ lw_tbl := List.mem_of_getElem? (i := 54) (by decide +kernel)
theorem ms_t_u : Cond.laysStatic "java/lang/Throwable" "UNASSIGNED_STACK" "[Ljava/lang/StackTraceElement;" ∈ lw_tbl := List.mem_of_getElem? (i := 334) (by decide +kernel)
theorem ms_t_p : Cond.laysStatic "java/lang/Throwable" "SUPPRESSED_SENTINEL" "Ljava/util/List;" ∈ lw_tbl := List.mem_of_getElem? (i := 336) (by decide +kernel)
theorem ms_Zs_of {args : Array Value} {s : State} {v : ms_V} {n d : String} (hH : ms_vH v = s.heap) (hB : ms_vB v = s.heap.size) (hl : (Cond.laysStatic "java/lang/Throwable" n d).before args s = true) (h : (Cond.isRef (.static "java/lang/Throwable" n d)).before args s = true) : ms_Zs v n d s := by
  obtain ⟨c, k, i, f, a, cell, hc, hi, hst, ha, hcell, hs, hcls, hlt, hty⟩ := Cond.laysStatic_spec hl
  have hlt2 := (Array.getElem?_eq_some_iff.mp hcell).1
  cases hv : (Term.static "java/lang/Throwable" n d).eval args s none [] s with
  | none => simp [Cond.before, Cond.holds, Cond.value, hv] at h
  | some w =>
    obtain ⟨hst', a', cell', ha', hcell', -, hslot⟩ := Term.static_spec hi hv
    cases ha.symm.trans ha'
    cases hcell.symm.trans hcell'
    refine ⟨c, k, i, f, a, cell, w, hc, hi, hst, ha, ⟨by rw [hB]; exact hlt2, by rw [hH]; exact hcell⟩, hs, hcls, hlt, hty, hslot, ?_⟩
    simp only [Cond.before, Cond.holds, Cond.value, hv] at h
    cases w with
    | null => exact Or.inl rfl
    | ref t => exact Or.inr ⟨t, rfl⟩
    | _ => simp at h
theorem ms_start {p : Program} {e : Env} {s : State} {m : MethodId} {below : List Frame} {meth : Method} {c : Code} (l : Launch) (htr : ∀ e, l.admits e → e.platform.stackTraces = false) {b L : Nat} {xs : Nat → Int32} (hp : ms_pure L xs) (hH : c.exceptionTable.isEmpty = true) (hsm : L < 2 ^ 31) (C0 : lw_At p s m meth c b L xs) : W p l e room_1 s m #[Value.ref b] below meth c s.heap [] 0 0 (lw_Z below #[Value.ref b] s) (entryFrame m ([Value.ref b] : List Value).toArray 7) := by
  obtain ⟨hx, hcode, hret, hml, hown, hts, hX, hbl, hlk, hgv⟩ := C0
  have hs := flat_of_before _ hgv
  have hA : ∀ a : Nat, a < s.heap.size → ¬ s.heap.size ≤ a := fun a h => Nat.not_le.mpr h
  -- the two tables of words
  obtain ⟨t1, ht1, hT1⟩ := va_Tof (args := #[Value.ref b]) (s := s) (tm := .static "MaskedSum" "SENT_WORDS" "[I") (ty := .int) (N := 4) (f := fun j => .int (ms_sw j)) (A := fun q => s.heap.size ≤ q) (by decide) (hs _ (by decide +kernel)) (va_eqt (z := 4) (hs _ (by decide +kernel))) (fun j hj => by
    match j, hj with
    | 0, _ => exact va_eqt (z := 4) (hs _ (by decide +kernel))
    | 1, _ => exact va_eqt (z := 64) (hs _ (by decide +kernel))
    | 2, _ => exact va_eqt (z := 4) (hs _ (by decide +kernel))
    | 3, _ => exact va_eqt (z := 17) (hs _ (by decide +kernel))) hA
  obtain ⟨t2, ht2, hT2⟩ := va_Tof (args := #[Value.ref b]) (s := s) (tm := .static "MaskedSum" "ANSWER_WORDS" "[I") (ty := .int) (N := 3) (f := fun j => .int (ms_aw j)) (A := fun q => s.heap.size ≤ q) (by decide) (hs _ (by decide +kernel)) (va_eqt (z := 3) (hs _ (by decide +kernel))) (fun j hj => by
    match j, hj with
    | 0, _ => exact va_eqt (z := 33) (hs _ (by decide +kernel))
    | 1, _ => exact va_eqt (z := 65) (hs _ (by decide +kernel))
    | 2, _ => exact va_eqt (z := 1) (hs _ (by decide +kernel))) hA
  have hZ1 : va_Z ms_cO (ms_sn 1) "[I" (.ref t1) (fun q => s.heap.size ≤ q) s s.heap := va_Zref (hts _ ms_t_s1) (hts _ ms_t_i) ht1 hA
  have hZ2 : va_Z ms_cO (ms_sn 2) "[I" (.ref t2) (fun q => s.heap.size ≤ q) s s.heap := va_Zref (hts _ ms_t_s2) (hts _ ms_t_i) ht2 hA
  obtain ⟨ce1, g11, g12, g13, g14, g15, g16, g17⟩ := hT1
  obtain ⟨ce2, g21, g22, g23, g24, g25, g26, g27⟩ := hT2
  have hb1 : t1 < s.heap.size := (Array.getElem?_eq_some_iff.mp g11).1
  have hb2 : t2 < s.heap.size := (Array.getElem?_eq_some_iff.mp g21).1
  -- the kinds of arrays
  obtain ⟨c0, k0, cc0, a1, a2, a3⟩ := Cond.arrayClass_spec (hts _ (List.mem_filter.mp ms_w_ai).1)
  obtain ⟨c1, k1, cc1, b1, b2, b3⟩ := Cond.arrayClass_spec (hts _ (List.mem_filter.mp ms_w_al).1)
  obtain ⟨p2, c2, k2, d1, d2, d3, d4, d5⟩ := arrayOverA_spec (hts _ ms_t_A)
  obtain ⟨p3, c3, k3, e1, e2, e3, e4, e5⟩ := Cond.arrayOver_spec (hts _ ms_t_M)
  obtain ⟨p4, c4, k4, f1, f2, f3, f4, f5⟩ := Cond.arrayOver_spec (hts _ ms_t_P)
  have hp2 : p2 = c0 := Option.some.inj (d1.symm.trans a1)
  -- the kinds of objects
  have hws : ∀ w ∈ ms_ws, w.before #[Value.ref b] s = true := fun w hw => hts w (List.mem_filter.mp hw).1
  have hD : ∀ ci : Nat, ∃ z : ClassId × (Nat → Nat), ∀ r : vw_C, ms_cl[ci]? = some r → u_Kn s r.1 r.2.1 r.2.2 z.1 z.2 := by
    intro ci
    cases hr : ms_cl[ci]? with
    | none => exact ⟨(0, fun _ => 0), fun r h => by cases h⟩
    | some r =>
      obtain ⟨cC, iS, h⟩ := u_known hws (ms_clk ci r hr).1 (hws _ (ms_cln ci r hr).1)
      exact ⟨(cC, iS), fun r' h' => by cases h'; exact h⟩
  let D : va_G := (fun ci => (Classical.choose (hD ci)).1, fun ci => (Classical.choose (hD ci)).2)
  let dA : Nat → ClassId := fun k => match k with
    | 0 => c0
    | 1 => c1
    | 2 => c2
    | 3 => c3
    | _ => c4
  let vX : Nat → Nat × (Nat → Int32) := fun k => match k with
    | 0 => (L, xs)
    | 1 => (4, ms_sw)
    | _ => (3, ms_aw)
  let v : ms_V := (s.heap.size, ms_rho s.heap.size b t1 t2, D, dA, vX, s.heap)
  have hvok : ms_vok v := ⟨b, t1, t2, rfl, hbl, hb1, hb2⟩
  have hK : va_K (ms_vD v) ms_cl (ms_tys (ms_vA v)) s := by
    refine ⟨fun ci r hr => Classical.choose_spec (hD ci) r hr, fun k q hq => ?_⟩
    have hk : k < 5 := (List.getElem?_eq_some_iff.mp hq).1
    have hc : k = 0 ∨ k = 1 ∨ k = 2 ∨ k = 3 ∨ k = 4 := by omega
    rcases hc with rfl | rfl | rfl | rfl | rfl
    · cases hq; exact ⟨fun N z => ⟨(fun k h => by cases h), k0, a2, cc0, a3⟩, a1⟩
    · cases hq; exact ⟨fun N z => ⟨(fun k h => by cases h), k1, b2, cc1, b3⟩, b1⟩
    · cases hq; exact ⟨fun N z => ⟨(fun k h => by cases h), k2, d3, p2, d4⟩, d5⟩
    · cases hq; exact ⟨fun N z => ⟨(fun k h => by cases h), k3, e3, p3, e4⟩, k3, p3, e3, e4, e1, e5⟩
    · cases hq; exact ⟨fun N z => ⟨(fun k h => by cases h), k4, f3, p4, f4⟩, k4, p4, f3, f4, f1, f5⟩
  have hX5 : ∀ k, k < 3 → ms_X5 (ms_vr v k) (ms_vX v k).1 (ms_vX v k).2 s (ms_vH v) := by
    intro k hk
    have hc : k = 0 ∨ k = 1 ∨ k = 2 := by omega
    rcases hc with rfl | rfl | rfl
    · obtain ⟨scr, x1, x2, x3, x4, x5⟩ := hX
      exact ⟨scr, x1, x2, x3, ⟨Nat.le_of_eq x4.symm, by rw [x4]; rfl⟩, x5⟩
    · exact ⟨ce1, g11, g12, g13, ⟨g14, g15⟩, g16⟩
    · exact ⟨ce2, g21, g22, g23, ⟨g24, g25⟩, g26⟩
  have hxx := fun w hw => va_Nw.of (ms_spw_on w hw) (hts w (ms_spw_in w hw))
  have hGx2 : ms_Gx2 v s := by
    obtain ⟨i0, j0, q1, q2, -⟩ := Cond.castable_spec (hts _ (ms_spw_in _ (List.mem_cons_self)))
    obtain ⟨i1, j1, q3, q4, -⟩ := Cond.castable_spec (hts _ (ms_spw_in (.castable "java/lang/IllegalStateException" "java/lang/IllegalStateException") (by decide +kernel)))
    have n1 : (Cond.not (.castable "java/lang/IllegalStateException" "java/lang/IllegalArgumentException")).before #[Value.ref b] s = true := hs _ (by decide +kernel)
    have n2 : (Cond.not (.castable "java/lang/IllegalArgumentException" "java/lang/IllegalStateException")).before #[Value.ref b] s = true := hs _ (by decide +kernel)
    simp [Cond.before, Cond.holds, Cond.value, q1, q3] at n1 n2
    exact ⟨hxx, ⟨ms_Zs_of rfl rfl (hts _ ms_t_u) (hs _ (by decide +kernel)), ms_Zs_of rfl rfl (hts _ ms_t_p) (hs _ (by decide +kernel))⟩, i0, i1, q1, q3, n1, n2⟩
  have hGx : ms_Gx v s := by
    refine ⟨hvok, hK, hX5, fun w hw => va_Nw.of (ms_nst_on w hw) (hts w (ms_nst_in w hw)), fun k hk => ?_, Nat.le_refl _, ⟨va_AO.of (hts _ ms_t_M), va_AO.of (hts _ ms_t_P)⟩, ⟨k2, d3, ?_⟩, hGx2⟩
    · rcases hk with rfl | rfl
      · exact hZ1
      · exact hZ2
    · rw [d4, hp2]
      rfl
  obtain ⟨r, hr, hr1, hr2⟩ := hp
  obtain ⟨f, hf⟩ := ms_G_iff.mp hr
  have hsn := ms_sound (l := l) (v := v) htr f hf
  have C : ms_Cx v ms_law p s m #[Value.ref b] meth c := ⟨⟨hx, hcode, hml, hown⟩, hws, hGx, hret, hlk, fun h => by cases h⟩
  have hHx : ms_Hx ms_law c := by
    unfold ms_Hx
    have h0 : c.exceptionTable.size = 0 := by simpa [Array.isEmpty] using hH
    have h1 : c.exceptionTable.toList = [] := List.eq_nil_of_length_eq_zero (by simpa using h0)
    rw [h1]
    rfl
  obtain ⟨hel, heL⟩ := ms_ent_Lr (ms_vr v) ms_law [.ref 0] (by decide)
  have hRl : ms_Rl v (3, 0, false, ms_M0 L xs) s.heap := by
    refine ⟨⟨Nat.le_refl _, rfl, fun q _ => rfl⟩, fun k => ?_⟩
    match k with
    | 0 => exact Or.inl ⟨rfl, by decide, rfl⟩
    | 1 => exact Or.inl ⟨rfl, by decide, rfl⟩
    | 2 => exact Or.inl ⟨rfl, by decide, rfl⟩
    | k + 3 => exact Or.inl rfl
  have hW := hsn p e room_1 s m #[Value.ref b] below meth c s.heap [] 0 0 _ C hHx heL hel hRl (by decide) (by decide) (by show 0 + (r.1 - 3) ≤ 601024; omega) (by show 0 + (r.2.1 - 0) ≤ 7293034; omega) (fun q hq => by cases hq) (fun _ => ⟨rfl, rfl, rfl⟩)
  rw [lg_entry_eq]
  refine ms_Wm ?_ hW
  rintro t ⟨h1, h2, h3, ⟨Lx, h4, h5⟩, h6⟩
  refine ⟨_, h1, h6, rfl, ⟨_, rfl⟩, h2, ?_⟩
  exact h5.weaken (fun z hz hlt => absurd hlt (Nat.not_lt.mpr (h4 z hz).2)) (by show 0 + (r.1 - 3) ≤ 601024; omega) (by show 0 + (r.2.1 - 0) ≤ 7293034; omega)
set_option maxHeartbeats 4000000 in
theorem lw_walk (l : Launch) (htr : ∀ e, l.admits e → e.platform.stackTraces = false) (hpure : ∀ (L : Nat) (xs : Nat → Int32), L ≤ 3072 → ms_pure L xs) (b : Addr) (xs : List Int32) : MetFree l x (headSpec (Jvm.Cond.code x code maxLocals ret :: tables_1) room_1) (lw_P b xs) (fun _ _ _ _ _ => True) lw_Q := by
  refine MetFree.of_bodyS (code := code) (maxLocals := maxLocals) (ret := ret) (by decide) ?_ ?_
  · intro args s m h hn
    obtain ⟨meth, c, h1, h2, h3, h4, h5, h6, -, -⟩ := Cond.code_spec hn (atoms_spec (ws := Jvm.Cond.code x code maxLocals ret :: tables_1) h _ List.mem_cons_self)
    exact ⟨meth, c, h1, h2, h3, h4, h5, h6⟩
  · intro p e s m args below meth c s₁ B hml0 hP _
    obtain ⟨rfl, hx, hbd, hgv⟩ := hP
    obtain ⟨scr, harrAt, hlist, hof, hsmall⟩ := hx
    obtain ⟨hcb, hkn, -, -⟩ := State.arrayAt?_spec harrAt
    have hown : s.vm.findClass R_law = some m.cls := findClass_of_methodNamed B.named
    have hts0 : ∀ c ∈ (Jvm.Cond.code x code maxLocals ret :: tables_1), c.before #[Value.ref b] s = true := atoms_spec (ws := Jvm.Cond.code x code maxLocals ret :: tables_1) B.pre
    have hts : ∀ w ∈ lw_tbl, w.before #[Value.ref b] s = true := k2_hts_sels lw_privs (fun w hw => hts0 w (List.mem_cons_of_mem _ hw)) lw_privs_ok
    have hexc : c.exceptionTable.isEmpty = true := by
      obtain ⟨meth', c', z1, z2, z3, z4, z5, z6, z7, -⟩ := Cond.code_spec B.named (hts0 _ List.mem_cons_self)
      cases z1.symm.trans B.method
      have hcode : meth.code = some c := by
        have h := B.here.code
        rw [State.code?_eq, B.method₁] at h
        exact h
      cases z2.symm.trans hcode
      exact z7
    have hml : c.maxLocals = 7 := B.maxLocals_eq (hts0 _ List.mem_cons_self)
    have X₀ : Stand p l e room_1 s m #[Value.ref b] below meth c s₁ [] 0 0 := Stand.of_body B
    have hh0 : s₁.heap = s.heap := by rw [B.state]; rfl
    have hsz : scr.slots.size = xs.length := by rw [← Array.length_toList, hlist, List.length_map]
    have hval : ∀ j : Nat, j < xs.length → scr.slots[j]? = some (.int (xs.getD j 0)) := fun j hj => by
      rw [← Array.getElem?_toList, hlist]
      simp [hj]
    have hbl : b < s.heap.size := (Array.getElem?_eq_some_iff.mp hcb).1
    have hX : va_X b xs.length (fun j => xs.getD j 0) s s.heap := ⟨scr, hcb, hof, hkn, hsz, hval⟩
    have K : W p l e room_1 s m #[Value.ref b] below meth c s₁.heap [] 0 0 (lw_Z below #[Value.ref b] s) (entryFrame m ([Value.ref b] : List Value).toArray 7) := by
      rw [hh0]
      exact ms_start l htr (hpure _ _ hbd) hexc (by omega) ⟨B.exec, B.bytes, B.returns, hml, hown, hts, hX, hbl, B.notSynchronized, hgv⟩
    obtain ⟨t, a1, o, b1, b2, b3⟩ := K s₁ rfl X₀
    exact ⟨t, o, a1, b1, b2, b3⟩
theorem lw_pre_spec {args : Array Value} {s : State} (h : (Jvm.Cond.and given_1 narrow_1).before args s = true) (hr : rest_1_c.before args s = true) : ∃ (b : Addr) (xs : List Int32), lw_P b xs args s := by
  have hs := flat_of_before _ h
  have hq := flat_of_before _ hr
  have hc : (Cond.count 1).before args s = true := hs _ (by decide +kernel)
  have harr : (Cond.arrayOf (.arg 0) .int).before args s = true := hs _ (by decide +kernel)
  have hle : (Cond.le (.length (.arg 0)) (.int 3072)).before args s = true := hs _ (by decide +kernel)
  have hlen : (Cond.isInt (.length (.arg 0))).before args s = true := hq _ (by decide +kernel)
  have hall : (Cond.all (.arg 0) (.isInt (.elem (.arg 0) (.index 0)))).before args s = true := hq _ (by decide +kernel)
  obtain ⟨b, xs, hb, hx⟩ := State.ints_of_pre rfl harr hlen hall
  have hsm : xs.length < 2 ^ 31 := hx.choose_spec.2.2.2
  have hev : (Term.length (.arg 0)).eval args s none [] s = some (.int xs.length.toInt32) := hx.length_eval hb
  have hv := Cond.le_ints hev (show (Term.int 3072).eval args s none [] s = some (.int 3072) from rfl)
  have hd : xs.length.toInt32 ≤ 3072 := by
    simpa [Cond.before, Cond.holds, hv] using hle
  have hN : xs.length ≤ 3072 := (Int32.ofNat_le_ofNat hsm (by decide)).mp (show Int32.ofNat xs.length ≤ Int32.ofNat 3072 from hd)
  exact ⟨b, xs, Cond.one_arg hc (show args[0]? = some (.ref b) from hb), hx, hN, h⟩
theorem lw_comes (l : Launch) (htr : ∀ e, l.admits e → e.platform.stackTraces = false) (hpure : ∀ (L : Nat) (xs : Nat → Int32), L ≤ 3072 → ms_pure L xs) : Comes l x (Jvm.Cond.code x code maxLocals ret :: tables_1) room_1 (fun tb e args s => Calls_1 tb e args s ∧ rest_1 tb e args s ∧ Pre_1 tb e args s)
    (fun _ _ args s o t => lw_Q args s o t) := by
  intro p e ha hc hk s m args below hf hfit hheap happ hpre
  obtain ⟨b, xs, hP⟩ := lw_pre_spec hpre.2.2 hpre.2.1
  obtain ⟨k, o, h1, h2, h3, hQ⟩ := lw_walk l htr hpure b xs p e ha hc hk s m args below hf ((Spec.applies_iff_loose hf).mp happ).1 hP trivial
  exact ⟨k, o, h1, h2, h3, hQ⟩
theorem lw_frame {s t : State} {o : Outcome} {args : Array Value} (h : Framed s o t [] 601024 7293034) :
    Framed s o t (fieldLocs frame_1_writes args s ++ arrayLocs frame_1_arrays args s ++ staticLocs frame_1_statics s) 601024 7293034 := h
theorem lw_limb (hpure : ∀ (L : Nat) (xs : Nat → Int32), L ≤ 3072 → ms_pure L xs) (L : Cond) (hL : ∀ (args : Array Value) (s t : State), L.after args s (.returned (some (.int 1))) t = true) :
    ArmFor flags0 classFile x code maxLocals ret World_1 tables_1 room_1 Calls_1 rest_1 Pre_1
      (fun tb e a s o t => postC L tb e a s o t ∧ Framed s o t (fieldLocs frame_1_writes a s ++ arrayLocs frame_1_arrays a s ++ staticLocs frame_1_statics s) 601024 7293034) := by
  intro l hfl _ _ p e ha hc hk s m args below hf hfit hheap happ hpre
  have htr : ∀ e, l.admits e → e.platform.stackTraces = false := by
    intro e he
    rw [he.platform]
    show l.stackTraces = false
    unfold Launch.stackTraces
    rw [hfl]
    decide
  obtain ⟨k, o, h1, h2, h3, rfl, hF⟩ := lw_comes l htr hpure p e ha hc hk s m args below hf hfit hheap happ hpre
  exact ⟨k, _, h1, h2, h3, hL args s _, lw_frame hF⟩
theorem ms_claim (hpure : ∀ (L : Nat) (xs : Nat → Int32), L ≤ 3072 → ms_pure L xs) : Claimed_1_1 ∧ Claimed_1_2 := ⟨lw_limb hpure limb_1_1 (fun args s t => by simp [limb_1_1, Cond.after, Cond.holds, Cond.value]), lw_limb hpure limb_1_2 (fun args s t => Cond.after_iff.mpr (by
  first | (rw [show limb_1_2 = Cond.eq .result (.int 1) from rfl, Cond.eq_ints (x := 1) (y := 1) rfl rfl]; simp; done) | (simp [limb_1_2, Cond.value, Term.eval]; done)))⟩
