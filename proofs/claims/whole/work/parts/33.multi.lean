/-! new int[n1][n2]: the outer array, then row by row: a row is made, and laid into it. -/
def ms_mo (cA : ClassId) (n1 h k : Nat) : Cell := arrV cA n1 (fun j => if j < k then .ref (h + 1 + j) else .null)
def ms_mi (cI : ClassId) (n2 : Nat) : Cell := arrV cI n2 (fun _ => .int 0)
def ms_ms (T : State) (cA cI : ClassId) (n1 n2 : Nat) : Nat → State
  | 0 => T.pushCell (ms_mo cA n1 T.heap.size 0)
  | k + 1 => ((ms_ms T cA cI n1 n2 k).pushCell (ms_mi cI n2)).setCell T.heap.size (ms_mo cA n1 T.heap.size (k + 1))
theorem ms_mo_set (cA : ClassId) (n1 h k : Nat) : (ms_mo cA n1 h k).setSlot k (.ref (h + 1 + k)) = ms_mo cA n1 h (k + 1) := by
  unfold ms_mo
  rw [arrV_store]
  congr 1
  funext j
  by_cases hj : j = k
  · subst hj
    simp [updV]
  · by_cases h1 : j < k
    · simp [updV, hj, h1, Nat.lt_succ_of_lt h1]
    · have h2 : ¬ j < k + 1 := by omega
      simp [updV, hj, h1, h2]
theorem ms_ms_at (T : State) (cA cI : ClassId) (n1 n2 : Nat) : ∀ k, (ms_ms T cA cI n1 n2 k).heap.size = T.heap.size + 1 + k ∧ (ms_ms T cA cI n1 n2 k).heap[T.heap.size]? = some (ms_mo cA n1 T.heap.size k) ∧ (ms_ms T cA cI n1 n2 k).vm = T.vm ∧ (ms_ms T cA cI n1 n2 k).slotsUsed = T.slotsUsed + n1 + k * n2 ∧
    (∀ q, q < T.heap.size → (ms_ms T cA cI n1 n2 k).heap[q]? = T.heap[q]?) ∧ (∀ q, q < k → (ms_ms T cA cI n1 n2 k).heap[T.heap.size + 1 + q]? = some (ms_mi cI n2)) := by
  intro k
  induction k with
  | zero =>
    refine ⟨size_pushCell _ _, State.heap_pushCell_size _ _, rfl, ?_, fun q hq => State.heap_pushCell_of_lt _ _ hq, fun q hq => absurd hq (Nat.not_lt_zero _)⟩
    show T.slotsUsed + (ms_mo cA n1 T.heap.size 0).slots.size = _
    rw [ms_mo, arrV_size]
    omega
  | succ k ih =>
    obtain ⟨h1, h2, h3, h4, h5, h6⟩ := ih
    generalize hU : ms_ms T cA cI n1 n2 k = U at h1 h2 h3 h4 h5 h6
    have e : ms_ms T cA cI n1 n2 (k + 1) = (U.pushCell (ms_mi cI n2)).setCell T.heap.size (ms_mo cA n1 T.heap.size (k + 1)) := by rw [← hU]; rfl
    rw [e]
    have hz : (U.pushCell (ms_mi cI n2)).heap.size = T.heap.size + 1 + (k + 1) := by rw [size_pushCell, h1]; omega
    have hz0 : T.heap.size < (U.pushCell (ms_mi cI n2)).heap.size := by rw [hz]; omega
    refine ⟨by rw [size_setCell]; exact hz, heapAt_setCell_self _ hz0, h3, ?_, fun q hq => ?_, fun q hq => ?_⟩
    · show U.slotsUsed + (ms_mi cI n2).slots.size = _
      rw [ms_mi, arrV_size, h4, Nat.succ_mul]
      omega
    · have hne : T.heap.size ≠ q := by omega
      have hlt : q < U.heap.size := by rw [h1]; omega
      rw [heapAt_setCell_ne _ hne, State.heap_pushCell_of_lt _ _ hlt]
      exact h5 q hq
    · have hne : T.heap.size ≠ T.heap.size + 1 + q := by omega
      rw [heapAt_setCell_ne _ hne]
      by_cases hk : q < k
      · have hlt : T.heap.size + 1 + q < U.heap.size := by rw [h1]; omega
        rw [State.heap_pushCell_of_lt _ _ hlt]
        exact h6 q hk
      · have hqk : q = k := by omega
        subst hqk
        rw [← h1]
        exact State.heap_pushCell_size _ _
theorem ms_ms_top (T : State) (g : JFrame) (cA cI : ClassId) (n1 n2 : Nat) : ∀ k, ms_ms (T.setTop g) cA cI n1 n2 k = (ms_ms T cA cI n1 n2 k).setTop g
  | 0 => rfl
  | k + 1 => by
    show ((ms_ms (T.setTop g) cA cI n1 n2 k).pushCell _).setCell _ _ = _
    rw [ms_ms_top T g cA cI n1 n2 k]
    rfl
section MsMw
variable {E : CtlPost} {e : Env} {d : Bool} {acts : List Action} {s : State}
theorem ms_wp_arr {c comp : ClassId} {k : Class} {type : FieldType} {len : Nat} {init : Value} (hk : s.vm.classes[c]? = some k) (hkind : k.kind = .array comp type) (hlimit : ¬ len > e.platform.arrayLengthLimit) (hheap : ¬ len * componentBytes type > e.platform.maxHeapBytes) (hfit : fits type init = true) (hdef : init.isDefault = true) {Q : Addr → Pre}
    (h1 : s.heap.size < e.platform.maxCells) (h2 : s.slotsUsed + len ≤ e.platform.maxSlots) (hq : Q s.heap.size d acts (s.pushCell (arrV c len (fun _ => init)))) : wp (Jvm.newArray c len init) Q E e d acts s := by
  have hf : ∀ i v, (Array.replicate len init)[i]? = some v → s.fitsSlot c .none i v = true := by
    intro i v hv
    rw [Array.getElem?_replicate] at hv
    split at hv
    · cases hv
      simp [State.fitsSlot, State.slotType?, hk, hkind, hfit]
    · cases hv
  have ha : allocActs (Array.replicate len init) s.heap.size acts = acts := by
    unfold allocActs
    rw [if_pos]
    rw [Array.all_replicate]
    split <;> simp [hdef]
  rw [← arrV_new] at hq
  simp only [Jvm.newArray, Jvm.arrayFits, wp_bind', W.ask, W.ite, hlimit, if_false, wp_pure', W.theClass, hk, hkind, hheap, W.alloc, W.stop, Option.some.injEq, exists_eq_left', Array.size_replicate, ha]
  rw [if_neg (by omega)]
  exact ⟨h1, h2, hf, hq⟩
theorem ms_wp_make {cA cI cc : ClassId} {kA kI : Class} {n1 n2 : Int32} (hkA : s.vm.classes[cA]? = some kA) (hdA : kA.kind = .array cI (.array .int)) (hkI : s.vm.classes[cI]? = some kI) (hdI : kI.kind = .array cc .int) (hn1 : ¬ n1 < 0) (hn2 : ¬ n2 < 0) (hs1 : n1.toNatClampNeg < 100) (hs2 : n2.toNatClampNeg < 100)
    (hlim : 100 ≤ e.platform.arrayLengthLimit) (hby : 1000 ≤ e.platform.maxHeapBytes) (hc : s.heap.size + 1 + n1.toNatClampNeg ≤ e.platform.maxCells) (hs : s.slotsUsed + n1.toNatClampNeg + n1.toNatClampNeg * n2.toNatClampNeg ≤ e.platform.maxSlots)
    {Q : Addr → Pre} (hq : ∀ d' acts', Q s.heap.size d' acts' (ms_ms s cA cI n1.toNatClampNeg n2.toNatClampNeg n1.toNatClampNeg)) : wp (multianewarray.make cA [n1, n2]) Q E e d acts s := by
  have hfind : ([n2].find? (· < 0)) = none := by simp [hn2]
  have hm0 := Nat.zero_le (n1.toNatClampNeg * n2.toNatClampNeg)
  rw [multianewarray.make]
  simp only [wp_bind', W.ite, hn1, if_false, wp_pure', W.theClass, hkA, hdA, Option.some.injEq, exists_eq_left']
  refine ms_wp_arr hkA hdA (by omega) (by show ¬ n1.toNatClampNeg * 4 > _; omega) rfl rfl (by omega) (by omega) ?_
  simp only [hfind]
  rw [ite_self, wp_bind', Std.Legacy.Range.forIn_eq_forIn_range']
  have hsz : ([:n1.toNatClampNeg] : Std.Legacy.Range).size = n1.toNatClampNeg := by simp [Std.Legacy.Range.size]
  rw [hsz]
  show wp (forIn (List.range' 0 n1.toNatClampNeg 1) PUnit.unit _) _ E e d acts _
  have e0 : s.pushCell (arrV cA n1.toNatClampNeg (fun _ => .null)) = ms_ms s cA cI n1.toNatClampNeg n2.toNatClampNeg 0 := by
    show _ = s.pushCell (arrV _ _ _)
    congr 2
  rw [e0]
  refine wp_forIn_inv (fun l u => ∃ k, k ≤ n1.toNatClampNeg ∧ l = List.range' k (n1.toNatClampNeg - k) ∧ u = ms_ms s cA cI n1.toNatClampNeg n2.toNatClampNeg k) _ _ ⟨0, Nat.zero_le _, rfl, rfl⟩ ?_ ?_
  · rintro x l u d' acts' Q' ⟨k, hk, hl, rfl⟩ hn
    have hlt : k < n1.toNatClampNeg := by
      rcases Nat.lt_or_ge k n1.toNatClampNeg with h | h
      · exact h
      · rw [show n1.toNatClampNeg - k = 0 by omega] at hl
        cases hl
    rw [show n1.toNatClampNeg - k = (n1.toNatClampNeg - (k + 1)) + 1 by omega, List.range'_succ] at hl
    obtain ⟨rfl, rfl⟩ := List.cons.inj hl
    obtain ⟨g1, g2, g3, g4, -⟩ := ms_ms_at s cA cI n1.toNatClampNeg n2.toNatClampNeg x
    have hmul : x * n2.toNatClampNeg + n2.toNatClampNeg ≤ n1.toNatClampNeg * n2.toNatClampNeg := by
      have h5 := Nat.mul_le_mul_right n2.toNatClampNeg hlt
      rw [Nat.succ_mul] at h5
      exact h5
    have e1 : ms_ms s cA cI n1.toNatClampNeg n2.toNatClampNeg (x + 1) = ((ms_ms s cA cI n1.toNatClampNeg n2.toNatClampNeg x).pushCell (ms_mi cI n2.toNatClampNeg)).setCell s.heap.size (ms_mo cA n1.toNatClampNeg s.heap.size (x + 1)) := rfl
    generalize ms_ms s cA cI n1.toNatClampNeg n2.toNatClampNeg x = U at g1 g2 g3 g4 e1 hn
    simp only [wp_bind']
    rw [multianewarray.make]
    simp only [wp_bind', W.ite, hn2, if_false, wp_pure', W.theClass, g3, hkI, hdI, Option.some.injEq, exists_eq_left']
    refine ms_wp_arr (by rw [g3]; exact hkI) hdI (by omega) (by show ¬ n2.toNatClampNeg * 4 > _; omega) rfl rfl (by rw [g1]; omega) (by rw [g4]; omega) ?_
    simp only [wp_bind', W.writeLoc, wp_pure']
    have hlt0 : s.heap.size < U.heap.size := by rw [g1]; omega
    refine ⟨ms_mo cA n1.toNatClampNeg s.heap.size x, by rw [State.heap_pushCell_of_lt _ _ hlt0]; exact g2, by simp [ms_mo, arrV], by rw [ms_mo, arrV_size]; exact hlt, ?_, hn _ _ _ ⟨x + 1, hlt, rfl, ?_⟩⟩
    · show (U.pushCell _).fitsSlot cA .none x (.ref _) = true
      simp [State.fitsSlot, State.slotType?, g3, hkA, hdA]
      rfl
    · rw [e1, g1, ms_mo_set]
      rfl
  · rintro u d' acts' ⟨k, hk, hl, rfl⟩
    have hkn : k = n1.toNatClampNeg := by
      rcases Nat.lt_or_ge k n1.toNatClampNeg with h | h
      · rw [show n1.toNatClampNeg - k = (n1.toNatClampNeg - (k + 1)) + 1 by omega, List.range'_succ] at hl
        cases hl
      · omega
    subst hkn
    simp only [wp_pure']
    exact hq _ _
end MsMw
section MsMs
variable {p : Program} {l : Launch} {e : Env} {R : Room} {s : State} {m : MethodId} {args : Array Value} {below : List Frame} {meth : Method} {c : Code} {H : Heap} {locs : List Loc} {cells slots : Nat} {Q : State → Prop}
variable {v : ms_V} {j pc len : Nat} {x : ms_X} {ls : Array Slot} {L S : List Value} {σ : ms_M} {y : ms_N}
theorem ms_ms_stand {T : State} {cA cI : ClassId} {n1 n2 : Nat} (X : Stand p l e R s m args below meth c T locs cells slots) : ∀ k, ∃ locs', (∀ q ∈ locs', q ∈ locs ∨ q.base = T.heap.size) ∧ Stand p l e R s m args below meth c (ms_ms T cA cI n1 n2 k) locs' (cells + 1 + k) (slots + n1 + k * n2)
  | 0 => by
    refine ⟨locs, fun q h => Or.inl h, ?_⟩
    have h := X.pushed (ms_mo cA n1 T.heap.size 0)
    have e1 : (ms_mo cA n1 T.heap.size 0).slots.size = n1 := by rw [ms_mo, arrV_size]
    rw [e1] at h
    rw [Nat.zero_mul]
    exact h
  | k + 1 => by
    obtain ⟨locs1, h1, h2⟩ := ms_ms_stand (cA := cA) (cI := cI) (n1 := n1) (n2 := n2) X k
    obtain ⟨g1, g2, -⟩ := ms_ms_at T cA cI n1 n2 k
    have h3 := h2.pushed (ms_mi cI n2)
    have e1 : (ms_mi cI n2).slots.size = n2 := by rw [ms_mi, arrV_size]
    rw [e1] at h3
    have hlt : T.heap.size < (ms_ms T cA cI n1 n2 k).heap.size := by rw [g1]; omega
    have h4 := h3.stored (a := T.heap.size) (cell := ms_mo cA n1 T.heap.size k) (by rw [State.heap_pushCell_of_lt _ _ hlt]; exact g2) k (.ref (T.heap.size + 1 + k))
    rw [ms_mo_set] at h4
    refine ⟨locs1 ++ [⟨T.heap.size, k⟩], fun q hq => ?_, ?_⟩
    · rcases List.mem_append.mp hq with h | h
      · exact h1 q h
      · rw [List.mem_singleton] at h
        subst h
        exact Or.inr rfl
    · have e2 : slots + n1 + (k + 1) * n2 = slots + n1 + k * n2 + n2 := by rw [Nat.succ_mul]; omega
      rw [e2]
      exact h4
theorem ms_ms_tj (T : State) (cA cI : ClassId) (n1 n2 : Nat) : ∀ k, (ms_ms T cA cI n1 n2 k).topJava? = T.topJava?
  | 0 => rfl
  | k + 1 => (show (ms_ms T cA cI n1 n2 (k + 1)).topJava? = (ms_ms T cA cI n1 n2 k).topJava? from rfl).trans (ms_ms_tj T cA cI n1 n2 k)
theorem ms_wp_cold {E : CtlPost} {d : Bool} {acts : List Action} {u : State} {f : JFrame} {Q : Unit → Pre} {index dims c : Nat} {vm' : Vm} (hs : u.topJava?.isSome) (hg : (Jvm.resolveClass f.method.cls index).Gives e.toSetting u.vm (.ok c) vm') (hr : vm'.classReady f.method.cls index c)
    (hsz : vm'.classes.size ≤ u.vm.classes.size := by no_record) :
    wp (multianewarray.sem index dims) Q E e d acts (u.setTop f) ↔ wp (multianewarray.sem index dims) Q E e d acts ((u.setVm vm').setTop f) := by
  simp only [multianewarray.sem, wp_bind']
  exact W.resolveClassAt_transfer (s := u.setTop f) (State.method?_setTop f hs) hg hr
theorem ms_rows_at (M : Nat → ms_E) (q n : Nat) : ∀ k i, ms_rows M q n k i = if q ≤ i ∧ i < q + k then .inl (0, ms_arr 0 n) else M i
  | 0, i => by rw [if_neg (by omega)]; rfl
  | k + 1, i => by
    show ms_up (ms_rows M q n k) (q + k) _ i = _
    unfold ms_up
    rw [ms_rows_at M q n k i]
    by_cases h : i = q + k
    · rw [if_pos h, if_pos (by omega)]
    · rw [if_neg h]
      by_cases h2 : q ≤ i ∧ i < q + k
      · rw [if_pos h2, if_pos (by omega)]
      · rw [if_neg h2, if_neg (by omega)]
theorem ms_arrV_eq {cA : ClassId} {n : Nat} {f g : Nat → Value} (h : ∀ j, j < n → f j = g j) : arrV cA n f = arrV cA n g := by
  unfold arrV
  congr 2
  funext j
  exact h j.val j.isLt
theorem ms_multi_rl (hvk : ms_vok v) (hR : ms_Rl v σ H) {n1 n2 : Nat} {H1 : Heap} (a1 : H1.size = H.size + 1 + n1) (a2 : H1[H.size]? = some (ms_mo (ms_vA v 2) n1 H.size n1)) (a5 : ∀ q, q < H.size → H1[q]? = H[q]?) (a6 : ∀ q, q < n1 → H1[H.size + 1 + q]? = some (ms_mi (ms_vA v 0) n2)) :
    ms_Rl v (σ.1 + 1 + n1, σ.2.1 + n1 + n1 * n2, true, ms_up (ms_rows σ.2.2.2 (σ.1 + 1) n2 n1) σ.1 (.inl (2, n1, .inr (.inr (.inr (.inr (fun j => some (σ.1 + 1 + j)))))))) H1 := by
  have hnx := hR.next hvk
  obtain ⟨⟨h1, h2, h3⟩, h4⟩ := hR
  have hhi : ∀ k, σ.1 ≤ k → ms_vr v k = H.size + (k - σ.1) := by
    intro k hk
    rw [hvk.hi (Nat.le_trans h1 hk), hnx, hvk.hi h1]
    omega
  refine ⟨⟨by show 3 ≤ σ.1 + 1 + n1; omega, by show H1.size + 3 = ms_vB v + (σ.1 + 1 + n1); omega, fun q hq => ?_⟩, fun k => ?_⟩
  · rw [a5 q (by omega)]
    exact h3 q hq
  · show ms_cr v k (ms_up (ms_rows σ.2.2.2 (σ.1 + 1) n2 n1) σ.1 _ k) H1
    unfold ms_up
    by_cases hk : k = σ.1
    · subst hk
      rw [if_pos rfl]
      refine Or.inr ⟨by decide, h1, ?_⟩
      rw [← hnx, a2]
      show some (arrV (ms_vA v 2) n1 (fun j => if j < n1 then Value.ref (H.size + 1 + j) else .null)) = some (arrV (ms_vA v 2) n1 (fun j => va_rf ((some (σ.1 + 1 + j)).map (ms_vr v))))
      congr 1
      refine ms_arrV_eq fun j hj => ?_
      show (if j < n1 then Value.ref (H.size + 1 + j) else .null) = va_rf ((some (σ.1 + 1 + j)).map (ms_vr v))
      rw [if_pos hj]
      show Value.ref _ = Value.ref (ms_vr v (σ.1 + 1 + j))
      have hjj : H.size + 1 + j = H.size + (σ.1 + 1 + j - σ.1) := by omega
      rw [hhi _ (by omega), ← hjj]
    · rw [if_neg hk, ms_rows_at]
      by_cases hr : σ.1 + 1 ≤ k ∧ k < σ.1 + 1 + n1
      · rw [if_pos hr]
        refine Or.inr ⟨by decide, by omega, ?_⟩
        rw [hhi k (by omega), show H.size + (k - σ.1) = H.size + 1 + (k - σ.1 - 1) by omega, a6 _ (by omega)]
        rfl
      · rw [if_neg hr]
        have h5 := h4 k
        generalize σ.2.2.2 k = cc at h5 ⊢
        rcases cc with ⟨t, a⟩ | ⟨ci, fs⟩
        · rcases h5 with h5 | ⟨q1, q2, q3⟩
          · exact Or.inl h5
          · exact Or.inr ⟨q1, q2, (a5 _ (Array.getElem?_eq_some_iff.mp q3).1).trans q3⟩
        · rcases h5 with h5 | ⟨q1, r, q2, q3⟩
          · exact Or.inl h5
          · exact Or.inr ⟨q1, r, q2, q3.kept (a5 _ (by obtain ⟨cell, g1, -⟩ := q3; exact (Array.getElem?_eq_some_iff.mp g1).1))⟩
theorem ms_wp_sem {E : CtlPost} {d : Bool} {acts : List Action} {u : State} {f : JFrame} {index : Nat} {cA cI cc : ClassId} {kA kI : Class} {n1 n2 : Int32} {rest : List Value} (ht : u.topJava?.isSome) (hr : u.vm.classReady f.method.cls index cA) (hst : f.stack = .int n2 :: .int n1 :: rest)
    (hkA : u.vm.classes[cA]? = some kA) (hdA : kA.kind = .array cI (.array .int)) (hkI : u.vm.classes[cI]? = some kI) (hdI : kI.kind = .array cc .int) (hn1 : ¬ n1 < 0) (hn2 : ¬ n2 < 0) (hs1 : n1.toNatClampNeg < 100) (hs2 : n2.toNatClampNeg < 100)
    (hlim : 100 ≤ e.platform.arrayLengthLimit) (hby : 1000 ≤ e.platform.maxHeapBytes) (hc : u.heap.size + 1 + n1.toNatClampNeg ≤ e.platform.maxCells) (hs : u.slotsUsed + n1.toNatClampNeg + n1.toNatClampNeg * n2.toNatClampNeg ≤ e.platform.maxSlots)
    {Q : Unit → Pre} (hq : ∀ d' acts', Q () d' acts' ((ms_ms u cA cI n1.toNatClampNeg n2.toNatClampNeg n1.toNatClampNeg).setTop { f with stack := .ref u.heap.size :: rest })) : wp (multianewarray.sem index 2) Q E e d acts (u.setTop f) := by
  have e1 : ∀ k, ms_ms (u.setTop { f with stack := rest }) cA cI n1.toNatClampNeg n2.toNatClampNeg k = (ms_ms u cA cI n1.toNatClampNeg n2.toNatClampNeg k).setTop { f with stack := rest } := fun k => ms_ms_top _ _ _ _ _ _ _
  have e2 : (ms_ms u cA cI n1.toNatClampNeg n2.toNatClampNeg n1.toNatClampNeg).topJava?.isSome := by
    rw [show (ms_ms u cA cI n1.toNatClampNeg n2.toNatClampNeg n1.toNatClampNeg).topJava? = u.topJava? from ms_ms_tj _ _ _ _ _ _]
    exact ht
  simp only [multianewarray.sem, wp_bind', W.resolveClassAt_ready (State.method?_setTop f ht) hr, Jvm.popN, W.pop, State.topJava?_setTop' _ ht, Option.some.injEq, exists_eq_left', hst, List.cons.injEq, exists_cons_eq, State.setTop_setTop, wp_pure', List.nil_append, List.cons_append, List.mapM_cons, List.mapM_nil]
  refine ms_wp_make (s := u.setTop { f with stack := rest }) hkA hdA hkI hdI hn1 hn2 hs1 hs2 hlim hby hc hs fun d' acts' => ?_
  rw [e1]
  simp only [wp_bind', W.mark, W.pushRef, State.topJava?_setTop' _ e2, Option.some.injEq, exists_eq_left', State.setTop_setTop]
  exact hq _ _
theorem ms_w_multi (C : ms_Cx v j p s m args meth c) (hR : ms_Rl v σ H) {q : Nat} (hd : decode (ms_by j) pc = .ok (.multianewarray q 2, 4)) (hcl : Cond.classLink (ms_ow j) q "[[I" ∈ ms_ws)
    (h : ms_st1 (.multianewarray q 2) 4 x pc L S σ = some y) (hL : ms_Lr (ms_vr v) ls L) (hc : cells + (y.2.2.2.1 - σ.1) ≤ R.cells) (hs : slots + (y.2.2.2.2.1 - σ.2.1) ≤ R.slots) (K : ms_K p l e R s m args below meth c H locs cells slots Q v σ y) :
    W p l e R s m args below meth c H locs cells slots Q (F0 m pc ls (S.map (ms_mv (ms_vr v)))) := by
  simp only [ms_st1] at h
  split at h
  · rename_i n2 n1 r
    split at h
    · rename_i hh
      obtain ⟨hi1, hi2, hpos⟩ := hh
      cases h
      have hv1 := ms_in_vp hi1
      have hv2 := ms_in_vp hi2
      have hlt1 : n1.toNatClampNeg < 100 := Nat.not_le.mp fun q => hv1 (Or.inr q)
      have hlt2 : n2.toNatClampNeg < 100 := Nat.not_le.mp fun q => hv2 (Or.inr q)
      have hn1 : ¬ n1 < 0 := fun q => hv1 (Or.inl q)
      have hn2 : ¬ n2 < 0 := fun q => hv2 (Or.inl q)
      intro T hT X
      have hvk := C.2.2.1.1
      have hpl : e.platform.magicAccessors = ({} : Platform).magicAccessors := by rw [X.admits.platform]
      obtain ⟨cc', hfcc, hcl'⟩ := Cond.classLink_spec C.1.2.2.2 (C.2.1 _ hcl) e.platform hpl
      obtain ⟨hg₁, hwarm₁, hready₁⟩ := State.classEntry (e := e) X.warmed hcl'
      generalize T.vm.noted m.cls q (.cls cc') = vm₁ at hg₁ hwarm₁ hready₁
      have X₁ := X.noted hwarm₁
      have e2 : cc' = ms_vA v 2 := Option.some.inj (hfcc.symm.trans (C.2.2.1.2.1.2 2 _ rfl).2)
      subst e2
      obtain ⟨kA, hkA, hdA⟩ := C.2.2.1.2.2.2.2.2.2.2.1
      obtain ⟨-, kI, hkI, ccI, hdI⟩ := (C.2.2.1.2.1.2 0 _ rfl).1 0 (fun _ => .null)
      obtain ⟨kA₁, hkA₁, heA⟩ := hwarm₁.alike.2.2 _ _ hkA
      obtain ⟨kI₁, hkI₁, heI⟩ := hwarm₁.alike.2.2 _ _ hkI
      have hdA₁ : kA₁.kind = .array (ms_vA v 0) (.array .int) := by rw [heA]; exact hdA
      have hdI₁ : kI₁.kind = .array ccI .int := by rw [heI]; exact hdI
      obtain ⟨hr1, hr2⟩ := X₁.roomAbove (a := 1 + n1.toNatClampNeg) (b := n1.toNatClampNeg + n1.toNatClampNeg * n2.toNatClampNeg) (by dsimp only at hc; omega) (by dsimp only at hs; omega)
      have hlim : 100 ≤ e.platform.arrayLengthLimit := by rw [Launch.admits_arrayLengthLimit X.admits]; decide
      have hby : 1000 ≤ e.platform.maxHeapBytes := by rw [Launch.admits_maxHeapBytes X.admits]; decide
      obtain ⟨locs1, hl1, X2⟩ := ms_ms_stand (cA := ms_vA v 2) (cI := ms_vA v 0) (n1 := n1.toNatClampNeg) (n2 := n2.toNatClampNeg) X₁ n1.toNatClampNeg
      obtain ⟨a1, a2, a3, a4, a5, a6⟩ := ms_ms_at (T.setVm vm₁) (ms_vA v 2) (ms_vA v 0) n1.toNatClampNeg n2.toNatClampNeg n1.toNatClampNeg
      have hsz : (T.setVm vm₁).heap = H := hT
      rw [hsz] at a1 a2 a5 a6
      have hnx := hR.next hvk
      have hRl : ms_Rl v (σ.1 + 1 + n1.toNatClampNeg, σ.2.1 + n1.toNatClampNeg + n1.toNatClampNeg * n2.toNatClampNeg, true, ms_up (ms_rows σ.2.2.2 (σ.1 + 1) n2.toNatClampNeg n1.toNatClampNeg) σ.1 (.inl (2, n1.toNatClampNeg, .inr (.inr (.inr (.inr (fun j => some (σ.1 + 1 + j)))))))) (ms_ms (T.setVm vm₁) (ms_vA v 2) (ms_vA v 0) n1.toNatClampNeg n2.toNatClampNeg n1.toNatClampNeg).heap :=
        ms_multi_rl hvk hR a1 a2 a5 a6
      have h9 := K _ ls locs1 hL hRl (fun q hq => by
        rcases hl1 q hq with h | h
        · exact Or.inl h
        · right
          rw [h, hsz]
          have := hR.1.2.1
          have := hR.1.1
          omega) (fun h => by cases h) _ rfl (by
        have g1 : cells + 1 + n1.toNatClampNeg = cells + (σ.1 + 1 + n1.toNatClampNeg - σ.1) := by omega
        have g2 : slots + n1.toNatClampNeg + n1.toNatClampNeg * n2.toNatClampNeg = slots + (σ.2.1 + n1.toNatClampNeg + n1.toNatClampNeg * n2.toNatClampNeg - σ.2.1) := by omega
        rw [g1, g2] at X2
        exact X2)
      obtain ⟨t, b1, b2⟩ := h9
      refine ⟨t, ?_, b2⟩
      refine Steps.instr (c := c) X.here ?_
      show match decode c.code pc with
        | .ok (i, len) => _
        | .error _ => _
      rw [C.1.2.1, hd]
      show wpRun (p.tables.exec (.multianewarray q 2)) _ _ e _
      rw [C.1.1]
      show wp (multianewarray.sem q 2) _ _ e false [] (T.setTop _)
      rw [ms_wp_cold (f := F0 m pc ls _) X.here.top hg₁ hready₁]
      refine ms_wp_sem (u := T.setVm vm₁) (f := F0 m pc ls (.int n2 :: .int n1 :: r.map (ms_mv (ms_vr v)))) (rest := r.map (ms_mv (ms_vr v))) X.here.top hready₁ rfl hkA₁ hdA₁ hkI₁ hdI₁ hn1 hn2 hlt1 hlt2 hlim hby (by omega) (by omega) fun d' acts' => ?_
      intro acts
      rw [afterInstr_ok]
      have e9 : (T.setVm vm₁).heap.size = ms_vr v σ.1 := by rw [hsz]; exact hnx
      rw [e9]
      exact b1
    · cases h
  · cases h
end MsMs
