/-! A NEW EXCEPTION IS THROWN. -/
theorem ms_zs_words {v : ms_V} {n d : String} {args : Array Value} {s : State} (h : ms_Zs v n d s) (hH : ∀ q, q < ms_vB v → s.heap[q]? = (ms_vH v)[q]?) : (Cond.laysStatic "java/lang/Throwable" n d).before args s = true ∧ (Cond.isRef (.static "java/lang/Throwable" n d)).before args s = true := by
  obtain ⟨c, k, i, f, a, cell, w, h1, h2, h3, h4, ⟨h5, h5'⟩, h6, h7, h8, h9, h10, h11⟩ := h
  have hc : s.heap[a]? = some cell := by rw [hH a h5]; exact h5'
  refine ⟨Cond.laysStatic_of h1 h2 h3 h4 hc h6 h7 h8 h9, ?_⟩
  have ev : (Term.static "java/lang/Throwable" n d).eval args s none [] s = some w := by
    simp [Term.eval, State.fieldNamed?, h2, h3, h4, hc, h6, h10]
  simp only [Cond.before, Cond.holds, Cond.value, ev]
  rcases h11 with rfl | ⟨t, rfl⟩ <;> simp
theorem ms_kept {s t : State} {k n : Nat} (h : s.sameButNew ({ t with vm := s.vm } : State) [] k n) {q : Nat} (hq : q < s.heap.size) : t.heap[q]? = s.heap[q]? := by
  have hs : s.heap[q]? = some s.heap[q] := Array.getElem?_eq_getElem hq
  obtain ⟨c', h1, h2, h3, h4⟩ := h.2.2.2.2.2 q _ hs
  have h1 : t.heap[q]? = some c' := h1
  have hsl : c'.slots = (s.heap[q]).slots := by
    apply Array.ext h3
    intro i i1 i2
    have h5 := h4 i (by simp)
    rw [Array.getElem?_eq_getElem i1, Array.getElem?_eq_getElem i2] at h5
    exact Option.some.inj h5
  rw [h1, hs]
  congr 1
  rw [h2, hsl]
def ms_stw : List Cond := [.laysStatic "java/lang/Throwable" "UNASSIGNED_STACK" "[Ljava/lang/StackTraceElement;", .isRef (.static "java/lang/Throwable" "UNASSIGNED_STACK" "[Ljava/lang/StackTraceElement;"), .laysStatic "java/lang/Throwable" "SUPPRESSED_SENTINEL" "Ljava/util/List;", .isRef (.static "java/lang/Throwable" "SUPPRESSED_SENTINEL" "Ljava/util/List;")]
theorem ms_ownck : ∀ k, k < 2 → (Bundle.ownAtoms0 ms_cO (if k = 0 then 41 else 61) (ms_xn k) ["java/lang/RuntimeException", "java/lang/Exception"]).all (fun w => (decide (w ∈ lw_tbl) && goodWord w) || decide (w ∈ ms_spw) || decide (w ∈ ms_stw)) = true := by decide +kernel
section MsThrow
variable {p : Program} {l : Launch} {e : Env} {R : Room} {s : State} {m : MethodId} {args : Array Value} {below : List Frame} {meth : Method} {c : Code} {H : Heap} {locs : List Loc} {cells slots : Nat}
variable {v : ms_V} {j pc len : Nat} {i : Jvm.ClassFile.Instr} {x : ms_X} {ls : Array Slot} {L S : List Value} {σ : ms_M} {r : ms_R}
theorem ms_own0 (C : ms_Cx v j p s m args meth c) (hH : ∀ q, q < ms_vB v → s.heap[q]? = (ms_vH v)[q]?) {k : Nat} (hk : k < 2) : ∀ w ∈ Bundle.ownAtoms0 ms_cO (if k = 0 then 41 else 61) (ms_xn k) ["java/lang/RuntimeException", "java/lang/Exception"], w.before args s = true := by
  intro w hw
  have h1 := List.all_eq_true.mp (ms_ownck k hk) w hw
  simp only [Bool.or_eq_true, Bool.and_eq_true, decide_eq_true_eq] at h1
  obtain ⟨hsp, ⟨hu, hv⟩, -⟩ := C.2.2.1.2.2.2.2.2.2.2.2
  rcases h1 with (⟨h1, h2⟩ | h1) | h1
  · exact C.2.1 w (List.mem_filter.mpr ⟨h1, h2⟩)
  · have h3 := hsp w h1
    simp only [ms_spw, List.mem_cons, List.not_mem_nil, or_false] at h1
    rcases h1 with rfl | rfl | rfl | rfl | rfl <;> exact va_Nw.use rfl h3
  · obtain ⟨q1, q2⟩ := ms_zs_words (args := args) hu hH
    obtain ⟨q3, q4⟩ := ms_zs_words (args := args) hv hH
    simp only [ms_stw, List.mem_cons, List.not_mem_nil, or_false] at h1
    rcases h1 with rfl | rfl | rfl | rfl
    · exact q1
    · exact q2
    · exact q3
    · exact q4
theorem ms_w_thr (htr : ∀ e, l.admits e → e.platform.stackTraces = false) (C : ms_Cx v j p s m args meth c) (hHx : ms_Hx j c) (hd : decode (ms_by j) pc = .ok (i, len)) (ck : ms_ckx j pc i len x = true) (h : ms_thr x.1 S σ = some r) (hL : ms_Lr (ms_vr v) ls L) (hLm : L.length = ms_mx j) (hR : ms_Rl v σ H) (hfr : ms_fr j ≤ R.frames) (hlo : ms_lo j ≤ R.locals)
    (hc : cells + (r.2.1 - σ.1) ≤ R.cells) (hs : slots + (r.2.2.1 - σ.2.1) ≤ R.slots) (hl : ∀ q ∈ locs, σ.2.2.1 = true ∧ ms_vB v ≤ q.base) (h0 : σ.2.2.1 = false → cells = 0 ∧ slots = 0 ∧ H = s.heap) :
    W p l e R s m args below meth c H locs cells slots (ms_End v r below s (cells + (r.2.1 - σ.1)) (slots + (r.2.2.1 - σ.2.1))) (F0 m pc ls (S.map (ms_mv (ms_vr v)))) := by
  have hvk := C.2.2.1.1
  unfold ms_thr at h
  split at h
  · split at h
    · rename_i hw
      cases h
      obtain ⟨rfl, rfl, rfl⟩ := h0 hw
      have hln : locs = [] := List.eq_nil_iff_forall_not_mem.mpr fun q hq => by have := (hl q hq).1; rw [hw] at this; cases this
      subst hln
      cases i with
      | new q =>
        simp only [ms_ckx, Bool.and_eq_true, decide_eq_true_eq] at ck
        obtain ⟨⟨rfl, hk2, hf6, hl81, how, hhs, hd3, hd4, hd7, hic⟩, hcl⟩ := ck
        have hat := ms_own0 C hR.1.2.2 hk2
        have hown : s.vm.findClass ms_cO = some m.cls := by rw [← how]; exact C.1.2.2.2
        have e1 : σ.1 + 1 - σ.1 = 1 := by omega
        have e2 : σ.2.1 + 6 - σ.2.1 = 6 := by omega
        have hc' : 0 + 1 ≤ R.cells := by have h5 : 0 + (σ.1 + 1 - σ.1) ≤ R.cells := hc; omega
        have hs' : 0 + 6 ≤ R.slots := by have h5 : 0 + (σ.2.1 + 6 - σ.2.1) ≤ R.slots := hs; omega
        refine W.newc C.1.1 C.1.2.1 C.1.2.2.2 (C.2.1 _ (ms_has_in hcl)) (hat (.instantiable (ms_xn x.1) 6) (by simp [Bundle.ownAtoms0])) (C.2.1 _ (ms_xini hk2)) rfl hd hc' hs' fun cC kC hfC hkC hkd hn6 => ?_
        refine W.eq (g2 := F0 m (pc + 3) ls [.ref s.heap.size]) rfl ?_
        refine lv_dup C.1.1 C.1.2.1 hd3 rfl ?_
        intro T hT X
        have hexT : c.exceptionTable.toList = [] := by
          have h5 := hHx
          unfold ms_Hx at h5
          rw [hhs] at h5
          exact List.map_eq_nil_iff.mp h5
        have hT0 : T.heap[s.heap.size]? = some (freshCell cC kC) := by rw [hT]; simp
        obtain ⟨U, hst, hrun, hend, hWm, hsame, ce, hce, hOwn⟩ := X.ctorThrow0 C.1.1 (htr e X.admits) hown (cls := ms_xn x.1) (ms_xfit hk2) (by decide +kernel) hat (fun y hy => by cases hy) hfC hkC hT0 (Nat.le_refl _) (g := F0 m (pc + 4) ls [.ref s.heap.size, .ref s.heap.size]) rfl ((hL.1.trans hLm).trans C.1.2.2.1.symm) rfl rfl (rest := []) rfl (by rw [C.1.2.1, ← hic]; exact hd4) (by rw [C.1.2.1]; exact hd7) (fun y hy => by rw [hexT] at hy; cases hy) (by show 2 + 3 < R.frames; omega) (by show 2 * 0 + (1 + 0) + (13 * (2 + 1) + 41) ≤ R.locals; omega) C.2.2.2.2.1
        refine ⟨U, hst, hrun, hWm, ?_, ⟨[], (fun q hq => by cases hq), ?_⟩, ?_⟩
        · have hsz : U.heap.size = s.heap.size + 1 := by
            have h5 : U.heap.size ≤ s.heap.size + (0 + 1) := hsame.2.2.1
            have h6 := (Array.getElem?_eq_some_iff.mp hce).1
            omega
          exact hR.push hvk (Or.inl rfl) hsz (fun q hq => ms_kept hsame hq)
        · show s.sameButNew _ [] (0 + (σ.1 + 1 - σ.1)) (0 + (σ.2.1 + 6 - σ.2.1))
          rw [e1, e2]
          exact hsame
        · have hn : ms_vr v (σ.1 + 1 - 1) = s.heap.size := by rw [Nat.add_sub_cancel]; exact (hR.next hvk).symm
          show Ended U below (.threw (ms_vr v (σ.1 + 1 - 1))) ∧ ∃ cell, U.heap[ms_vr v (σ.1 + 1 - 1)]? = some cell ∧ cell.vm = .none ∧ s.vm.findClass (ms_xn x.1) = some cell.cls
          rw [hn]
          exact ⟨hend, ce, hce, hOwn.vm, hOwn.cls⟩
      | _ => cases ck
    · cases h
  · cases h
end MsThrow
