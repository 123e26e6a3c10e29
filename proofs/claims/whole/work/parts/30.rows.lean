/-! EVERY INSTRUCTION OF THE PURE MACHINE IS ONE OF THE REAL ONE. -/
-- what the exceptions need: words, two statics of Throwable, which is which
def ms_spw : List Cond := [.castable "java/lang/IllegalArgumentException" "java/lang/IllegalArgumentException", .castable "java/lang/IllegalStateException" "java/lang/IllegalStateException", .declares ⟨"java/lang/RuntimeException", "<init>", "()V"⟩, .declares ⟨"java/lang/Exception", "<init>", "()V"⟩, .declares ⟨"java/lang/Throwable", "<init>", "()V"⟩]
def ms_Zs (v : ms_V) (n d : String) (s : State) : Prop := ∃ (c : ClassId) (k : Class) (i : Nat) (f : Field) (a : Nat) (cell : Cell) (w : Value), s.vm.findClass "java/lang/Throwable" = some c ∧ s.fieldFound? "java/lang/Throwable" n d = some (c, k, i, f) ∧ f.isStatic = true ∧ k.statics = some a ∧ (a < ms_vB v ∧ (ms_vH v)[a]? = some cell) ∧ cell.vm.isStatics = true ∧ cell.cls = c ∧ f.slot < cell.slots.size ∧ k.staticTypes[f.slot]? = some f.type ∧ cell.slots[f.slot]? = some w ∧ (w = .null ∨ ∃ t, w = .ref t)
def ms_Gx2 (v : ms_V) (s : State) : Prop := (∀ w ∈ ms_spw, va_Nw w s) ∧ (ms_Zs v "UNASSIGNED_STACK" "[Ljava/lang/StackTraceElement;" s ∧ ms_Zs v "SUPPRESSED_SENTINEL" "Ljava/util/List;" s) ∧ ∃ c0 c1, s.vm.findClass "java/lang/IllegalArgumentException" = some c0 ∧ s.vm.findClass "java/lang/IllegalStateException" = some c1 ∧ s.vm.assignable c1 c0 = false ∧ s.vm.assignable c0 c1 = false
-- an array that was there before
def ms_X5 (b L : Nat) (xs : Nat → Int32) (U : State) (H : Heap) : Prop := ∃ scr : Cell, H[b]? = some scr ∧ U.isArrayOf scr .int ∧ scr.vm ≠ .unknown ∧ (L ≤ scr.slots.size ∧ scr.slots.size.toInt32 = nI L) ∧ ∀ j : Nat, j < L → scr.slots[j]? = some (.int (xs j))
theorem ms_X5.moved {b L : Nat} {xs : Nat → Int32} {u U : State} {H : Heap} (hvm : u.vm.Alike U.vm) (h : ms_X5 b L xs u H) : ms_X5 b L xs U H := by
  obtain ⟨scr, h1, h2, h3⟩ := h
  exact ⟨scr, h1, State.isArrayOf_alike hvm h2, h3⟩
def ms_Gx (v : ms_V) (s : State) : Prop := ms_vok v ∧ va_K (ms_vD v) ms_cl (ms_tys (ms_vA v)) s ∧ (∀ k, k < 3 → ms_X5 (ms_vr v k) (ms_vX v k).1 (ms_vX v k).2 s (ms_vH v)) ∧ (∀ w ∈ ms_nst, va_Nw w s) ∧ (∀ k, k = 1 ∨ k = 2 → va_Z ms_cO (ms_sn k) "[I" (.ref (ms_vr v k)) (fun q => ms_vB v ≤ q) s (ms_vH v)) ∧ ms_vB v ≤ (ms_vH v).size ∧ (va_AO ms_cM s ∧ va_AO ms_cP s) ∧ (∃ k, s.vm.classes[ms_vA v 2]? = some k ∧ k.kind = .array (ms_vA v 0) (.array .int)) ∧ ms_Gx2 v s
def ms_Cx (v : ms_V) (j : Nat) (p : Program) (s : State) (m : MethodId) (args : Array Value) (meth : Method) (c : Code) : Prop :=
  (p.tables.exec = Jvm.exec ∧ c.code = ms_by j ∧ c.maxLocals = ms_mx j ∧ s.vm.findClass (ms_ow j) = some m.cls) ∧ (∀ w ∈ ms_ws, w.before args s = true) ∧ ms_Gx v s ∧ (meth.sig.returnType = ms_rt j ∧ meth.locks = false ∧ (ms_ini j = true → meth.name = "<init>"))
section MsRows
variable {p : Program} {l : Launch} {e : Env} {R : Room} {s : State} {m : MethodId} {args : Array Value} {below : List Frame} {meth : Method} {c : Code} {H : Heap} {locs : List Loc} {cells slots : Nat} {Q : State → Prop}
variable {v : ms_V} {j pc : Nat} {ls : Array Slot} {L S : List Value} {σ : ms_M} {y : ms_N}
-- how a run goes on behind an instruction
def ms_K (p : Program) (l : Launch) (e : Env) (R : Room) (s : State) (m : MethodId) (args : Array Value) (below : List Frame) (meth : Method) (c : Code) (H : Heap) (locs : List Loc) (cells slots : Nat) (Q : State → Prop) (v : ms_V) (σ : ms_M) (y : ms_N) : Prop :=
  ∀ (H' : Heap) (ls' : Array Slot) (locs' : List Loc), ms_Lr (ms_vr v) ls' y.2.1 → ms_Rl v y.2.2.2 H' → (∀ q ∈ locs', q ∈ locs ∨ ms_vB v ≤ q.base) → (y.2.2.2.2.2.1 = false → H' = H ∧ locs' = locs ∧ y.2.2.2 = σ) →
    W p l e R s m args below meth c H' locs' (cells + (y.2.2.2.1 - σ.1)) (slots + (y.2.2.2.2.1 - σ.2.1)) Q (F0 m y.1 ls' (y.2.2.1.map (ms_mv (ms_vr v))))
theorem ms_K.same {pc' : Nat} {ls' : Array Slot} {L' S' : List Value} (K : ms_K p l e R s m args below meth c H locs cells slots Q v σ (pc', L', S', σ)) (hL : ms_Lr (ms_vr v) ls' L') (hR : ms_Rl v σ H) : W p l e R s m args below meth c H locs cells slots Q (F0 m pc' ls' (S'.map (ms_mv (ms_vr v)))) := by
  have h := K H ls' locs hL hR (fun q h => Or.inl h) (fun _ => ⟨rfl, rfl, rfl⟩)
  simpa only [Nat.sub_self, Nat.add_zero] using h
theorem ms_K.wr {pc' a i : Nat} {E : ms_E} {L' S' : List Value} {H1 : Heap} (K : ms_K p l e R s m args below meth c H locs cells slots Q v σ (pc', L', S', ms_wr σ a E)) (hv : ms_vok v) (ha : 3 ≤ a) (hL : ms_Lr (ms_vr v) ls L') (hR : ms_Rl v σ H) (he : ms_cr v a E H1) (z : H1.size = H.size) (oq : ∀ q, q ≠ ms_vr v a → H1[q]? = H[q]?) :
    W p l e R s m args below meth c H1 (locs ++ [⟨ms_vr v a, i⟩]) cells slots Q (F0 m pc' ls (S'.map (ms_mv (ms_vr v)))) := by
  have h := K H1 ls (locs ++ [⟨ms_vr v a, i⟩]) hL (hR.put hv ha he z oq) (fun q hq => by
    rcases List.mem_append.mp hq with h1 | h1
    · exact Or.inl h1
    · rw [List.mem_singleton] at h1
      subst h1
      right
      show ms_vB v ≤ ms_vr v a
      rw [hv.hi ha]
      omega) (fun h => by cases h)
  have h2 : W p l e R s m args below meth c H1 (locs ++ [⟨ms_vr v a, i⟩]) (cells + (σ.1 - σ.1)) (slots + (σ.2.1 - σ.2.1)) Q (F0 m pc' ls (S'.map (ms_mv (ms_vr v)))) := h
  simpa only [Nat.sub_self, Nat.add_zero] using h2
theorem ms_K.wl {pc' a : Nat} {E : ms_E} {L' S' : List Value} {H1 : Heap} {locs1 : List Loc} (K : ms_K p l e R s m args below meth c H locs cells slots Q v σ (pc', L', S', ms_wr σ a E)) (hv : ms_vok v) (ha : 3 ≤ a) (hL : ms_Lr (ms_vr v) ls L') (hR : ms_Rl v σ H) (he : ms_cr v a E H1) (z : H1.size = H.size) (oq : ∀ q, q ≠ ms_vr v a → H1[q]? = H[q]?) (hl : ∀ q ∈ locs1, q ∈ locs ∨ ms_vB v ≤ q.base) :
    W p l e R s m args below meth c H1 locs1 cells slots Q (F0 m pc' ls (S'.map (ms_mv (ms_vr v)))) := by
  have h := K H1 ls locs1 hL (hR.put hv ha he z oq) hl (fun h => by cases h)
  have h2 : W p l e R s m args below meth c H1 locs1 (cells + (σ.1 - σ.1)) (slots + (σ.2.1 - σ.2.1)) Q (F0 m pc' ls (S'.map (ms_mv (ms_vr v)))) := h
  simpa only [Nat.sub_self, Nat.add_zero] using h2
theorem ms_K.nw {pc' z : Nat} {E : ms_E} {L' S' : List Value} {H1 : Heap} (K : ms_K p l e R s m args below meth c H locs cells slots Q v σ (pc', L', S', ms_nw σ z E)) (hv : ms_vok v) (hL : ms_Lr (ms_vr v) ls L') (hR : ms_Rl v σ H) (he : ms_cr v σ.1 E H1) (hz : H1.size = H.size + 1) (oq : ∀ q, q < H.size → H1[q]? = H[q]?) :
    W p l e R s m args below meth c H1 locs (cells + 1) (slots + z) Q (F0 m pc' ls (S'.map (ms_mv (ms_vr v)))) := by
  have h := K H1 ls locs hL (hR.push hv he hz oq) (fun q hq => Or.inl hq) (fun h => by cases h)
  have h2 : W p l e R s m args below meth c H1 locs (cells + (σ.1 + 1 - σ.1)) (slots + (σ.2.1 + z - σ.2.1)) Q (F0 m pc' ls (S'.map (ms_mv (ms_vr v)))) := h
  rw [Nat.add_sub_cancel_left, Nat.add_sub_cancel_left] at h2
  exact h2
theorem ms_w_ii {f : Int32 → Int32 → Int32} {pc' : Nat} (row : ∀ (x z : Int32) (rest : List Value), W p l e R s m args below meth c H locs cells slots Q (F0 m pc' ls (.int (f x z) :: rest)) → W p l e R s m args below meth c H locs cells slots Q (F0 m pc ls (.int z :: .int x :: rest)))
    (h : ms_ii f pc' L S σ = some y) (K : ms_K p l e R s m args below meth c H locs cells slots Q v σ y) (hL : ms_Lr (ms_vr v) ls L) (hR : ms_Rl v σ H) : W p l e R s m args below meth c H locs cells slots Q (F0 m pc ls (S.map (ms_mv (ms_vr v)))) := by
  unfold ms_ii at h
  split at h
  · cases h
    exact row _ _ _ (K.same hL hR)
  · cases h
theorem ms_w_id {f : Int32 → Int32 → Int32} {pc' : Nat} (row : ∀ (x z : Int32) (rest : List Value), ¬ z = 0 → W p l e R s m args below meth c H locs cells slots Q (F0 m pc' ls (.int (f x z) :: rest)) → W p l e R s m args below meth c H locs cells slots Q (F0 m pc ls (.int z :: .int x :: rest)))
    (h : ms_id f pc' L S σ = some y) (K : ms_K p l e R s m args below meth c H locs cells slots Q v σ y) (hL : ms_Lr (ms_vr v) ls L) (hR : ms_Rl v σ H) : W p l e R s m args below meth c H locs cells slots Q (F0 m pc ls (S.map (ms_mv (ms_vr v)))) := by
  unfold ms_id at h
  split at h
  · split at h
    · cases h
    · rename_i hz
      cases h
      exact row _ _ _ hz (K.same hL hR)
  · cases h
theorem ms_w_ll {f : Int64 → Int64 → Int64} {pc' : Nat} (row : ∀ (x z : Int64) (rest : List Value), W p l e R s m args below meth c H locs cells slots Q (F0 m pc' ls (.long (f x z) :: rest)) → W p l e R s m args below meth c H locs cells slots Q (F0 m pc ls (.long z :: .long x :: rest)))
    (h : ms_ll f pc' L S σ = some y) (K : ms_K p l e R s m args below meth c H locs cells slots Q v σ y) (hL : ms_Lr (ms_vr v) ls L) (hR : ms_Rl v σ H) : W p l e R s m args below meth c H locs cells slots Q (F0 m pc ls (S.map (ms_mv (ms_vr v)))) := by
  unfold ms_ll at h
  split at h
  · cases h
    exact row _ _ _ (K.same hL hR)
  · cases h
theorem ms_w_li {f : Int64 → Int32 → Int64} {pc' : Nat} (row : ∀ (x : Int64) (z : Int32) (rest : List Value), W p l e R s m args below meth c H locs cells slots Q (F0 m pc' ls (.long (f x z) :: rest)) → W p l e R s m args below meth c H locs cells slots Q (F0 m pc ls (.int z :: .long x :: rest)))
    (h : ms_li f pc' L S σ = some y) (K : ms_K p l e R s m args below meth c H locs cells slots Q v σ y) (hL : ms_Lr (ms_vr v) ls L) (hR : ms_Rl v σ H) : W p l e R s m args below meth c H locs cells slots Q (F0 m pc ls (S.map (ms_mv (ms_vr v)))) := by
  unfold ms_li at h
  split at h
  · cases h
    exact row _ _ _ (K.same hL hR)
  · cases h
theorem ms_w_ldi {k pc' : Nat} (row : ∀ (x : Int32) (rest : List Value), ls[k]? = some (.val (.int x)) → W p l e R s m args below meth c H locs cells slots Q (F0 m pc' ls (.int x :: rest)) → W p l e R s m args below meth c H locs cells slots Q (F0 m pc ls rest))
    (h : ms_ldi L S σ k pc' = some y) (K : ms_K p l e R s m args below meth c H locs cells slots Q v σ y) (hL : ms_Lr (ms_vr v) ls L) (hR : ms_Rl v σ H) : W p l e R s m args below meth c H locs cells slots Q (F0 m pc ls (S.map (ms_mv (ms_vr v)))) := by
  unfold ms_ldi at h
  split at h
  · rename_i x hx
    cases h
    exact row x _ (hL.at hx (by simp)) (K.same hL hR)
  · cases h
theorem ms_w_ldl {k pc' : Nat} (row : ∀ (x : Int64) (rest : List Value), ls[k]? = some (.val (.long x)) → W p l e R s m args below meth c H locs cells slots Q (F0 m pc' ls (.long x :: rest)) → W p l e R s m args below meth c H locs cells slots Q (F0 m pc ls rest))
    (h : ms_ldl L S σ k pc' = some y) (K : ms_K p l e R s m args below meth c H locs cells slots Q v σ y) (hL : ms_Lr (ms_vr v) ls L) (hR : ms_Rl v σ H) : W p l e R s m args below meth c H locs cells slots Q (F0 m pc ls (S.map (ms_mv (ms_vr v)))) := by
  unfold ms_ldl at h
  split at h
  · rename_i x hx
    cases h
    exact row x _ (hL.at hx (by simp)) (K.same hL hR)
  · cases h
theorem ms_w_lda {k pc' : Nat} (row : ∀ (x : Nat) (rest : List Value), ls[k]? = some (.val (.ref x)) → W p l e R s m args below meth c H locs cells slots Q (F0 m pc' ls (.ref x :: rest)) → W p l e R s m args below meth c H locs cells slots Q (F0 m pc ls rest))
    (h : ms_lda L S σ k pc' = some y) (K : ms_K p l e R s m args below meth c H locs cells slots Q v σ y) (hL : ms_Lr (ms_vr v) ls L) (hR : ms_Rl v σ H) : W p l e R s m args below meth c H locs cells slots Q (F0 m pc ls (S.map (ms_mv (ms_vr v)))) := by
  unfold ms_lda at h
  split at h
  · rename_i x hx
    cases h
    exact row _ _ (hL.at hx (by simp)) (K.same hL hR)
  · cases h
theorem ms_w_sti {k pc' : Nat} (row : ∀ (x : Int32) (rest : List Value), k < L.length → (∀ ls' : Array Slot, lv_has ls' L.length ((k, Value.int x) :: (ms_lv (ms_vr v) L).filter (fun q => !(q.1 == k) && !(q.1 + 1 == k && q.2.category == 2))) → W p l e R s m args below meth c H locs cells slots Q (F0 m pc' ls' rest)) → W p l e R s m args below meth c H locs cells slots Q (F0 m pc ls (.int x :: rest)))
    (h : ms_sti L S σ k pc' = some y) (K : ms_K p l e R s m args below meth c H locs cells slots Q v σ y) (hR : ms_Rl v σ H) : W p l e R s m args below meth c H locs cells slots Q (F0 m pc ls (S.map (ms_mv (ms_vr v)))) := by
  unfold ms_sti at h
  split at h
  · split at h
    · rename_i x r hk
      cases h
      exact row x _ hk (fun ls' hl => K.same (ms_Lr.set1 (v := .int x) hk hl) hR)
    · cases h
  · cases h
theorem ms_w_sta {k pc' : Nat} (row : ∀ (x : Nat) (rest : List Value), k < L.length → (∀ ls' : Array Slot, lv_has ls' L.length ((k, Value.ref x) :: (ms_lv (ms_vr v) L).filter (fun q => !(q.1 == k) && !(q.1 + 1 == k && q.2.category == 2))) → W p l e R s m args below meth c H locs cells slots Q (F0 m pc' ls' rest)) → W p l e R s m args below meth c H locs cells slots Q (F0 m pc ls (.ref x :: rest)))
    (h : ms_sta L S σ k pc' = some y) (K : ms_K p l e R s m args below meth c H locs cells slots Q v σ y) (hR : ms_Rl v σ H) : W p l e R s m args below meth c H locs cells slots Q (F0 m pc ls (S.map (ms_mv (ms_vr v)))) := by
  unfold ms_sta at h
  split at h
  · split at h
    · rename_i x r hk
      cases h
      exact row _ _ hk (fun ls' hl => K.same (ms_Lr.set1 (v := .ref x) hk hl) hR)
    · cases h
  · cases h
theorem ms_w_stl {k pc' : Nat} (row : ∀ (x : Int64) (rest : List Value), k + 1 < L.length → (∀ ls' : Array Slot, lv_has ls' L.length ((k, Value.long x) :: (ms_lv (ms_vr v) L).filter (fun q => !(q.1 == k) && (!(q.1 == k + 1) && !(q.1 + 1 == k && q.2.category == 2)))) → W p l e R s m args below meth c H locs cells slots Q (F0 m pc' ls' rest)) → W p l e R s m args below meth c H locs cells slots Q (F0 m pc ls (.long x :: rest)))
    (h : ms_stl L S σ k pc' = some y) (K : ms_K p l e R s m args below meth c H locs cells slots Q v σ y) (hR : ms_Rl v σ H) : W p l e R s m args below meth c H locs cells slots Q (F0 m pc ls (S.map (ms_mv (ms_vr v)))) := by
  unfold ms_stl at h
  split at h
  · split at h
    · rename_i x r hk
      cases h
      exact row x _ hk (fun ls' hl => K.same (ms_Lr.set2 (v := .long x) hk hl) hR)
    · cases h
  · cases h
theorem ms_w_br (cd : Jvm.ClassFile.Cond) {x z : Int32} {a b : Nat} {rest : List Value} {off : Int} (hexec : p.tables.exec = Jvm.exec) (hb : c.code = ms_by j) (hd : decode (ms_by j) pc = .ok (.if_icmp cd off, 3)) (ht : (pc : Int) + off = (a : Int)) (hb2 : pc + 3 = b)
    (k : W p l e R s m args below meth c H locs cells slots Q (F0 m (ms_br cd x z a b) ls rest)) : W p l e R s m args below meth c H locs cells slots Q (F0 m pc ls (.int z :: .int x :: rest)) := by
  subst hb2
  cases cd <;> simp only [ms_br] at k
  · exact lv_icmp_eq hexec hb hd ht (fun h => by simpa only [if_pos h] using k) (fun h => by simpa only [if_neg h] using k)
  · exact lv_icmp_ne hexec hb hd ht (fun h => by simpa only [if_neg h] using k) (fun h => by simpa only [if_pos h] using k)
  · exact lv_icmp_lt hexec hb hd ht (fun h => by simpa only [if_pos h] using k) (fun h => by simpa only [if_neg h] using k)
  · exact lv_icmp_ge hexec hb hd ht (fun h => by simpa only [if_pos h] using k) (fun h => by simpa only [if_neg h] using k)
  · exact lv_icmp_gt hexec hb hd ht (fun h => by simpa only [if_pos h] using k) (fun h => by simpa only [if_neg h] using k)
  · exact lv_icmp_le hexec hb hd ht (fun h => by simpa only [if_pos h] using k) (fun h => by simpa only [if_neg h] using k)
theorem ms_w_br0 (cd : Jvm.ClassFile.Cond) {x : Int32} {a b : Nat} {rest : List Value} {off : Int} (hexec : p.tables.exec = Jvm.exec) (hb : c.code = ms_by j) (hd : decode (ms_by j) pc = .ok (.ifCond cd off, 3)) (ht : (pc : Int) + off = (a : Int)) (hb2 : pc + 3 = b)
    (k : W p l e R s m args below meth c H locs cells slots Q (F0 m (ms_br cd x 0 a b) ls rest)) : W p l e R s m args below meth c H locs cells slots Q (F0 m pc ls (.int x :: rest)) := by
  subst hb2
  cases cd <;> simp only [ms_br] at k
  · exact lv_if_eq hexec hb hd ht (fun h => by simpa only [if_pos h] using k) (fun h => by simpa only [if_neg h] using k)
  · exact lv_if_ne hexec hb hd ht (fun h => by simpa only [if_neg h] using k) (fun h => by simpa only [if_pos h] using k)
  · exact lv_if_lt hexec hb hd ht (fun h => by simpa only [if_pos h] using k) (fun h => by simpa only [if_neg h] using k)
  · exact lv_if_ge hexec hb hd ht (fun h => by simpa only [if_pos h] using k) (fun h => by simpa only [if_neg h] using k)
  · exact lv_if_gt hexec hb hd ht (fun h => by simpa only [if_pos h] using k) (fun h => by simpa only [if_neg h] using k)
  · exact lv_if_le hexec hb hd ht (fun h => by simpa only [if_pos h] using k) (fun h => by simpa only [if_neg h] using k)
end MsRows
