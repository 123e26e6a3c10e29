/-! THE INSTRUCTIONS THAT READ AND WRITE CELLS. -/
theorem ms_fit_ok {ty : FieldType} {val : Value} (ρ : Nat → Nat) (h : ms_fit ty val = true) : narrow ty (ms_mv ρ val) = ms_mv ρ val ∧ fits ty (ms_mv ρ val) = true := by
  unfold ms_fit at h
  split at h
  · exact ⟨rfl, rfl⟩
  · exact ⟨rfl, rfl⟩
  · rcases of_decide_eq_true h with rfl | rfl
    · exact ⟨show narrow .boolean (.int 0) = .int 0 by decide, show fits .boolean (.int 0) = true by decide⟩
    · exact ⟨show narrow .boolean (.int 1) = .int 1 by decide, show fits .boolean (.int 1) = true by decide⟩
  · exact ⟨rfl, rfl⟩
  · exact ⟨rfl, rfl⟩
  · cases h
section MsMem
variable {p : Program} {l : Launch} {e : Env} {R : Room} {s : State} {m : MethodId} {args : Array Value} {below : List Frame} {meth : Method} {c : Code} {H : Heap} {locs : List Loc} {cells slots : Nat} {Q : State → Prop}
variable {v : ms_V} {j pc : Nat} {ls : Array Slot} {rest : List Value} {σ : ms_M}
theorem ms_obj (hR : ms_Rl v σ H) {a ci : Nat} {fs : List Value} (hM : σ.2.2.2 a = .inr (ci, fs)) {r : vw_C} (hr : ms_cl[ci]? = some r) : 3 ≤ a ∧ t_OB (ms_vr v a) ((ms_vD v).1 ci) r.2.2 ((ms_vD v).2 ci) H (vp_V (fs.map (ms_mv (ms_vr v)))) := by
  have h := hR.2 a
  rw [hM] at h
  rcases h with h | ⟨h1, r', h2, h3⟩
  · exact absurd h (ms_clk ci r hr).2.2.2
  · cases h2.symm.trans hr
    exact ⟨h1, h3⟩
theorem ms_w_getf (C : ms_Cx v j p s m args meth c) (hR : ms_Rl v σ H) {q a ci k : Nat} {fs : List Value} {val : Value} (hd : decode (ms_by j) pc = .ok (.getfield q, 3)) (hM : σ.2.2.2 a = .inr (ci, fs)) {r : vw_C} (hr : ms_cl[ci]? = some r) (hk : k < r.2.2) (hlink : Cond.fieldLink (ms_ow j) q (r.2.1 k).1 (r.2.1 k).2.1 (r.2.1 k).2.2.1 ∈ ms_ws) (hv : fs[k]? = some val)
    (kk : W p l e R s m args below meth c H locs cells slots Q (F0 m (pc + 3) ls (ms_mv (ms_vr v) val :: rest))) : W p l e R s m args below meth c H locs cells slots Q (F0 m pc ls (.ref (ms_vr v a) :: rest)) := by
  obtain ⟨⟨hx, hb, -, hown⟩, hts, ⟨-, hK, -⟩, -⟩ := C
  obtain ⟨C0, T, N⟩ := r
  refine va_get (D := ms_vD v) (cl := ms_cl) (ws := [(ms_vr v a, .inr (ci, fs.map (ms_mv (ms_vr v))))]) (ci := ci) (C := C0) (T := T) (N := N) (Ts := ms_ws) hx hb hts (ms_clk ci _ hr).1 hown hK ?_ 0 rfl hr k hk (hts _ hlink) (fun _ h => h) (v := ms_mv (ms_vr v) val) ?_ hd kk
  · intro i w hw
    have : i = 0 := by
      have := (List.getElem?_eq_some_iff.mp hw).1
      simp at this
      exact this
    subst this
    cases hw
    exact ⟨_, hr, (ms_obj hR hM hr).2⟩
  · rw [List.getElem?_map, hv]
    rfl
theorem ms_w_putf (C : ms_Cx v j p s m args meth c) (hR : ms_Rl v σ H) {q a ci k : Nat} {fs : List Value} {val : Value} (hd : decode (ms_by j) pc = .ok (.putfield q, 3)) (hM : σ.2.2.2 a = .inr (ci, fs)) {r : vw_C} (hr : ms_cl[ci]? = some r) (hk : k < r.2.2) (hlink : Cond.fieldLink (ms_ow j) q (r.2.1 k).1 (r.2.1 k).2.1 (r.2.1 k).2.2.1 ∈ ms_ws)
    (hfin : (r.2.1 k).2.2.2 = false ∨ (ms_ini j = true ∧ (r.2.1 k).1 = ms_ow j)) (hl : k < fs.length) (hfit : ms_fit (ms_ft ci k) val = true)
    (kk : ∀ (H1 : Heap) (i : Nat), ms_cr v a (.inr (ci, fs.set k val)) H1 → H1.size = H.size → (∀ q, q ≠ ms_vr v a → H1[q]? = H[q]?) → W p l e R s m args below meth c H1 (locs ++ [⟨ms_vr v a, i⟩]) cells slots Q (F0 m (pc + 3) ls rest)) : W p l e R s m args below meth c H locs cells slots Q (F0 m pc ls (ms_mv (ms_vr v) val :: .ref (ms_vr v a) :: rest)) := by
  obtain ⟨⟨hx, hb, -, hown⟩, hts, ⟨-, hK, -⟩, -, -, hini⟩ := C
  obtain ⟨ha3, hob⟩ := ms_obj hR hM hr
  obtain ⟨C0, T, N⟩ := r
  obtain ⟨hin, hty, hnm, -⟩ := ms_clk ci _ hr
  obtain ⟨hn9, hf9⟩ := ms_fit_ok (ms_vr v) hfit
  have hap := va_apart (own := ms_ow j) hts hin (ms_ft ci) hty hnm hK hr
  obtain ⟨cell, q1, q2, q3, q4⟩ := hob
  obtain ⟨hS, hfc, kC, hkC, hkind⟩ := hK.1 ci _ hr
  obtain ⟨cf, kf, fi, f, hi, hsl⟩ := hS k hk
  have hst := (u_facts hfc hkC (u_lays hts hin hk) hi).1
  have fin : ∀ H' : Heap, H'[ms_vr v a]? = some (cell.setSlot f.slot (ms_mv (ms_vr v) val)) → ms_cr v a (.inr (ci, fs.set k val)) H' := by
    intro H' e1
    refine Or.inr ⟨ha3, _, hr, ?_⟩
    rw [hsl] at e1
    refine t_OB.to (V := updV (vp_V (fs.map (ms_mv (ms_vr v)))) k (ms_mv (ms_vr v) val)) ⟨_, e1, q2, q3, t_set q4 hap hk _⟩ (fun i _ => ?_)
    rw [List.map_set]
    exact vp_updV_set (by simpa using hl) _ i
  by_cases hF : (T k).2.2.2 = true
  · rcases hfin with h0 | ⟨hj, hdecl⟩
    · exact absurd (h0.symm.trans hF) (by decide)
    · have hlay := hts _ (hin _ (u_in_lay hk))
      unfold u_lay at hlay
      rw [if_pos hF] at hlay
      have hcf : m.cls = cf := by
        obtain ⟨_, _, c', _, _, _, -, -, hf', -, -, -, hown2, -⟩ := Cond.laysFinal_spec hlay
        have e1 : c' = cf := by have := hi.symm.trans hf'; simp at this; exact this.1.symm
        have hdecl' : (T k).1 = ms_ow j := hdecl
        rw [hdecl'] at hown2
        rw [← e1]; exact Option.some.inj (hown.symm.trans hown2)
      have h6 := u_fits hfc hkC hkind (Or.inr hlay) hi (hty k hk) hn9 hf9
      exact W.putFinK hx hb hown (hts _ hlink) hi hst hcf (hini hj) (by rw [q2]; exact h6) q1 q3 (by rw [hsl]; exact k2_hasslot (q4 k hk)) rfl rfl hd fun H' e1 e2 e3 => kk H' _ (fin H' e1) e2 e3
  · have hF' : (T k).2.2.2 = false := by simpa using hF
    have hlay := hts _ (hin _ (u_in_lay hk))
    unfold u_lay at hlay
    rw [if_neg hF] at hlay
    have h6 := u_store hfc hkC hkind hlay hi (hty k hk) hn9 hf9
    exact W.putK hx hb (f := f) ⟨hown, hts _ hlink, ⟨_, _, _, hi⟩, hst⟩ (by rw [q2]; exact h6) q1 q3 (by rw [hsl]; exact k2_hasslot (q4 k hk)) rfl rfl hd fun H' e1 e2 e3 => kk H' _ (fin H' e1) e2 e3
theorem ms_arrT (C : ms_Cx v j p s m args meth c) {t : Nat} (ht : t < 5) : ∃ ty, (ms_tys (ms_vA v))[t]? = some (ms_vA v t, ty) ∧ ArrOfT s (ms_vA v t) ty ∧ va_RA s (ms_vA v t) ty := by
  have hK := C.2.2.1.2.1.2
  match t, ht with
  | 0, _ => exact ⟨.int, rfl, hK 0 _ rfl⟩
  | 1, _ => exact ⟨.long, rfl, hK 1 _ rfl⟩
  | 2, _ => exact ⟨.array .int, rfl, hK 2 _ rfl⟩
  | 3, _ => exact ⟨.object ms_cM, rfl, hK 3 _ rfl⟩
  | 4, _ => exact ⟨.object ms_cP, rfl, hK 4 _ rfl⟩
theorem ms_w_iald (C : ms_Cx v j p s m args meth c) (hR : ms_Rl v σ H) {a t n : Nat} {f : Nat → Int32} {i : Int32} (hd : decode (ms_by j) pc = .ok (.iaload, 1)) (hM : σ.2.2.2 a = .inl (t, n, .inl f)) (ht : t = 0 ∨ t = 5) (hin : ms_in i n = true)
    (kk : W p l e R s m args below meth c H locs cells slots Q (F0 m (pc + 1) ls (.int (f i.toNatClampNeg) :: rest))) : W p l e R s m args below meth c H locs cells slots Q (F0 m pc ls (.int i :: .ref (ms_vr v a) :: rest)) := by
  have hv := ms_in_vp hin
  have hlt : i.toNatClampNeg < n := Nat.not_le.mp fun q => hv (Or.inr q)
  have h := hR.2 a
  rw [hM] at h
  rcases h with ⟨h1, h2, h3⟩ | ⟨h1, h2, h3⟩
  · obtain ⟨⟨hx, hb, -, -⟩, -, ⟨hvk, -, hX, -⟩, -⟩ := C
    cases h3
    obtain ⟨scr, g1, g2, g3, g4, g5⟩ := hX a h2
    refine W.iald hx hb (cell := scr) ?_ g2 g3 (fun z => by
      rcases z with z | z
      · exact hv (Or.inl z)
      · have := g4.1
        omega) (g5 _ hlt) rfl rfl hd kk
    rw [hR.1.2.2 _ (hvk.lo h2)]
    exact g1
  · rcases ht with rfl | rfl
    · obtain ⟨-, -, hA, -⟩ := (⟨_, rfl, C.2.2.1.2.1.2 0 _ rfl⟩ : ∃ ty, (ms_tys (ms_vA v))[0]? = some (ms_vA v 0, ty) ∧ ArrOfT s (ms_vA v 0) .int ∧ va_RA s (ms_vA v 0) .int)
      have h3 : H[ms_vr v a]? = some (arrV (ms_vA v 0) n (fun j => .int (f j))) := h3
      exact W.iald (v := .int (f i.toNatClampNeg)) C.1.1 C.1.2.1 h3 (hA n (fun j => .int (f j))) (fun q => by cases q) (by show ¬ (i < 0 ∨ (arrV _ _ _).slots.size ≤ _); rw [arrV_size]; exact hv) (by show (arrV _ _ _).slots[_]? = _; rw [arrV_read _ _ hlt]) rfl rfl hd kk
    · omega
theorem ms_w_lald (C : ms_Cx v j p s m args meth c) (hR : ms_Rl v σ H) {a n : Nat} {f : Nat → Int64} {i : Int32} (hd : decode (ms_by j) pc = .ok (.laload, 1)) (hM : σ.2.2.2 a = .inl (1, n, .inr (.inl f))) (hin : ms_in i n = true)
    (kk : W p l e R s m args below meth c H locs cells slots Q (F0 m (pc + 1) ls (.long (f i.toNatClampNeg) :: rest))) : W p l e R s m args below meth c H locs cells slots Q (F0 m pc ls (.int i :: .ref (ms_vr v a) :: rest)) := by
  have hv := ms_in_vp hin
  have hlt : i.toNatClampNeg < n := Nat.not_le.mp fun q => hv (Or.inr q)
  have h := hR.2 a
  rw [hM] at h
  rcases h with ⟨h1, -⟩ | ⟨h1, h2, h3⟩
  · cases h1
  · have hA := (C.2.2.1.2.1.2 1 _ rfl).1
    have h3 : H[ms_vr v a]? = some (arrV (ms_vA v 1) n (fun j => .long (f j))) := h3
    exact W.lald (v := .long (f i.toNatClampNeg)) C.1.1 C.1.2.1 h3 (hA n (fun j => .long (f j))) (fun q => by cases q) (by show ¬ (i < 0 ∨ (arrV _ _ _).slots.size ≤ _); rw [arrV_size]; exact hv) (by show (arrV _ _ _).slots[_]? = _; rw [arrV_read _ _ hlt]) rfl rfl hd kk
theorem ms_w_aald (C : ms_Cx v j p s m args meth c) (hR : ms_Rl v σ H) {a t n b : Nat} {f : Nat → Option Nat} {i : Int32} (hd : decode (ms_by j) pc = .ok (.aaload, 1)) (hM : σ.2.2.2 a = .inl (t, n, .inr (.inr (.inr (.inr f))))) (ht : 2 ≤ t) (hin : ms_in i n = true) (hf : f i.toNatClampNeg = some b)
    (kk : W p l e R s m args below meth c H locs cells slots Q (F0 m (pc + 1) ls (.ref (ms_vr v b) :: rest))) : W p l e R s m args below meth c H locs cells slots Q (F0 m pc ls (.int i :: .ref (ms_vr v a) :: rest)) := by
  have hv := ms_in_vp hin
  have hlt : i.toNatClampNeg < n := Nat.not_le.mp fun q => hv (Or.inr q)
  have h := hR.2 a
  rw [hM] at h
  rcases h with ⟨-, -, h3⟩ | ⟨h1, h2, h3⟩
  · cases h3
  · have hty : ∃ ty : FieldType, ty.isReference = true ∧ ArrOfT s (ms_vA v t) ty := by
      match t, h1, ht with
      | 2, _, _ => exact ⟨_, rfl, (C.2.2.1.2.1.2 2 _ rfl).1⟩
      | 3, _, _ => exact ⟨_, rfl, (C.2.2.1.2.1.2 3 _ rfl).1⟩
      | 4, _, _ => exact ⟨_, rfl, (C.2.2.1.2.1.2 4 _ rfl).1⟩
    obtain ⟨ty, hr, hA⟩ := hty
    have h3 : H[ms_vr v a]? = some (arrV (ms_vA v t) n (fun j => va_rf ((f j).map (ms_vr v)))) := h3
    refine W.aald (v := .ref (ms_vr v b)) C.1.1 C.1.2.1 h3 (hA n (fun j => va_rf ((f j).map (ms_vr v)))) hr (fun q => by cases q) (by show ¬ (i < 0 ∨ (arrV _ _ _).slots.size ≤ _); rw [arrV_size]; exact hv) ?_ rfl rfl hd kk
    show (arrV _ _ (fun j => va_rf ((f j).map (ms_vr v)))).slots[_]? = _
    rw [arrV_read _ _ hlt, hf]
    rfl
theorem ms_w_alen (C : ms_Cx v j p s m args meth c) (hR : ms_Rl v σ H) {a t n : Nat} {d : (Nat → Int32) ⊕ (Nat → Int64) ⊕ (Nat → UInt32) ⊕ (Nat → UInt64) ⊕ (Nat → Option Nat)} (hd : decode (ms_by j) pc = .ok (.arraylength, 1)) (hM : σ.2.2.2 a = .inl (t, n, d))
    (kk : W p l e R s m args below meth c H locs cells slots Q (F0 m (pc + 1) ls (.int (nI n) :: rest))) : W p l e R s m args below meth c H locs cells slots Q (F0 m pc ls (.ref (ms_vr v a) :: rest)) := by
  have h := hR.2 a
  rw [hM] at h
  rcases h with ⟨h1, h2, h3⟩ | ⟨h1, h2, h3⟩
  · obtain ⟨⟨hx, hb, -, -⟩, -, ⟨hvk, -, hX, -⟩, -⟩ := C
    cases h3
    obtain ⟨scr, g1, g2, g3, g4, g5⟩ := hX a h2
    refine W.alen (n := nI (ms_vX v a).1) hx hb (cell := scr) ?_ g2 g4.2 rfl rfl hd kk
    rw [hR.1.2.2 _ (hvk.lo h2)]
    exact g1
  · obtain ⟨ty, -, hA, -⟩ := ms_arrT C h1
    rcases d with f | f | f | f | f
    · exact W.alen (n := nI n) C.1.1 C.1.2.1 h3 (hA n (fun j => .int (f j))) (by show (arrV _ _ _).slots.size.toInt32 = _; rw [arrV_size]; rfl) rfl rfl hd kk
    · exact W.alen (n := nI n) C.1.1 C.1.2.1 h3 (hA n (fun j => .long (f j))) (by show (arrV _ _ _).slots.size.toInt32 = _; rw [arrV_size]; rfl) rfl rfl hd kk
    · exact W.alen (n := nI n) C.1.1 C.1.2.1 h3 (hA n (fun j => .float (f j))) (by show (arrV _ _ _).slots.size.toInt32 = _; rw [arrV_size]; rfl) rfl rfl hd kk
    · exact W.alen (n := nI n) C.1.1 C.1.2.1 h3 (hA n (fun j => .double (f j))) (by show (arrV _ _ _).slots.size.toInt32 = _; rw [arrV_size]; rfl) rfl rfl hd kk
    · exact W.alen (n := nI n) C.1.1 C.1.2.1 h3 (hA n (fun j => va_rf ((f j).map (ms_vr v)))) (by show (arrV _ _ _).slots.size.toInt32 = _; rw [arrV_size]; rfl) rfl rfl hd kk
theorem ms_w_iast (C : ms_Cx v j p s m args meth c) (hR : ms_Rl v σ H) {a n : Nat} {f : Nat → Int32} {i x : Int32} (hd : decode (ms_by j) pc = .ok (.iastore, 1)) (hM : σ.2.2.2 a = .inl (0, n, .inl f)) (hin : ms_in i n = true)
    (kk : ∀ (H1 : Heap) (z : Nat), 3 ≤ a → ms_cr v a (.inl (0, n, .inl (upd f i.toNatClampNeg x))) H1 → H1.size = H.size → (∀ q, q ≠ ms_vr v a → H1[q]? = H[q]?) → W p l e R s m args below meth c H1 (locs ++ [⟨ms_vr v a, z⟩]) cells slots Q (F0 m (pc + 1) ls rest)) : W p l e R s m args below meth c H locs cells slots Q (F0 m pc ls (.int x :: .int i :: .ref (ms_vr v a) :: rest)) := by
  have hv := ms_in_vp hin
  have h := hR.2 a
  rw [hM] at h
  rcases h with ⟨h1, -⟩ | ⟨h1, h2, h3⟩
  · cases h1
  · refine W.iast C.1.1 C.1.2.1 h3 ((C.2.2.1.2.1.2 0 _ rfl).1 n (fun j => .int (f j))) (fun q => by cases q) (by show ¬ (i < 0 ∨ (arrV _ _ _).slots.size ≤ _); rw [arrV_size]; exact hv) rfl rfl hd fun H1 e1 z oq => kk H1 _ h2 (Or.inr ⟨h1, h2, ?_⟩) z oq
    show H1[ms_vr v a]? = some (arrV (ms_vA v 0) n (fun j => .int (upd f i.toNatClampNeg x j)))
    rw [e1]
    show some ((arrV (ms_vA v 0) n (fun j => .int (f j))).setSlot i.toNatClampNeg (.int x)) = _
    rw [arrV_store]
    congr 2
    funext q
    by_cases hq : q = i.toNatClampNeg
    · subst hq
      simp [updV, upd]
    · simp [updV, upd, hq]
theorem ms_w_last (C : ms_Cx v j p s m args meth c) (hR : ms_Rl v σ H) {a n : Nat} {f : Nat → Int64} {i : Int32} {x : Int64} (hd : decode (ms_by j) pc = .ok (.lastore, 1)) (hM : σ.2.2.2 a = .inl (1, n, .inr (.inl f))) (hin : ms_in i n = true)
    (kk : ∀ (H1 : Heap) (z : Nat), 3 ≤ a → ms_cr v a (.inl (1, n, .inr (.inl (vp_updL f i.toNatClampNeg x)))) H1 → H1.size = H.size → (∀ q, q ≠ ms_vr v a → H1[q]? = H[q]?) → W p l e R s m args below meth c H1 (locs ++ [⟨ms_vr v a, z⟩]) cells slots Q (F0 m (pc + 1) ls rest)) : W p l e R s m args below meth c H locs cells slots Q (F0 m pc ls (.long x :: .int i :: .ref (ms_vr v a) :: rest)) := by
  have hv := ms_in_vp hin
  have h := hR.2 a
  rw [hM] at h
  rcases h with ⟨h1, -⟩ | ⟨h1, h2, h3⟩
  · cases h1
  · refine W.last C.1.1 C.1.2.1 h3 ((C.2.2.1.2.1.2 1 _ rfl).1 n (fun j => .long (f j))) (fun q => by cases q) (by show ¬ (i < 0 ∨ (arrV _ _ _).slots.size ≤ _); rw [arrV_size]; exact hv) rfl rfl hd fun H1 e1 z oq => kk H1 _ h2 (Or.inr ⟨h1, h2, ?_⟩) z oq
    show H1[ms_vr v a]? = some (arrV (ms_vA v 1) n (fun j => .long (vp_updL f i.toNatClampNeg x j)))
    rw [e1]
    show some ((arrV (ms_vA v 1) n (fun j => .long (f j))).setSlot i.toNatClampNeg (.long x)) = _
    rw [arrV_store]
    congr 2
    funext q
    by_cases hq : q = i.toNatClampNeg
    · subst hq
      simp [updV, vp_updL]
    · simp [updV, vp_updL, hq]
end MsMem
