/-! NEW CELLS, COPIES, SWITCHES. -/
section MsMem2
variable {p : Program} {l : Launch} {e : Env} {R : Room} {s : State} {m : MethodId} {args : Array Value} {below : List Frame} {meth : Method} {c : Code} {H : Heap} {locs : List Loc} {cells slots : Nat} {Q : State → Prop}
variable {v : ms_V} {j pc : Nat} {ls : Array Slot} {rest : List Value} {σ : ms_M}
theorem ms_w_aast (C : ms_Cx v j p s m args meth c) (hR : ms_Rl v σ H) {a k n b ci : Nat} {f : Nat → Option Nat} {fs : List Value} {i : Int32} (hd : decode (ms_by j) pc = .ok (.aastore, 1)) (hM : σ.2.2.2 a = .inl (k, n, .inr (.inr (.inr (.inr f))))) (hV : σ.2.2.2 b = .inr (ci, fs)) (hel : ms_el k = some ci) (hin : ms_in i n = true)
    (kk : ∀ (H1 : Heap) (z : Nat), 3 ≤ a → ms_cr v a (.inl (k, n, .inr (.inr (.inr (.inr (va_up f i.toNatClampNeg (some b))))))) H1 → H1.size = H.size → (∀ q, q ≠ ms_vr v a → H1[q]? = H[q]?) → W p l e R s m args below meth c H1 (locs ++ [⟨ms_vr v a, z⟩]) cells slots Q (F0 m (pc + 1) ls rest)) : W p l e R s m args below meth c H locs cells slots Q (F0 m pc ls (.ref (ms_vr v b) :: .int i :: .ref (ms_vr v a) :: rest)) := by
  have hv := ms_in_vp hin
  have hlt : i.toNatClampNeg < n := Nat.not_le.mp fun q => hv (Or.inr q)
  have h0 : ¬ i < 0 := fun q => hv (Or.inl q)
  obtain ⟨r, hr, ht⟩ := ms_elk hel (ms_vA v)
  have h := hR.2 a
  rw [hM] at h
  rcases h with ⟨-, -, h3⟩ | ⟨h1, h2, h3⟩
  · cases h3
  · obtain ⟨-, cellV, g1, g2, g3, -⟩ := ms_obj hR hV hr
    have hK := C.2.2.1.2.1
    have hcls := (hK.1 ci r hr).2
    obtain ⟨kA, comp, k1, k2, k3, -⟩ := (hK.2 k _ ht).2
    have hcomp : comp = (ms_vD v).1 ci := Option.some.inj (k3.symm.trans hcls.1)
    subst hcomp
    obtain ⟨kC, hkC, -⟩ := hcls.2
    refine W.aast C.1.1 C.1.2.1 h3 (fun q h => by cases h) (fun h => by cases h) k1 k2 rfl hkC ⟨h0, by show _ < (arrV _ _ _).slots.size; rw [arrV_size]; exact hlt⟩ g1 (fun q h => by rw [g3] at h; cases h) (by rw [g2]; exact hkC) (by rw [g2]; exact va_assign hcls) rfl rfl hd fun H1 e1 z oq => kk H1 _ h2 (Or.inr ⟨h1, h2, ?_⟩) z oq
    show H1[ms_vr v a]? = some (arrV (ms_vA v k) n (fun j => va_rf ((va_up f i.toNatClampNeg (some b) j).map (ms_vr v))))
    rw [e1]
    show some ((arrV (ms_vA v k) n (fun j => va_rf ((f j).map (ms_vr v)))).setSlot i.toNatClampNeg (.ref (ms_vr v b))) = _
    rw [arrV_store]
    congr 2
    funext q
    by_cases hq : q = i.toNatClampNeg
    · subst hq
      simp [updV, va_up, va_rf]
    · simp [updV, va_up, hq]
theorem ms_w_newi (C : ms_Cx v j p s m args meth c) (hR : ms_Rl v σ H) {n : Int32} (hd : decode (ms_by j) pc = .ok (.newarray .int, 2)) (hin : ms_in n 5000 = true) (hc : cells + 1 ≤ R.cells) (hs : slots + n.toNatClampNeg ≤ R.slots)
    (kk : ∀ (H1 : Heap), ms_cr v σ.1 (.inl (0, ms_arr 0 n.toNatClampNeg)) H1 → H1.size = H.size + 1 → (∀ q, q < H.size → H1[q]? = H[q]?) → W p l e R s m args below meth c H1 locs (cells + 1) (slots + n.toNatClampNeg) Q (F0 m (pc + 2) ls (.ref (ms_vr v σ.1) :: rest))) : W p l e R s m args below meth c H locs cells slots Q (F0 m pc ls (.int n :: rest)) := by
  have hv := ms_in_vp hin
  have hlt : n.toNatClampNeg < 5000 := Nat.not_le.mp fun q => hv (Or.inr q)
  have hvk := C.2.2.1.1
  refine va_newaK (atype := .int) C.1.1 C.1.2.1 (C.2.1 _ ms_w_ai) rfl hd rfl (fun q => hv (Or.inl q)) rfl (by show n.toNatClampNeg * 4 ≤ _; omega) hc hs (h := ms_vr v σ.1) (hR.next hvk) fun H1 cA e1 z1 o1 hAr hNm => ?_
  rw [← hR.next hvk] at z1 o1
  refine kk H1 (Or.inr ⟨by decide, hR.1.1, ?_⟩) z1 o1
  have hcA : cA = ms_vA v 0 := Option.some.inj (hNm.symm.trans (C.2.2.1.2.1.2 0 _ rfl).2)
  rw [e1, hcA]
  rfl
theorem ms_w_newl (C : ms_Cx v j p s m args meth c) (hR : ms_Rl v σ H) {n : Int32} (hd : decode (ms_by j) pc = .ok (.newarray .long, 2)) (hin : ms_in n 5000 = true) (hc : cells + 1 ≤ R.cells) (hs : slots + n.toNatClampNeg ≤ R.slots)
    (kk : ∀ (H1 : Heap), ms_cr v σ.1 (.inl (1, ms_arr 1 n.toNatClampNeg)) H1 → H1.size = H.size + 1 → (∀ q, q < H.size → H1[q]? = H[q]?) → W p l e R s m args below meth c H1 locs (cells + 1) (slots + n.toNatClampNeg) Q (F0 m (pc + 2) ls (.ref (ms_vr v σ.1) :: rest))) : W p l e R s m args below meth c H locs cells slots Q (F0 m pc ls (.int n :: rest)) := by
  have hv := ms_in_vp hin
  have hlt : n.toNatClampNeg < 5000 := Nat.not_le.mp fun q => hv (Or.inr q)
  have hvk := C.2.2.1.1
  refine va_newaK (atype := .long) C.1.1 C.1.2.1 (C.2.1 _ ms_w_al) rfl hd rfl (fun q => hv (Or.inl q)) rfl (by show n.toNatClampNeg * 8 ≤ _; omega) hc hs (h := ms_vr v σ.1) (hR.next hvk) fun H1 cA e1 z1 o1 hAr hNm => ?_
  rw [← hR.next hvk] at z1 o1
  refine kk H1 (Or.inr ⟨by decide, hR.1.1, ?_⟩) z1 o1
  have hcA : cA = ms_vA v 1 := Option.some.inj (hNm.symm.trans (C.2.2.1.2.1.2 1 _ rfl).2)
  rw [e1, hcA]
  rfl
theorem ms_w_anew (C : ms_Cx v j p s m args meth c) (hR : ms_Rl v σ H) {n : Int32} {q k : Nat} {C0 : String} (hd : decode (ms_by j) pc = .ok (.anewarray q, 3)) (hk : 3 ≤ k) (hk5 : k < 5) (ht : (ms_tys (ms_vA v))[k]? = some (ms_vA v k, .object C0)) (hcl : Cond.classLink (ms_ow j) q C0 ∈ ms_ws) (hov : va_AO C0 s) (hin : ms_in n 5000 = true) (hc : cells + 1 ≤ R.cells) (hs : slots + n.toNatClampNeg ≤ R.slots)
    (kk : ∀ (H1 : Heap), ms_cr v σ.1 (.inl (k, ms_arr k n.toNatClampNeg)) H1 → H1.size = H.size + 1 → (∀ q, q < H.size → H1[q]? = H[q]?) → W p l e R s m args below meth c H1 locs (cells + 1) (slots + n.toNatClampNeg) Q (F0 m (pc + 3) ls (.ref (ms_vr v σ.1) :: rest))) : W p l e R s m args below meth c H locs cells slots Q (F0 m pc ls (.int n :: rest)) := by
  have hv := ms_in_vp hin
  have hlt : n.toNatClampNeg < 5000 := Nat.not_le.mp fun q => hv (Or.inr q)
  have hvk := C.2.2.1.1
  have hnx := hR.next hvk
  refine W.anew C.1.1 C.1.2.1 C.1.2.2.2 (C.2.1 _ hcl) (va_AO.use hov) rfl hd rfl (fun q => hv (Or.inl q)) (by omega) hc hs fun cA kA comp f1 f2 f3 f4 => ?_
  have hcA : cA = ms_vA v k := by
    obtain ⟨_, _, -, -, -, h4⟩ := (C.2.2.1.2.1.2 k _ ht).2
    exact Option.some.inj (f1.symm.trans h4)
  subst hcA
  have h := kk (H.push ({ cls := ms_vA v k, slots := Array.replicate n.toNatClampNeg .null, vm := .none } : Cell)) (Or.inr ⟨hk5, hR.1.1, ?_⟩) (Array.size_push _) (fun q hq => by rw [Array.getElem?_push, if_neg (Nat.ne_of_lt hq)])
  · rw [← hnx] at h
    exact h
  · rw [← hnx, Array.getElem?_push_size, arrV_new]
    match k, hk, hk5 with
    | 3, _, _ => rfl
    | 4, _, _ => rfl
theorem ms_w_newc (C : ms_Cx v j p s m args meth c) (hR : ms_Rl v σ H) {q ci : Nat} {r : vw_C} (hd : decode (ms_by j) pc = .ok (.new q, 3)) (hr : ms_cl[ci]? = some r) (hlen : (ms_df ci).length = r.2.2) (hcl : Cond.classLink (ms_ow j) q r.1 ∈ ms_ws) (hc : cells + 1 ≤ R.cells) (hs : slots + (ms_df ci).length ≤ R.slots)
    (kk : ∀ (H1 : Heap), ms_cr v σ.1 (.inr (ci, ms_df ci)) H1 → H1.size = H.size + 1 → (∀ q, q < H.size → H1[q]? = H[q]?) → W p l e R s m args below meth c H1 locs (cells + 1) (slots + (ms_df ci).length) Q (F0 m (pc + 3) ls (.ref (ms_vr v σ.1) :: rest))) : W p l e R s m args below meth c H locs cells slots Q (F0 m pc ls rest) := by
  have hvk := C.2.2.1.1
  obtain ⟨C0, T, N⟩ := r
  obtain ⟨hin, hty, -, -⟩ := ms_clk ci _ hr
  obtain ⟨hi1, hi2, hdf⟩ := ms_cln ci _ hr
  have hKn := C.2.2.1.2.1.1 ci _ hr
  have hlen' : (ms_df ci).length = N := hlen
  rw [hlen'] at hs kk
  refine W.newcK C.1.1 C.1.2.1 C.1.2.2.2 (C.2.1 _ hcl) (C.2.1 _ hi1) (C.2.1 _ hi2) rfl hd hc hs hKn.2.1 (h := ms_vr v σ.1) (hR.next hvk) fun H1 kC hkC e1 z1 o1 => ?_
  rw [← hR.next hvk] at z1 o1
  exact kk H1 (Or.inr ⟨hR.1.1, _, hr, (u_born (ms_ft ci) C.2.1 hin hKn hkC e1 hty).to (hdf (ms_vr v))⟩) z1 o1
theorem ms_w_gets (C : ms_Cx v j p s m args meth c) (hR : ms_Rl v σ H) {q k w : Nat} (hd : decode (ms_by j) pc = .ok (.getstatic q, 3)) (hk : k = 1 ∨ k = 2) (hw : ms_nst[w]? = some (.fieldLinkNest (ms_ow j) q ms_cO (ms_sn k) "[I" ms_cO))
    (kk : W p l e R s m args below meth c H locs cells slots Q (F0 m (pc + 3) ls (.ref (ms_vr v k) :: rest))) : W p l e R s m args below meth c H locs cells slots Q (F0 m pc ls rest) := by
  obtain ⟨⟨hx, hb, -, hown⟩, -, ⟨hvk, -, -, hN, hZ, -⟩, -⟩ := C
  obtain ⟨cf, kf, fi, f, a, cell, h1, h2, h3, h4, h5, h6, h7, h8⟩ := hZ k hk
  have hl : (Cond.fieldLinkNest (ms_ow j) q ms_cO (ms_sn k) "[I" ms_cO).before args s = true := va_Nw.use rfl (hN _ (List.mem_of_getElem? hw))
  refine va_WgetsN hx hb hown hl h1 h2 h3 h4 ?_ (fun e => by rw [e] at h6; cases h6) h7 rfl hd kk
  rw [hR.1.2.2 a (Nat.not_le.mp h8)]
  exact h5
theorem ms_w_tsw {x : Int32} {d lo hi : Int} {os : Array Int} {len t0 : Nat} {ts : List Nat} (hexec : p.tables.exec = Jvm.exec) (hb : c.code = ms_by j) (hd : decode (ms_by j) pc = .ok (.tableswitch d lo hi os, len)) (h1 : (pc : Int) + d = (t0 : Int)) (h2 : os.toList.map (fun o => (pc : Int) + o) = ts.map (fun (t : Nat) => (t : Int))) (h3 : hi - lo + 1 = (os.size : Int))
    (k : W p l e R s m args below meth c H locs cells slots Q (F0 m (if x.toInt < lo ∨ hi < x.toInt then t0 else ts.getD (x.toInt - lo).toNat 0) ls rest)) : W p l e R s m args below meth c H locs cells slots Q (F0 m pc ls (.int x :: rest)) := by
  by_cases h : x.toInt < lo ∨ hi < x.toInt
  · rw [if_pos h] at k
    exact lv_tableOut hexec hb hd h h1 k
  · rw [if_neg h] at k
    have ha : (x.toInt - lo).toNat < os.size := by omega
    have e1 : (os.toList.map (fun o => (pc : Int) + o))[(x.toInt - lo).toNat]? = (ts.map (fun (t : Nat) => (t : Int)))[(x.toInt - lo).toNat]? := by rw [h2]
    rw [List.getElem?_map, List.getElem?_map, Array.getElem?_toList, Array.getElem?_eq_getElem ha] at e1
    cases ht : ts[(x.toInt - lo).toNat]? with
    | none => rw [ht] at e1; cases e1
    | some t =>
      rw [ht] at e1
      have e2 : (pc : Int) + os[(x.toInt - lo).toNat] = (t : Int) := Option.some.inj e1
      rw [List.getD_eq_getElem?_getD, ht] at k
      exact lv_tableIn hexec hb hd (fun q => h (Or.inl q)) (fun q => h (Or.inr q)) (Array.getElem?_eq_getElem ha) e2 k
theorem ms_lk_ok (pc : Nat) {d : Int} {t0 : Nat} (h1 : (pc : Int) + d = (t0 : Int)) (a : Int) : ∀ (ps : List (Int × Int)) (ts : List Nat), ps.map (fun q => (pc : Int) + q.2) = ts.map (fun (t : Nat) => (t : Int)) → (pc : Int) + Op.lookupswitch.offset ps d a = (ms_lk ps ts t0 a : Int)
  | [], [], _ => by simp only [Op.lookupswitch.offset, ms_lk]; exact h1
  | [], _ :: _, h => by simp at h
  | _ :: _, [], h => by simp at h
  | (k, o) :: ps, t :: ts, h => by
    simp only [List.map_cons, List.cons.injEq] at h
    simp only [Op.lookupswitch.offset, ms_lk]
    by_cases hk : a = k
    · subst hk
      simp [h.1]
    · have hk' : ¬ k = a := fun q => hk q.symm
      simp [hk, hk']
      exact ms_lk_ok pc h1 a ps ts h.2
theorem ms_w_lsw {x : Int32} {d : Int} {ps : Array (Int × Int)} {len t0 : Nat} {ts : List Nat} (hexec : p.tables.exec = Jvm.exec) (hb : c.code = ms_by j) (hd : decode (ms_by j) pc = .ok (.lookupswitch d ps, len)) (h1 : (pc : Int) + d = (t0 : Int)) (h2 : ps.toList.map (fun q => (pc : Int) + q.2) = ts.map (fun (t : Nat) => (t : Int))) (h3 : (ps.toList.zip (ps.toList.drop 1)).all (fun (a, next) => a.1 < next.1) = true)
    (k : W p l e R s m args below meth c H locs cells slots Q (F0 m (ms_lk ps.toList ts t0 x.toInt) ls rest)) : W p l e R s m args below meth c H locs cells slots Q (F0 m pc ls (.int x :: rest)) :=
  lv_lookup hexec hb hd h3 rfl (ms_lk_ok pc h1 _ _ _ h2) k
theorem ms_nn {z : Int32} (h : 0 ≤ z.toInt) : ¬ z < 0 := by
  rw [Int32.lt_iff_toInt_lt, Int32.toInt_zero]
  omega
theorem ms_w_cpy (C : ms_Cx v j p s m args meth c) (hR : ms_Rl v σ H) {α : Type} (mk : α → Value) {t a b n0 n1 q : Nat} {f g : Nat → α} {ty : FieldType} {sp dp n : Int32} (hd : decode (ms_by j) pc = .ok (.invokestatic q, 3)) (hlink : Cond.methodLink (ms_ow j) q arraycopyName ∈ ms_ws) (hsz : ls.size = ms_mx j)
    (ht : (ms_tys (ms_vA v))[t]? = some (ms_vA v t, ty)) (hprim : refKind ty = false) (hfit : ∀ z, fits ty (mk z) = true) (htk : ∀ (z : α) (U : State) (k : ClassId), U.takes k (mk z)) (ha : H[ms_vr v a]? = some (arrV (ms_vA v t) n0 (fun j => mk (f j)))) (hb : H[ms_vr v b]? = some (arrV (ms_vA v t) n1 (fun j => mk (g j)))) (hb3 : 3 ≤ b)
    (h1 : 0 ≤ sp.toInt) (h2 : 0 ≤ dp.toInt) (h3 : 0 ≤ n.toInt) (h4 : sp.toNatClampNeg + n.toNatClampNeg ≤ n0) (h5 : dp.toNatClampNeg + n.toNatClampNeg ≤ n1) (hfr : 1 ≤ R.frames) (hlo : (rest.map fun v => v.category).sum + (nativeFrameWords "java/lang/System" "arraycopy" 5 + 11) ≤ R.locals)
    (kk : ∀ (H1 : Heap) (locs1 : List Loc), (∀ z ∈ locs1, z ∈ locs ∨ ms_vB v ≤ z.base) → H1[ms_vr v b]? = some (arrV (ms_vA v t) n1 (fun j => mk (va_cpy f g sp.toNatClampNeg dp.toNatClampNeg n.toNatClampNeg j))) → H1.size = H.size → (∀ q, q ≠ ms_vr v b → H1[q]? = H[q]?) → W p l e R s m args below meth c H1 locs1 cells slots Q (F0 m (pc + 3) ls rest)) : W p l e R s m args below meth c H locs cells slots Q (F0 m pc ls (.int n :: .int dp :: .ref (ms_vr v b) :: .int sp :: .ref (ms_vr v a) :: rest)) := by
  have nn : ∀ z : Int32, 0 ≤ z.toInt → z.toInt = (z.toNatClampNeg : Int) := by
    intro z hz
    show z.toInt = ((z.toInt.toNat : Nat) : Int)
    omega
  obtain ⟨⟨hx, hbc, hml, hown⟩, hts, ⟨hvk, hK, -⟩, -⟩ := C
  intro T hT X
  obtain ⟨-, k0, hk0, cm0, hkk0⟩ := (hK.2 t _ ht).1 n0 (fun j => mk (f j))
  obtain ⟨-, k1, hk1, cm1, hkk1⟩ := (hK.2 t _ ht).1 n1 (fun j => mk (g j))
  have e : ∀ i, i < n.toNatClampNeg → (arrV (ms_vA v t) n0 (fun j => mk (f j))).slots.getD (sp.toNatClampNeg + i) .null = mk (f (sp.toNatClampNeg + i)) := fun i hi => by
    rw [Array.getD_eq_getD_getElem?, arrV_read _ _ (by omega)]
    rfl
  obtain ⟨vm', X', step⟩ := X.arraycopy hx hown (hts _ hlink) (hts _ ms_w_cn) (hts _ ms_w_cs) (hts _ ms_w_ci) (src := ms_vr v a) (dst := ms_vr v b) (cs := arrV (ms_vA v t) n0 (fun j => mk (f j))) (cd := arrV (ms_vA v t) n1 (fun j => mk (g j))) (srcPos := sp) (destPos := dp) (n := n) (by rw [hT]; exact ha) (by rw [hT]; exact hb)
    (fun _ h => by cases h) (fun _ h => by cases h) (fun h => by cases h) (fun h => by cases h) hk0 hk1 hkk0 hkk1 (by simp [hprim]) (ms_nn h1) (ms_nn h2) (ms_nn h3)
    (by rw [nn sp h1, nn n h3, arrV_size]; omega)
    (by rw [nn dp h2, nn n h3, arrV_size]; omega)
    (fun vm₁ _ i hi => by rw [e i hi]; exact ⟨hfit _, htk _ _ _⟩)
    (g := F0 m pc ls (.int n :: .int dp :: .ref (ms_vr v b) :: .int sp :: .ref (ms_vr v a) :: rest)) rfl (by rw [hml]; exact hsz) (rest := rest) rfl (by rw [hbc]; exact hd) hfr (by show 2 * 0 + _ + _ ≤ _; omega)
  have e1 : copied (arrV (ms_vA v t) n0 (fun j => mk (f j))) (arrV (ms_vA v t) n1 (fun j => mk (g j))) sp dp n = arrV (ms_vA v t) n1 (fun j => mk (va_cpy f g sp.toNatClampNeg dp.toNatClampNeg n.toNatClampNeg j)) := va_copied mk (ms_vA v t) (ms_vA v t) f g h4
  rw [e1] at X' step
  have hl : ms_vr v b < H.size := (Array.getElem?_eq_some_iff.mp hb).1
  obtain ⟨t2, a1, b1⟩ := kk (H.setIfInBounds (ms_vr v b) (arrV (ms_vA v t) n1 (fun j => mk (va_cpy f g sp.toNatClampNeg dp.toNatClampNeg n.toNatClampNeg j)))) _ (fun z hz => by
      rcases List.mem_append.mp hz with h | h
      · exact Or.inl h
      · obtain ⟨w, -, hw⟩ := List.mem_map.mp h
        right
        rw [← hw]
        show ms_vB v ≤ ms_vr v b
        rw [hvk.hi hb3]
        omega) (by simp [Array.getElem?_setIfInBounds, hl]) (by simp) (fun q hq => by simp [Array.getElem?_setIfInBounds, Ne.symm hq]) _ (by rw [← hT]; rfl) X'
  exact ⟨t2, step t2 a1, b1⟩
end MsMem2
