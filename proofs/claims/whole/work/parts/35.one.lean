/-! ONE INSTRUCTION. -/
section MsOne
variable {p : Program} {l : Launch} {e : Env} {R : Room} {s : State} {m : MethodId} {args : Array Value} {below : List Frame} {meth : Method} {c : Code} {H : Heap} {locs : List Loc} {cells slots : Nat} {Q : State → Prop}
variable {v : ms_V} {j pc len : Nat} {i : Jvm.ClassFile.Instr} {x : ms_X} {ls : Array Slot} {L S : List Value} {σ : ms_M} {y : ms_N}
set_option maxHeartbeats 4000000 in
set_option maxRecDepth 100000 in
theorem ms_w1 (C : ms_Cx v j p s m args meth c) (hd : decode (ms_by j) pc = .ok (i, len)) (ck : ms_ck j pc i len x = true) (h : ms_st1 i len x pc L S σ = some y) (hL : ms_Lr (ms_vr v) ls L) (hLm : L.length = ms_mx j) (hR : ms_Rl v σ H) (hfr : ms_fr j ≤ R.frames) (hlo : ms_lo j ≤ R.locals)
    (hc : cells + (y.2.2.2.1 - σ.1) ≤ R.cells) (hs : slots + (y.2.2.2.2.1 - σ.2.1) ≤ R.slots) (K : ms_K p l e R s m args below meth c H locs cells slots Q v σ y) : W p l e R s m args below meth c H locs cells slots Q (F0 m pc ls (S.map (ms_mv (ms_vr v)))) := by
  have hx := C.1.1
  have hb := C.1.2.1
  have hvk := C.2.2.1.1
  cases i with
  | iconst n =>
    obtain ⟨rfl, hv⟩ := of_decide_eq_true ck
    cases h
    refine lv_iconst hx hb hd rfl ?_
    have h2 := K.same hL hR
    rw [List.map_cons, hv] at h2
    exact h2
  | bipush n =>
    obtain ⟨rfl, hv⟩ := of_decide_eq_true ck
    cases h
    refine lv_bipush hx hb hd rfl ?_
    have h2 := K.same hL hR
    rw [List.map_cons, hv] at h2
    exact h2
  | sipush n =>
    obtain ⟨rfl, hv⟩ := of_decide_eq_true ck
    cases h
    refine lv_sipush hx hb hd rfl ?_
    have h2 := K.same hL hR
    rw [List.map_cons, hv] at h2
    exact h2
  | lconst n =>
    obtain ⟨rfl, hv⟩ := of_decide_eq_true ck
    cases h
    refine lv_lconst hx hb hd rfl ?_
    have h2 := K.same hL hR
    rw [List.map_cons, hv] at h2
    exact h2
  | ldc q =>
    simp only [ms_ck, Bool.and_eq_true, decide_eq_true_eq] at ck
    obtain ⟨rfl, ck⟩ := ck
    split at ck
    · rename_i z hz
      cases h
      refine lv_ldc hx hb C.1.2.2.2 (C.2.1 _ (ms_has_in ck)) hd ?_
      have h2 := K.same hL hR
      rw [List.map_cons, hz] at h2
      exact h2
    · cases ck
  | ldc_w q =>
    simp only [ms_ck, Bool.and_eq_true, decide_eq_true_eq] at ck
    obtain ⟨rfl, ck⟩ := ck
    split at ck
    · rename_i z hz
      cases h
      refine lv_ldcw hx hb C.1.2.2.2 (C.2.1 _ (ms_has_in ck)) hd ?_
      have h2 := K.same hL hR
      rw [List.map_cons, hz] at h2
      exact h2
    · cases ck
  | ldc2_w q =>
    simp only [ms_ck, Bool.and_eq_true, decide_eq_true_eq] at ck
    obtain ⟨rfl, ck⟩ := ck
    split at ck
    · rename_i z hz
      cases h
      refine lv_ldc2 hx hb C.1.2.2.2 (C.2.1 _ (ms_has_in ck)) hd ?_
      have h2 := K.same hL hR
      rw [List.map_cons, hz] at h2
      exact h2
    · cases ck
  | getstatic q =>
    obtain ⟨rfl, hk, hv, hw⟩ := of_decide_eq_true ck
    cases h
    refine ms_w_gets C hR hd hk hw ?_
    have h2 := K.same hL hR
    rw [List.map_cons, hv] at h2
    exact h2
  | iload k =>
    have ck := of_decide_eq_true ck
    subst ck
    exact ms_w_ldi (fun z rest hz k2 => lv_iload hx hb hd hz k2) h K hL hR
  | iload_n k =>
    have ck := of_decide_eq_true ck
    subst ck
    exact ms_w_ldi (fun z rest hz k2 => lv_iload_n hx hb hd rfl hz k2) h K hL hR
  | lload k =>
    have ck := of_decide_eq_true ck
    subst ck
    exact ms_w_ldl (fun z rest hz k2 => lv_lload hx hb hd hz k2) h K hL hR
  | lload_n k =>
    have ck := of_decide_eq_true ck
    subst ck
    exact ms_w_ldl (fun z rest hz k2 => lv_lload_n hx hb hd rfl hz k2) h K hL hR
  | aload k =>
    have ck := of_decide_eq_true ck
    subst ck
    exact ms_w_lda (fun z rest hz k2 => lv_aload hx hb hd hz k2) h K hL hR
  | aload_n k =>
    have ck := of_decide_eq_true ck
    subst ck
    exact ms_w_lda (fun z rest hz k2 => lv_aload_n hx hb hd rfl hz k2) h K hL hR
  | istore k =>
    have ck := of_decide_eq_true ck
    subst ck
    exact ms_w_sti (fun z rest hz k2 => lv_istore hx hb hd hL hz rfl k2) h K hR
  | istore_n k =>
    have ck := of_decide_eq_true ck
    subst ck
    exact ms_w_sti (fun z rest hz k2 => lv_istore_n hx hb hd rfl hL hz rfl k2) h K hR
  | lstore k =>
    have ck := of_decide_eq_true ck
    subst ck
    exact ms_w_stl (fun z rest hz k2 => lv_lstore hx hb hd hL hz rfl k2) h K hR
  | lstore_n k =>
    have ck := of_decide_eq_true ck
    subst ck
    exact ms_w_stl (fun z rest hz k2 => lv_lstore_n hx hb hd rfl hL hz rfl k2) h K hR
  | astore k =>
    have ck := of_decide_eq_true ck
    subst ck
    exact ms_w_sta (fun z rest hz k2 => lv_astore hx hb hd hL hz rfl k2) h K hR
  | astore_n k =>
    have ck := of_decide_eq_true ck
    subst ck
    exact ms_w_sta (fun z rest hz k2 => lv_astore_n hx hb hd rfl hL hz rfl k2) h K hR
  | iinc k n =>
    have ck := of_decide_eq_true ck
    subst ck
    simp only [ms_st1] at h
    split at h
    · rename_i z hz
      split at h
      · rename_i hk
        cases h
        obtain ⟨o, ho⟩ := List.getElem?_of_mem (ms_lv_mem.mpr ⟨hk, by rw [hz]; simp, rfl⟩ : (k, ms_mv (ms_vr v) (L.getD k .null)) ∈ ms_lv (ms_vr v) L)
        rw [hz] at ho
        exact lv_iinc hx hb hd hL ho rfl hk rfl (fun ls' hl => K.same (ms_Lr.set1 (v := .int (z + Int32.ofInt n)) hk hl) hR)
      · cases h
    · cases h
  | iadd => obtain rfl := of_decide_eq_true ck; exact ms_w_ii (fun a z rest k2 => lv_iadd hx hb hd k2) h K hL hR
  | isub => obtain rfl := of_decide_eq_true ck; exact ms_w_ii (fun a z rest k2 => lv_isub hx hb hd k2) h K hL hR
  | imul => obtain rfl := of_decide_eq_true ck; exact ms_w_ii (fun a z rest k2 => lv_imul hx hb hd k2) h K hL hR
  | iand => obtain rfl := of_decide_eq_true ck; exact ms_w_ii (fun a z rest k2 => lv_iand hx hb hd k2) h K hL hR
  | ior => obtain rfl := of_decide_eq_true ck; exact ms_w_ii (fun a z rest k2 => lv_ior hx hb hd k2) h K hL hR
  | ixor => obtain rfl := of_decide_eq_true ck; exact ms_w_ii (fun a z rest k2 => lv_ixor hx hb hd k2) h K hL hR
  | ishl => obtain rfl := of_decide_eq_true ck; exact ms_w_ii (fun a z rest k2 => lv_ishl hx hb hd k2) h K hL hR
  | ishr => obtain rfl := of_decide_eq_true ck; exact ms_w_ii (fun a z rest k2 => lv_ishr hx hb hd k2) h K hL hR
  | iushr => obtain rfl := of_decide_eq_true ck; exact ms_w_ii (fun a z rest k2 => lv_iushr hx hb hd rfl k2) h K hL hR
  | idiv => obtain rfl := of_decide_eq_true ck; exact ms_w_id (fun a z rest hz k2 => lv_idiv hx hb hd hz k2) h K hL hR
  | irem => obtain rfl := of_decide_eq_true ck; exact ms_w_id (fun a z rest hz k2 => lv_irem hx hb hd hz k2) h K hL hR
  | ineg =>
    obtain rfl := of_decide_eq_true ck
    simp only [ms_st1] at h
    split at h
    · cases h
      exact lv_ineg hx hb hd (K.same hL hR)
    · cases h
  | ladd => obtain rfl := of_decide_eq_true ck; exact ms_w_ll (fun a z rest k2 => lv_ladd hx hb hd k2) h K hL hR
  | lsub => obtain rfl := of_decide_eq_true ck; exact ms_w_ll (fun a z rest k2 => lv_lsub hx hb hd k2) h K hL hR
  | lmul => obtain rfl := of_decide_eq_true ck; exact ms_w_ll (fun a z rest k2 => lv_lmul hx hb hd k2) h K hL hR
  | land => obtain rfl := of_decide_eq_true ck; exact ms_w_ll (fun a z rest k2 => lv_land hx hb hd k2) h K hL hR
  | lor => obtain rfl := of_decide_eq_true ck; exact ms_w_ll (fun a z rest k2 => lv_lor hx hb hd k2) h K hL hR
  | lshl => obtain rfl := of_decide_eq_true ck; exact ms_w_li (fun a z rest k2 => lv_lshl hx hb hd rfl k2) h K hL hR
  | lshr => obtain rfl := of_decide_eq_true ck; exact ms_w_li (fun a z rest k2 => lv_lshr hx hb hd rfl k2) h K hL hR
  | lushr => obtain rfl := of_decide_eq_true ck; exact ms_w_li (fun a z rest k2 => lv_lushr hx hb hd rfl k2) h K hL hR
  | lcmp =>
    obtain rfl := of_decide_eq_true ck
    simp only [ms_st1] at h
    split at h
    · cases h
      exact W.lcmp hx hb hd (K.same hL hR)
    · cases h
  | i2l =>
    obtain rfl := of_decide_eq_true ck
    simp only [ms_st1] at h
    split at h
    · cases h
      exact lv_i2l hx hb hd rfl (K.same hL hR)
    · cases h
  | l2i =>
    obtain rfl := of_decide_eq_true ck
    simp only [ms_st1] at h
    split at h
    · cases h
      exact lv_l2i hx hb hd rfl (K.same hL hR)
    · cases h
  | dup =>
    obtain rfl := of_decide_eq_true ck
    simp only [ms_st1] at h
    split at h
    · split at h
      · rename_i hcat
        cases h
        exact lv_dup hx hb hd (by rw [ms_mv_cat]; exact hcat) (K.same hL hR)
      · cases h
    · cases h
  | dup2 =>
    obtain rfl := of_decide_eq_true ck
    simp only [ms_st1] at h
    split at h
    · split at h
      · rename_i hcat
        cases h
        exact lv_dup2_11 hx hb hd (by rw [ms_mv_cat]; exact hcat.1) (by rw [ms_mv_cat]; exact hcat.2) (K.same hL hR)
      · cases h
    · cases h
  | pop =>
    obtain rfl := of_decide_eq_true ck
    simp only [ms_st1] at h
    split at h
    · split at h
      · rename_i hcat
        cases h
        exact lv_pop hx hb hd (by rw [ms_mv_cat]; exact hcat) (K.same hL hR)
      · cases h
    · cases h
  | pop2 =>
    obtain rfl := of_decide_eq_true ck
    simp only [ms_st1] at h
    split at h
    · split at h
      · rename_i hcat
        cases h
        exact lv_pop2_2 hx hb hd (by rw [ms_mv_cat]; exact hcat) (K.same hL hR)
      · cases h
    · cases h
  | goto o =>
    obtain ⟨rfl, ht⟩ := of_decide_eq_true ck
    cases h
    exact lv_goto hx hb hd ht (K.same hL hR)
  | ifCond cd o =>
    obtain ⟨rfl, ht⟩ := of_decide_eq_true ck
    simp only [ms_st1] at h
    split at h
    · cases h
      exact ms_w_br0 cd hx hb hd ht rfl (K.same hL hR)
    · cases h
  | if_icmp cd o =>
    obtain ⟨rfl, ht⟩ := of_decide_eq_true ck
    simp only [ms_st1] at h
    split at h
    · cases h
      exact ms_w_br cd hx hb hd ht rfl (K.same hL hR)
    · cases h
  | tableswitch d lo hi os =>
    obtain ⟨h1, h2, h3⟩ := of_decide_eq_true ck
    simp only [ms_st1] at h
    split at h
    · cases h
      exact ms_w_tsw hx hb hd h1 h2 h3 (K.same hL hR)
    · cases h
  | lookupswitch d ps =>
    obtain ⟨h1, h2, h3⟩ := of_decide_eq_true ck
    simp only [ms_st1] at h
    split at h
    · cases h
      exact ms_w_lsw hx hb hd h1 h2 h3 (K.same hL hR)
    · cases h
  | getfield q =>
    simp only [ms_ck, Bool.and_eq_true, decide_eq_true_eq] at ck
    obtain ⟨rfl, ck⟩ := ck
    split at ck
    · rename_i r hr
      simp only [Bool.and_eq_true, decide_eq_true_eq] at ck
      simp only [ms_st1] at h
      split at h
      · split at h
        · rename_i ci fs hM
          split at h
          · rename_i hci
            subst hci
            cases hf : fs[x.2.1]? with
            | none => rw [hf] at h; cases h
            | some val =>
              rw [hf] at h
              cases h
              exact ms_w_getf C hR hd hM hr ck.1 (ms_has_in ck.2) hf (K.same hL hR)
          · cases h
        · cases h
      · cases h
    · cases ck
  | putfield q =>
    simp only [ms_ck, Bool.and_eq_true, decide_eq_true_eq] at ck
    obtain ⟨rfl, ck⟩ := ck
    split at ck
    · rename_i r hr
      simp only [Bool.and_eq_true, decide_eq_true_eq] at ck
      simp only [ms_st1] at h
      split at h
      · split at h
        · rename_i ci fs hM
          split at h
          · rename_i hci
            obtain ⟨rfl, hlt, hft⟩ := hci
            cases h
            exact ms_w_putf C hR hd hM hr ck.1.1 (ms_has_in ck.1.2) ck.2 hlt hft (fun H1 z he hz oq => K.wr hvk (ms_obj hR hM hr).1 hL hR he hz oq)
          · cases h
        · cases h
      · cases h
    · cases ck
  | iaload =>
    obtain rfl := of_decide_eq_true ck
    simp only [ms_st1] at h
    split at h
    · split at h
      · rename_i t n f hM
        split at h
        · rename_i ht
          cases h
          exact ms_w_iald C hR hd hM ht.1 ht.2 (K.same hL hR)
        · cases h
      · cases h
    · cases h
  | laload =>
    obtain rfl := of_decide_eq_true ck
    simp only [ms_st1] at h
    split at h
    · split at h
      · rename_i t n f hM
        split at h
        · rename_i ht
          obtain ⟨rfl, ht⟩ := ht
          cases h
          exact ms_w_lald C hR hd hM ht (K.same hL hR)
        · cases h
      · cases h
    · cases h
  | aaload =>
    obtain rfl := of_decide_eq_true ck
    simp only [ms_st1] at h
    split at h
    · rename_i iq a r
      split at h
      · rename_i t n f hM
        split at h
        · rename_i ht
          cases hf : f iq.toNatClampNeg with
          | none => rw [hf] at h; cases h
          | some b =>
            rw [hf] at h
            cases h
            exact ms_w_aald C hR hd hM ht.1 ht.2 hf (K.same hL hR)
        · cases h
      · cases h
    · cases h
  | iastore =>
    obtain rfl := of_decide_eq_true ck
    simp only [ms_st1] at h
    split at h
    · split at h
      · rename_i n f hM
        split at h
        · rename_i ht
          cases h
          exact ms_w_iast C hR hd hM ht (fun H1 z ha he hz oq => K.wr hvk ha hL hR he hz oq)
        · cases h
      · cases h
    · cases h
  | lastore =>
    obtain rfl := of_decide_eq_true ck
    simp only [ms_st1] at h
    split at h
    · split at h
      · rename_i n f hM
        split at h
        · rename_i ht
          cases h
          exact ms_w_last C hR hd hM ht (fun H1 z ha he hz oq => K.wr hvk ha hL hR he hz oq)
        · cases h
      · cases h
    · cases h
  | aastore =>
    obtain rfl := of_decide_eq_true ck
    simp only [ms_st1] at h
    split at h
    · split at h
      · rename_i k n f ci fs hM hV
        split at h
        · rename_i ht
          cases h
          exact ms_w_aast C hR hd hM hV ht.2 ht.1 (fun H1 z ha he hz oq => K.wr hvk ha hL hR he hz oq)
        · cases h
      · cases h
    · cases h
  | arraylength =>
    obtain rfl := of_decide_eq_true ck
    simp only [ms_st1] at h
    split at h
    · split at h
      · rename_i t n d hM
        cases h
        exact ms_w_alen C hR hd hM (K.same hL hR)
      · cases h
    · cases h
  | newarray t =>
    obtain ⟨rfl, ht⟩ := of_decide_eq_true ck
    simp only [ms_st1] at h
    split at h
    · split at h
      · rename_i hn
        cases h
        have hc' : cells + 1 ≤ R.cells := by
          have : σ.1 + 1 - σ.1 = 1 := by omega
          have h0 : cells + (σ.1 + 1 - σ.1) ≤ R.cells := hc
          omega
        rcases ht with ⟨hx1, rfl⟩ | ⟨hx1, rfl⟩
        · rw [hx1] at K
          refine ms_w_newi C hR hd hn hc' ?_ (fun H1 he hz oq => K.nw hvk hL hR he hz oq)
          have h0 : slots + (σ.2.1 + _ - σ.2.1) ≤ R.slots := hs
          rw [Nat.add_sub_cancel_left] at h0
          exact h0
        · rw [hx1] at K
          refine ms_w_newl C hR hd hn hc' ?_ (fun H1 he hz oq => K.nw hvk hL hR he hz oq)
          have h0 : slots + (σ.2.1 + _ - σ.2.1) ≤ R.slots := hs
          rw [Nat.add_sub_cancel_left] at h0
          exact h0
      · cases h
    · cases h
  | anewarray q =>
    simp only [ms_ck, Bool.and_eq_true, Bool.or_eq_true, decide_eq_true_eq] at ck
    obtain ⟨rfl, ht⟩ := ck
    simp only [ms_st1] at h
    split at h
    · split at h
      · rename_i hn
        cases h
        have hc' : cells + 1 ≤ R.cells := by
          have h0 : cells + (σ.1 + 1 - σ.1) ≤ R.cells := hc
          omega
        rcases ht with ⟨hx1, ht⟩ | ⟨hx1, ht⟩
        · rw [hx1] at K
          refine ms_w_anew C hR hd (by decide) (by decide) rfl (ms_has_in ht) C.2.2.1.2.2.2.2.2.2.1.1 hn hc' ?_ (fun H1 he hz oq => K.nw hvk hL hR he hz oq)
          have h0 : slots + (σ.2.1 + _ - σ.2.1) ≤ R.slots := hs
          rw [Nat.add_sub_cancel_left] at h0
          exact h0
        · rw [hx1] at K
          refine ms_w_anew C hR hd (by decide) (by decide) rfl (ms_has_in ht) C.2.2.1.2.2.2.2.2.2.1.2 hn hc' ?_ (fun H1 he hz oq => K.nw hvk hL hR he hz oq)
          have h0 : slots + (σ.2.1 + _ - σ.2.1) ≤ R.slots := hs
          rw [Nat.add_sub_cancel_left] at h0
          exact h0
      · cases h
    · cases h
  | multianewarray q n =>
    simp only [ms_ck, Bool.and_eq_true, decide_eq_true_eq] at ck
    obtain ⟨⟨rfl, rfl, hx1⟩, ht⟩ := ck
    exact ms_w_multi C hR hd (ms_has_in ht) h hL hc hs K
  | new q =>
    simp only [ms_ck, Bool.and_eq_true, decide_eq_true_eq] at ck
    obtain ⟨rfl, ck⟩ := ck
    split at ck
    · rename_i r hr
      simp only [Bool.and_eq_true, decide_eq_true_eq] at ck
      cases h
      refine ms_w_newc C hR hd hr ck.1.2 (ms_has_in ck.2) ?_ ?_ (fun H1 he hz oq => K.nw hvk hL hR he hz oq)
      · have h0 : cells + (σ.1 + 1 - σ.1) ≤ R.cells := hc
        omega
      · have h0 : slots + (σ.2.1 + _ - σ.2.1) ≤ R.slots := hs
        rw [Nat.add_sub_cancel_left] at h0
        exact h0
    · cases ck
  | invokespecial q =>
    simp only [ms_ck, Bool.and_eq_true, decide_eq_true_eq] at ck
    obtain ⟨⟨rfl, hx2, hf1, hl1⟩, ck⟩ := ck
    simp only [ms_st1] at h
    split at h
    · rename_i a r
      split at h
      · rename_i h8
        cases h
        refine W.objInit hx hb C.1.2.2.2 (C.2.1 _ (ms_has_in ck)) (C.2.1 _ ms_w_oi) (C.2.1 _ ms_w_oc) rfl ((hL.1.trans hLm).trans C.1.2.2.1.symm) rfl hd (Nat.le_trans hf1 hfr) ?_ (K.same hL hR)
        rw [ms_mv_sum]
        show 2 * 0 + _ + 12 ≤ _
        omega
      · cases h
    · cases h
  | invokestatic q =>
    simp only [ms_ck, Bool.and_eq_true, decide_eq_true_eq] at ck
    obtain ⟨⟨rfl, hx2, hf1, hl1⟩, ck⟩ := ck
    simp only [ms_st1] at h
    split at h
    · split at h
      · rename_i n0 f n1 g hA hB
        split at h
        · rename_i hcd
          obtain ⟨c1, c2, c3, c4, c5, c6⟩ := hcd
          cases h
          have hA := (show ms_cr v _ _ H from hA ▸ hR.2 _)
          have hB := (show ms_cr v _ _ H from hB ▸ hR.2 _)
          rcases hA with ⟨q1, -⟩ | ⟨-, q2, q3⟩
          · cases q1
          rcases hB with ⟨q1, -⟩ | ⟨-, q4, q5⟩
          · cases q1
          exact ms_w_cpy C hR (fun z => Value.int z) (t := 0) (f := f) (g := g) hd (ms_has_in ck) (hL.1.trans hLm) rfl rfl (fun _ => rfl) (fun _ _ _ => trivial) q3 q5 q4 c1 c2 c3 c4 c5 (Nat.le_trans hf1 hfr) (by rw [ms_mv_sum, show nativeFrameWords "java/lang/System" "arraycopy" 5 = 7 by decide]; omega) (fun H1 locs1 hl he hz oq => K.wl hvk q4 hL hR (Or.inr ⟨by decide, q4, he⟩) hz oq hl)
        · cases h
      · rename_i n0 f n1 g hA hB
        split at h
        · rename_i hcd
          obtain ⟨c1, c2, c3, c4, c5, c6⟩ := hcd
          cases h
          have hA := (show ms_cr v _ _ H from hA ▸ hR.2 _)
          have hB := (show ms_cr v _ _ H from hB ▸ hR.2 _)
          rcases hA with ⟨q1, -⟩ | ⟨-, q2, q3⟩
          · cases q1
          rcases hB with ⟨q1, -⟩ | ⟨-, q4, q5⟩
          · cases q1
          exact ms_w_cpy C hR (fun z => Value.long z) (t := 1) (f := f) (g := g) hd (ms_has_in ck) (hL.1.trans hLm) rfl rfl (fun _ => rfl) (fun _ _ _ => trivial) q3 q5 q4 c1 c2 c3 c4 c5 (Nat.le_trans hf1 hfr) (by rw [ms_mv_sum, show nativeFrameWords "java/lang/System" "arraycopy" 5 = 7 by decide]; omega) (fun H1 locs1 hl he hz oq => K.wl hvk q4 hL hR (Or.inr ⟨by decide, q4, he⟩) hz oq hl)
        · cases h
      · cases h
    · cases h
  | _ => exact absurd h (by simp [ms_st1])
end MsOne
