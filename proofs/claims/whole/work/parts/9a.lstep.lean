/-! THE LAW'S STEP. -/
theorem md_mk {I1 Ia I2 : ms_i} {J1 J2 : ms_j} {u s m l : Nat} {W : Nat → Int32} (ha : Ia = ms_u I1 40 0 (upd (I1 40 0) 0 (nI 0))) (hl : ms_wl (7 * u + s) = l) (hw : ∀ i, i < l → I2 56 0 (70 * m + 4 + i) = W i) (ho : ∀ i, i < 70 * m + 4 → I2 56 0 i = ms_po m s u 0 l (Ia 56 0) i) (e40 : I2 40 0 = upd (Ia 40 0) 20 (nI (m + 1))) (e45 : ∀ u', u' ≠ u → I2 45 0 u' = Ia 45 0 u' ∧ I2 46 0 u' = Ia 46 0 u') (fr : ms_fq [40, 45, 46, 56, 58, 59, 63, 64] Ia I2) (fj : ms_fq [60, 61, 62, 65] J1 J2) : ms_md I1 (ms_u I2 43 0 (upd (I2 43 0) u (nI (s + 1)))) J1 J2 u s m W := by
  have a : ∀ r u', r ≠ 40 → Ia r u' = I1 r u' := fun r u' h => by rw [ha, ms_u_r _ _ _ _ h]
  refine ⟨?_, ?_, ?_, ?_, ?_, ?_, fj⟩
  · intro i hi
    rw [ms_u_r _ _ _ _ (by decide)]
    exact hw i (by omega)
  · intro i hi
    rw [ms_u_r _ _ _ _ (by decide), ho i hi, hl, a 56 0 (by decide)]
  · rw [ms_u_r _ _ _ _ (by decide), e40, ha, ms_u_s]
  · rw [ms_u_s, fr_at fr 43 rfl 0, a 43 0 (by decide)]
  · intro u' hu'
    rw [ms_u_r _ _ _ _ (by decide), ms_u_r _ _ _ _ (by decide), (e45 u' hu').1, (e45 u' hu').2, a 45 0 (by decide), a 46 0 (by decide)]
    exact ⟨rfl, rfl⟩
  · rw [ha] at fr
    exact fr_tr (fr_u rfl) (fr_tr (fr_up fr rfl) (fr_u rfl))
theorem bit_hi {x : Int32} {n h v : Nat} (hx : x = nI h) (hh : h < 2 ^ n) (hn : n ≤ 8) (hv : n ≤ v) : ms_bit x v = false := by
  have := p2_8 hn
  rw [hx, bit_nI (by omega) v]
  exact hb_hi hh hv
section LStep
variable {q : Nat × Nat} {w : Bool} {I : ms_i} {J : ms_j} {σ : ms_M}
theorem lo_step {f : Nat → Int32} {x : Int32} (h : ms_iv f I J) : ∃ (q' : Nat × Nat) (k : Nat) (b w1 w2 : Bool) (I1 : ms_i) (J1 : ms_j) (I2 : ms_i) (J2 : ms_j), ms_G 136 0 [.ref (ms_ad 3 0), .int x, .ref (ms_ad 66 0), .null] [] (ms_Z q false I J) = some (.inl (some (.int (nI k))), ms_Z q' w1 I1 J1) ∧ ms_G 49 0 [.ref (ms_ad 40 0), .int x] [] (ms_Z q' false I1 J1) = some (.inl (some (.int (ms_b b))), ms_Z q' w2 I2 J2) ∧ I2 40 0 0 = nI k ∧ k < 3 ∧ (k = 0 → J2 66 0 0 = if b = true then lN 1 else lN 0) ∧ q'.1 = q.1 ∧ q'.2 ≤ q.2 + 1 ∧ I1 0 0 = f ∧ ms_iv f I2 J2 := by
  have hiv := h
  obtain ⟨h0, n, t, g, nm, hd, S, T, X, m, Q, h⟩ := h
  have hinv := h
  obtain ⟨hA, hSm, hH, hP, hX, hI, hN, hK, hF, hR, hM, hZ⟩ := h
  obtain ⟨a0, a1, a2, b1, b2, b3, b4, b5, n8, tn, g5, t2⟩ := hA
  cases hx : ms_in x n with
  | false =>
    refine ⟨(q.1, q.2 + 1), 1, false, true, true, I, J, ms_u I 40 0 (upd (I 40 0) 0 (nI 1)), J, wr_136a (sp_4b n8 a0 hx), sp_49b n8 b1 hx, by rw [ms_u_s, pk_us], by decide, fun z => absurd z (by decide), rfl, Nat.le_refl _, hiv.1, iv_code hiv _⟩
  | true =>
    by_cases hg : g < 4
    · obtain ⟨u, hu, rfl⟩ := in_nat (by omega) hx
      obtain ⟨p1, p2, p3, p4, p5, p6, p7, p8, p9, p10, p11⟩ := hP u (by omega)
      by_cases hs : S u = T u ∧ S u < 4
      · obtain ⟨s, es⟩ : ∃ s, s = S u := ⟨_, rfl⟩
        have ls : s < 4 := by omega
        have et : T u = s := by omega
        rw [← es] at p1 p2 p11
        rw [et] at p3 p4
        obtain ⟨x0, ex0⟩ : ∃ x0, x0 = X u 0 := ⟨_, rfl⟩
        obtain ⟨x1, ex1⟩ : ∃ x1, x1 = X u 1 := ⟨_, rfl⟩
        obtain ⟨x2, ex2⟩ : ∃ x2, x2 = X u 2 := ⟨_, rfl⟩
        obtain ⟨y0, z0, l0⟩ := hX u (by omega) 0 (by decide)
        obtain ⟨y1, z1, l1⟩ := hX u (by omega) 1 (by decide)
        obtain ⟨y2, z2, l2⟩ := hX u (by omega) 2 (by decide)
        rw [← ex0] at y0 z0 l0
        rw [← ex1] at y1 z1 l1
        rw [← ex2] at y2 z2 l2
        rw [Nat.add_zero] at z0
        obtain ⟨k1, k2⟩ := hK u (by omega)
        obtain ⟨n1, n2, n3⟩ := hN u (by omega)
        have m56 : m < 56 := ml_lt (p := 7 * u + s) hM (by omega) (fun z => by
          have := z.1 (by omega)
          rw [show (7 * u + s) % 7 = s by omega, show (7 * u + s) / 7 = u by omega] at this
          omega)
        -- the rest, out of what both sides send
        have fin : ∀ (W : Nat → Int32) (I1 : ms_i) (J1 : ms_j) (Ia I2 : ms_i) (J2 : ms_j) (l : Nat), ms_G 97 0 [.ref (ms_ad 31 u), .ref (ms_ad 14 0), .ref (ms_ad 4 0), .int (nI t), .null] [] (ms_Z q false I J) = some (.inl (some (.int (nI 1))), ms_Z q true I1 J1) → ms_cs I I1 J J1 u s m W → Ia = ms_u I1 40 0 (upd (I1 40 0) 0 (nI 0)) → ms_wl (7 * u + s) = l → (ms_G 49 62 [.ref (ms_ad 40 0), .int (nI u)] [] (ms_Z q true Ia (ms_u J1 66 0 (vp_updL (J1 66 0) 0 (lN 1)))) = ms_G 49 120 [.ref (ms_ad 40 0), .int (nI u)] [] (ms_Z q true I2 J2)) → (∀ i, i < l → I2 56 0 (70 * m + 4 + i) = W i) → (∀ i, i < 70 * m + 4 → I2 56 0 i = ms_po m s u 0 l (Ia 56 0) i) → I2 40 0 = upd (Ia 40 0) 20 (nI (m + 1)) → (∀ u', u' ≠ u → I2 45 0 u' = Ia 45 0 u' ∧ I2 46 0 u' = Ia 46 0 u') → ms_fq [40, 45, 46, 56, 58, 59, 63, 64] Ia I2 → ms_fq [60, 61, 62, 65] (ms_u J1 66 0 (vp_updL (J1 66 0) 0 (lN 1))) J2 → I2 45 0 u = I1 31 u 11 → I2 46 0 u = I1 31 u 12 → (s + 1 ≤ 3 → I1 31 u 11 = nI 0 ∧ I1 31 u 12 = nI 0) → (1 ≤ s → ∀ v, v < 8 → J1 34 u v = lN (ms_sh (X u 2) (ms_cf (X u 2) 1 u) (v + 1) t) ∧ J1 35 u v = lN (ms_sh (X u 0) (ms_cf (X u 2) 0 u) (v + 1) t)) → ∃ (q' : Nat × Nat) (k : Nat) (b w1 w2 : Bool) (I1 : ms_i) (J1 : ms_j) (I2 : ms_i) (J2 : ms_j), ms_G 136 0 [.ref (ms_ad 3 0), .int (nI u), .ref (ms_ad 66 0), .null] [] (ms_Z q false I J) = some (.inl (some (.int (nI k))), ms_Z q' w1 I1 J1) ∧ ms_G 49 0 [.ref (ms_ad 40 0), .int (nI u)] [] (ms_Z q' false I1 J1) = some (.inl (some (.int (ms_b b))), ms_Z q' w2 I2 J2) ∧ I2 40 0 0 = nI k ∧ k < 3 ∧ (k = 0 → J2 66 0 0 = if b = true then lN 1 else lN 0) ∧ q'.1 = q.1 ∧ q'.2 ≤ q.2 + 1 ∧ I1 0 0 = f ∧ ms_iv f I2 J2 := by
          intro W I1 J1 Ia I2 J2 l r1 cs ha hl r2 hw ho e40 e45 fr fj h45 h46 hz hF2
          have c7 := cs.2.2.2.2.2.2.1
          have md := md_mk ha hl hw ho e40 e45 fr fj
          have inv := iv_step hinv hu ls es.symm et cs (fr_u rfl) md (by rw [ms_u_r _ _ _ _ (by decide)]; exact h45) (by rw [ms_u_r _ _ _ _ (by decide)]; exact h46) hz (fun _ => hF2)
          have w1 := wr_136v (sp_4d (b := true) n8 a0 hu hg a2 a1 r1)
          rw [if_pos rfl] at w1
          have i43 : I2 43 0 u = nI s := by rw [fr_at fr 43 rfl 0, ha, ms_u_r _ _ _ _ (by decide), fr_at c7 43 rfl 0]; exact p2
          have w2 := sp_49p (q := q) (I := I1) (J := ms_u J1 66 0 (vp_updL (J1 66 0) 0 (lN 1))) n8 (by rw [fr_at c7 40 rfl 0]; exact b1) hu hg (by rw [fr_at c7 40 rfl 0]; exact b3) (by rw [fr_at c7 43 rfl 0]; exact p2) (by rw [fr_at c7 44 rfl 0]; exact p4) ls
          rw [← ha, r2, sp_49e (by omega) i43] at w2
          refine ⟨q, 0, true, true, true, _, _, _, _, w1, w2, ?_, by decide, fun _ => ?_, rfl, by omega, by rw [fr_at c7 0 rfl 0]; exact h0, ?_, _, _, _, _, _, _, _, _, _, _, inv⟩
          · rw [ms_u_r _ _ _ _ (by decide), e40, pk_un (by decide), ha, ms_u_s, pk_us]
          · rw [fr_at fj 66 rfl 0, ms_u_s, pk_uLs, if_pos rfl]
          · rw [ms_u_r _ _ _ _ (by decide), fr_at fr 0 rfl 0, ha, ms_u_r _ _ _ _ (by decide), fr_at c7 0 rfl 0]
            exact h0
        have cases4 : s = 0 ∨ s = 1 ∨ s = 2 ∨ s = 3 := by omega
        rcases cases4 with hs0 | hs1 | hs2 | hs3
        · obtain ⟨I1, r1, cs, e11, e12⟩ := sp_97_0 (q := q) (J := J) (t := t) hs0 (by omega) m56 hZ p1 p3 hM.2.1 l0 l1 y0 y1
          have c7 := cs.2.2.2.2.2.2.1
          obtain ⟨Ia, ha⟩ : ∃ Ia, Ia = ms_u I1 40 0 (upd (I1 40 0) 0 (nI 0)) := ⟨_, rfl⟩
          obtain ⟨J1', ej⟩ : ∃ J1', J1' = ms_u J 66 0 (vp_updL (J 66 0) 0 (lN 1)) := ⟨_, rfl⟩
          have ja : ∀ r u', r ≠ 66 → J1' r u' = J r u' := fun r u' z => by rw [ej, ms_u_r _ _ _ _ z]
          have ia : ∀ k, k ≠ 0 → Ia 40 0 k = I 40 0 k := fun k z => by rw [ha, ms_u_s, pk_un z, fr_at c7 40 rfl 0]
          have ib : ∀ r u', r ≠ 40 → Ia r u' = I1 r u' := fun r u' z => by rw [ha, ms_u_r _ _ _ _ z]
          obtain ⟨I2, r2, v1, v2, v3, v4⟩ := sp_45 (q := q) (I := Ia) (J := J1') (u := u) (m := m) (by omega) m56 (by rw [ia 20 (by decide)]; exact hM.2.2.1) l0 l1 (by rw [ja 41 0 (by decide)]; exact z0) (by rw [ja 41 0 (by decide)]; exact z1)
          have i43 : Ia 43 0 u = nI 0 := by rw [ib 43 0 (by decide), fr_at c7 43 rfl 0, p2, hs0]
          have f45 : ∀ r, [40, 56].contains r = false → r ≠ 40 → I2 r 0 = I1 r 0 := fun r z z2 => by rw [fr_at v4 r z, ib r 0 z2]
          subst hs0
          refine fin _ I1 J Ia I2 J1' 4 r1 cs ha (wl_0 rfl) ?_ v1 v2 v3 (fun u' _ => ⟨by rw [fr_at v4 45 rfl 0], by rw [fr_at v4 46 rfl 0]⟩) (fr_up v4 rfl) ?_ ?_ ?_ (fun _ => ?_) (fun z => by omega)
          · rw [← ej]
            simp (disch := omega) only [↓mi_49_62, ↓mi_49_63, ↓mi_49_66, ↓mi_49_67, ↓mi_49_68, ↓mi_49_71, ↓mi_49_72, ↓mi_49_73, ↓mi_49_76, cond_true, mz_clv, mz_cln, Bool.false_or, Bool.true_or, Bool.or_false, Bool.or_true, if_true, if_false, ite_self, o0_43, i43, na_eq, if_pos, r2]
          · rw [← ej]
            exact fr_rf
          · rw [f45 45 rfl (by decide), fr_at c7 45 rfl 0, e11, p9]
          · rw [f45 46 rfl (by decide), fr_at c7 46 rfl 0, e12, p10]
          · rw [e11, e12]
            exact p11 (by omega)
        · obtain ⟨I1, J1, r1, cs, e11, e12, eJ⟩ := sp_97_1 (q := q) (J := J) (t := t) (nm0 := I 36 u 0) (ky := fun k => I 48 0 (32 * u + k)) hs1 (by omega) m56 (by omega) (by omega) hZ p1 p3 hM.2.1 l0 l1 l2 y0 y1 y2 rfl k1
          have c7 := cs.2.2.2.2.2.2.1
          have c10 := cs.2.2.2.2.2.2.2.2.2.1
          obtain ⟨Ia, ha⟩ : ∃ Ia, Ia = ms_u I1 40 0 (upd (I1 40 0) 0 (nI 0)) := ⟨_, rfl⟩
          obtain ⟨J1', ej⟩ : ∃ J1', J1' = ms_u J1 66 0 (vp_updL (J1 66 0) 0 (lN 1)) := ⟨_, rfl⟩
          have ja : J1' 41 0 = J 41 0 := by rw [ej, ms_u_r _ _ _ _ (by decide), fr_at c10 41 rfl 0]
          have ia : ∀ k, k ≠ 0 → Ia 40 0 k = I 40 0 k := fun k z => by rw [ha, ms_u_s, pk_un z, fr_at c7 40 rfl 0]
          have ib : ∀ r u', r ≠ 40 → Ia r u' = I1 r u' := fun r u' z => by rw [ha, ms_u_r _ _ _ _ z]
          obtain ⟨hh, lh, eh⟩ := n2 0 (by omega)
          obtain ⟨I2, J2, r2, v1, v2, v3, v4, v5⟩ := sp_46 (q := q) (I := Ia) (J := J1') (u := u) (m := m) (n := n) (t := t) (nm0 := I 36 u 0) (ky := fun k => I 48 0 (32 * u + k)) (by omega) n8 (by omega) (t2 hg) m56 l0 l1 l2 (by rw [ia 20 (by decide)]; exact hM.2.2.1) (by rw [ia 1 (by decide)]; exact b1) (by rw [ia 2 (by decide)]; exact b2) (by rw [ib 47 0 (by decide), fr_at c7 47 rfl 0, n1 0 (by decide), Nat.add_zero]) (fun k _ => by rw [ib 48 0 (by decide), fr_at c7 48 rfl 0]) (by rw [ja]; exact z0) (by rw [ja]; exact z1) (by rw [ja]; exact z2) (fun v a _ => bit_hi eh lh n8 a)
          have i43 : Ia 43 0 u = nI 1 := by rw [ib 43 0 (by decide), fr_at c7 43 rfl 0, p2, hs1]
          subst hs1
          refine fin _ I1 J1 Ia I2 J2 64 r1 cs ha (wl_1 rfl) ?_ v1 v2 v3 (fun u' _ => ⟨by rw [fr_at v4 45 rfl 0], by rw [fr_at v4 46 rfl 0]⟩) (fr_up v4 rfl) ?_ ?_ ?_ (fun _ => ?_) (fun _ => ?_)
          · rw [← ej]
            simp (disch := omega) only [↓mi_49_62, ↓mi_49_63, ↓mi_49_66, ↓mi_49_67, ↓mi_49_68, ↓mi_49_71, ↓mi_49_72, ↓mi_49_73, ↓mi_49_76, ↓mi_49_79, ↓mi_49_80, ↓mi_49_83, ↓mi_49_84, ↓mi_49_85, ↓mi_49_86, ↓mi_49_89, ↓mi_49_90, ↓mi_49_91, ↓mi_49_94, cond_true, mz_clv, mz_cln, Bool.false_or, Bool.true_or, Bool.or_false, Bool.or_true, if_true, if_false, ite_self, o0_43, i43, na_eq, if_pos, if_neg, r2]
          · rw [← ej]
            exact v5
          · rw [fr_at v4 45 rfl 0, ib 45 0 (by decide), fr_at c7 45 rfl 0, e11, p9]
          · rw [fr_at v4 46 rfl 0, ib 46 0 (by decide), fr_at c7 46 rfl 0, e12, p10]
          · rw [e11, e12]
            exact p11 (by omega)
          · rw [← ex0, ← ex2]
            exact eJ
        · obtain ⟨I1, r1, cs, e11, e12⟩ := sp_97_2 (q := q) (J := J) (t := t) (inp := fun k => I 42 0 (4 * u + k)) (nm1 := I 36 u 1) (ky := fun k => I 48 0 (32 * u + k)) hs2 (by omega) m56 hZ p1 p3 hM.2.1 l0 l2 y0 y2 (fun k hk => hI u (by omega) k hk) rfl k1
          have c7 := cs.2.2.2.2.2.2.1
          obtain ⟨Ia, ha⟩ : ∃ Ia, Ia = ms_u I1 40 0 (upd (I1 40 0) 0 (nI 0)) := ⟨_, rfl⟩
          obtain ⟨J1', ej⟩ : ∃ J1', J1' = ms_u J 66 0 (vp_updL (J 66 0) 0 (lN 1)) := ⟨_, rfl⟩
          have ja : ∀ r u', r ≠ 66 → J1' r u' = J r u' := fun r u' z => by rw [ej, ms_u_r _ _ _ _ z]
          have ia : ∀ k, k ≠ 0 → Ia 40 0 k = I 40 0 k := fun k z => by rw [ha, ms_u_s, pk_un z, fr_at c7 40 rfl 0]
          have ib : ∀ r u', r ≠ 40 → Ia r u' = I1 r u' := fun r u' z => by rw [ha, ms_u_r _ _ _ _ z]
          obtain ⟨hh, lh, eh⟩ := n2 1 (by omega)
          obtain ⟨I2, r2, v1, v2, v3, v4⟩ := sp_47 (q := q) (I := Ia) (J := J1') (u := u) (m := m) (n := n) (inp := fun k => I 42 0 (4 * u + k)) (nm1 := I 36 u 1) (ky := fun k => I 48 0 (32 * u + k)) (by omega) n8 m56 l0 l2 (by rw [ia 20 (by decide)]; exact hM.2.2.1) (by rw [ia 1 (by decide)]; exact b1) (by rw [ib 47 0 (by decide), fr_at c7 47 rfl 0, n1 1 (by decide)]) (fun k _ => by rw [ib 48 0 (by decide), fr_at c7 48 rfl 0]) (fun k _ => by rw [ib 42 0 (by decide), fr_at c7 42 rfl 0]) (by rw [ja 41 0 (by decide)]; exact z0) (by rw [ja 41 0 (by decide)]; exact z2) (fun v a _ => bit_hi eh lh n8 a)
          have i43 : Ia 43 0 u = nI 2 := by rw [ib 43 0 (by decide), fr_at c7 43 rfl 0, p2, hs2]
          subst hs2
          refine fin _ I1 J Ia I2 J1' 4 r1 cs ha (wl_2 rfl) ?_ v1 v2 v3 (fun u' _ => ⟨by rw [fr_at v4 45 rfl 0], by rw [fr_at v4 46 rfl 0]⟩) (fr_up v4 rfl) ?_ ?_ ?_ (fun _ => ?_) (fun _ => ?_)
          · rw [← ej]
            simp (disch := omega) only [↓mi_49_62, ↓mi_49_63, ↓mi_49_66, ↓mi_49_67, ↓mi_49_68, ↓mi_49_71, ↓mi_49_72, ↓mi_49_73, ↓mi_49_76, ↓mi_49_79, ↓mi_49_80, ↓mi_49_83, ↓mi_49_84, ↓mi_49_85, ↓mi_49_86, ↓mi_49_89, ↓mi_49_90, ↓mi_49_91, ↓mi_49_94, ↓mi_49_97, ↓mi_49_98, ↓mi_49_101, ↓mi_49_102, ↓mi_49_103, ↓mi_49_104, ↓mi_49_107, ↓mi_49_108, ↓mi_49_109, ↓mi_49_112, cond_true, mz_clv, mz_cln, Bool.false_or, Bool.true_or, Bool.or_false, Bool.or_true, if_true, if_false, ite_self, o0_43, i43, na_eq, if_pos, if_neg, r2]
          · rw [← ej]
            exact fr_rf
          · rw [fr_at v4 45 rfl 0, ib 45 0 (by decide), fr_at c7 45 rfl 0, e11, p9]
          · rw [fr_at v4 46 rfl 0, ib 46 0 (by decide), fr_at c7 46 rfl 0, e12, p10]
          · rw [e11, e12]
            exact p11 (by omega)
          · exact hF hg u (by omega) (by omega)
        · have hF3 := hF hg u (by omega) (by omega)
          rw [← ex0, ← ex2] at hF3
          have pz := p11 (by omega)
          obtain ⟨I1, J1, r1, cs, e11, e12, e34, e35⟩ := sp_97_3 (q := q) (J := J) (t := t) (t' := t) (nm1 := I 36 u 1) (nm2 := I 36 u 2) (ky := fun k => I 48 0 (32 * u + k)) (bx := fun k => I 49 0 (64 * u + k)) hs3 (by omega) m56 hZ p1 p3 hM.2.1 l1 y1 rfl rfl k1 k2 (fun v hv => (hF3 v hv).1) (fun v hv => (hF3 v hv).2) pz.1 pz.2
          have c7 := cs.2.2.2.2.2.2.1
          have c10 := cs.2.2.2.2.2.2.2.2.2.1
          obtain ⟨Ia, ha⟩ : ∃ Ia, Ia = ms_u I1 40 0 (upd (I1 40 0) 0 (nI 0)) := ⟨_, rfl⟩
          obtain ⟨J1', ej⟩ : ∃ J1', J1' = ms_u J1 66 0 (vp_updL (J1 66 0) 0 (lN 1)) := ⟨_, rfl⟩
          have ja : J1' 41 0 = J 41 0 := by rw [ej, ms_u_r _ _ _ _ (by decide), fr_at c10 41 rfl 0]
          have ia : ∀ k, k ≠ 0 → Ia 40 0 k = I 40 0 k := fun k z => by rw [ha, ms_u_s, pk_un z, fr_at c7 40 rfl 0]
          have ib : ∀ r u', r ≠ 40 → Ia r u' = I1 r u' := fun r u' z => by rw [ha, ms_u_r _ _ _ _ z]
          obtain ⟨hh, lh, eh⟩ := n2 1 (by omega)
          obtain ⟨I2, J2, r2, v1, v2, v3, v45, v46, v47, v4, v5⟩ := sp_48 (q := q) (I := Ia) (J := J1') (u := u) (m := m) (n := n) (t := t) (nm1 := I 36 u 1) (nm2 := I 36 u 2) (ky := fun k => I 48 0 (32 * u + k)) (bx := fun k => I 49 0 (64 * u + k)) hu n8 (by omega) (t2 hg) m56 l0 l1 l2 (n3 (by omega)) (by rw [ia 20 (by decide)]; exact hM.2.2.1) (by rw [ia 1 (by decide)]; exact b1) (by rw [ia 2 (by decide)]; exact b2) (by rw [ib 47 0 (by decide), fr_at c7 47 rfl 0, n1 1 (by decide)]) (by rw [ib 47 0 (by decide), fr_at c7 47 rfl 0, n1 2 (by decide)]) (fun k _ => by rw [ib 48 0 (by decide), fr_at c7 48 rfl 0]) (fun k _ => by rw [ib 49 0 (by decide), fr_at c7 49 rfl 0]) (by rw [ja]; exact z0) (by rw [ja]; exact z1) (by rw [ja]; exact z2) (by rw [ib 45 0 (by decide), fr_at c7 45 rfl 0, ← p9]; exact pz.1) (by rw [ib 46 0 (by decide), fr_at c7 46 rfl 0, ← p10]; exact pz.2) (fun v a _ => bit_hi eh lh n8 a)
          have i43 : Ia 43 0 u = nI 3 := by rw [ib 43 0 (by decide), fr_at c7 43 rfl 0, p2, hs3]
          subst hs3
          refine fin _ I1 J1 Ia I2 J2 17 r1 cs ha (wl_3 rfl) ?_ v1 v2 v3 v47 v4 ?_ ?_ ?_ (fun z => by omega) (fun _ => ?_)
          · rw [← ej]
            simp (disch := omega) only [↓mi_49_62, ↓mi_49_63, ↓mi_49_66, ↓mi_49_67, ↓mi_49_68, ↓mi_49_71, ↓mi_49_72, ↓mi_49_73, ↓mi_49_76, ↓mi_49_79, ↓mi_49_80, ↓mi_49_83, ↓mi_49_84, ↓mi_49_85, ↓mi_49_86, ↓mi_49_89, ↓mi_49_90, ↓mi_49_91, ↓mi_49_94, ↓mi_49_97, ↓mi_49_98, ↓mi_49_101, ↓mi_49_102, ↓mi_49_103, ↓mi_49_104, ↓mi_49_107, ↓mi_49_108, ↓mi_49_109, ↓mi_49_112, ↓mi_49_115, ↓mi_49_116, ↓mi_49_117, cond_true, mz_clv, mz_cln, Bool.false_or, Bool.true_or, Bool.or_false, Bool.or_true, if_true, if_false, ite_self, o0_43, i43, na_eq, if_neg, r2]
          · rw [← ej]
            exact v5
          · rw [v45, e11]
          · rw [v46, e12]
          · intro v hv
            rw [e34, e35, ← ex0, ← ex2]
            exact hF3 v hv
      · have hne : S u ≠ T u ∨ 4 ≤ S u := by omega
        have r1 := sp_97n (q := q) (I := I) (J := J) (t := nI t) (show u < 8 by omega) p6 (show T u ≤ 4 by omega) p1 p3 hne
        have w1 := wr_136v (sp_4d (b := false) n8 a0 hu hg a2 a1 r1)
        rw [if_neg Bool.false_ne_true] at w1
        have w2 := sp_49n (q := q) (I := I) (J := ms_u J 66 0 (vp_updL (J 66 0) 0 (lN 0))) n8 b1 hu hg b3 p2 p4 p6 p5 hne
        refine ⟨q, 0, false, true, true, _, _, _, _, w1, w2, by rw [ms_u_s, pk_us], by decide, fun _ => ?_, rfl, by omega, hiv.1, iv_code (iv_out hiv _) _⟩
        rw [ms_u_s, pk_uLs, if_neg Bool.false_ne_true]
    · refine ⟨(q.1, q.2 + 1), 2, false, true, true, I, J, ms_u I 40 0 (upd (I 40 0) 0 (nI 2)), J, wr_136b (sp_4c n8 a0 hx (by omega) g5 a2), sp_49c n8 b1 hx (by omega) g5 b3, by rw [ms_u_s, pk_us], by decide, fun z => absurd z (by decide), rfl, Nat.le_refl _, hiv.1, iv_code hiv _⟩
end LStep
