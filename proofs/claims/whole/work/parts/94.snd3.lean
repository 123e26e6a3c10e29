/-! A PHONE'S STEP. -/
def ms_cs (I I' : ms_i) (J J' : ms_j) (u s m : Nat) (W : Nat → Int32) : Prop := (∀ i, i < ms_wl (7 * u + s) → I' 18 (7 * u + s) i = W i) ∧ I' 14 0 2 = nI (m + 1) ∧ I' 16 0 m = nI (7 * u + s) ∧ (∀ k, k < m → I' 16 0 k = I 16 0 k) ∧ I' 31 u 9 = nI (s + 1) ∧ I' 31 u 10 = I 31 u 10 ∧ ms_fq [6, 7, 12, 13, 14, 16, 18, 31, 39] I I' ∧ (∀ p, p ≠ 7 * u + s → I' 18 p = I 18 p) ∧ (∀ u', u' ≠ u → I' 31 u' = I 31 u') ∧ ms_fq [9, 10, 11, 34, 35] J J' ∧ (∀ u', u' ≠ u → J' 34 u' = J 34 u' ∧ J' 35 u' = J 35 u') ∧ ms_Z6 I'
theorem cs_mk {I I1 I2 : ms_i} {J J' : ms_j} {u s m : Nat} {W : Nat → Int32} (e1 : I1 = ms_u (ms_u I 16 0 (upd (I 16 0) m (nI (7 * u + s)))) 14 0 (upd (I 14 0) 2 (nI (m + 1)))) (hW : ∀ i, i < ms_wl (7 * u + s) → I2 18 (7 * u + s) i = W i) (hf : ms_f3 I1 I2 (7 * u + s) u) (h31 : ∀ k, k ≠ 11 → k ≠ 12 → I2 31 u k = I1 31 u k) (hz : ms_Z6 I2) (hJ : ms_fq [9, 10, 11, 34, 35] J J') (hJ2 : ∀ u', u' ≠ u → J' 34 u' = J 34 u' ∧ J' 35 u' = J 35 u') : ms_cs I (ms_u I2 31 u (upd (I2 31 u) 9 (nI (s + 1)))) J J' u s m W := by
  have g1 : ∀ r u', r ≠ 14 → r ≠ 16 → I1 r u' = I r u' := fun r u' a b => by rw [e1, ms_u_r _ _ _ _ a, ms_u_r _ _ _ _ b]
  refine ⟨?_, ?_, ?_, ?_, ?_, ?_, ?_, ?_, ?_, hJ, hJ2, ?_⟩
  · intro i hi
    rw [ms_u_r _ _ _ _ (by decide)]
    exact hW i hi
  · rw [ms_u_r _ _ _ _ (by decide), hf 14 0 (by decide) (by decide) (by decide) (by decide) (Or.inl (by decide)) (Or.inl (by decide)) (Or.inl (by decide)), e1, ms_u_s, pk_us]
  · rw [ms_u_r _ _ _ _ (by decide), hf 16 0 (by decide) (by decide) (by decide) (by decide) (Or.inl (by decide)) (Or.inl (by decide)) (Or.inl (by decide)), e1, ms_u_r _ _ _ _ (by decide), ms_u_s, pk_us]
  · intro k hk
    rw [ms_u_r _ _ _ _ (by decide), hf 16 0 (by decide) (by decide) (by decide) (by decide) (Or.inl (by decide)) (Or.inl (by decide)) (Or.inl (by decide)), e1, ms_u_r _ _ _ _ (by decide), ms_u_s, pk_un (by omega)]
  · rw [ms_u_s, pk_us]
  · rw [ms_u_s, pk_un (by decide), h31 10 (by decide) (by decide), g1 31 u (by decide) (by decide)]
  · intro r hr
    funext u'
    simp only [List.mem_cons, List.not_mem_nil, or_false, not_or] at hr
    rw [ms_u_r _ _ _ _ (by omega), hf r u' (by omega) (by omega) (by omega) (by omega) (Or.inl (by omega)) (Or.inl (by omega)) (Or.inl (by omega)), g1 r u' (by omega) (by omega)]
  · intro p hp
    rw [ms_u_r _ _ _ _ (by decide), hf 18 p (by decide) (by decide) (by decide) (by decide) (Or.inr hp) (Or.inl (by decide)) (Or.inl (by decide)), g1 18 p (by decide) (by decide)]
  · intro u' hu'
    rw [ms_u_i _ _ _ _ hu', hf 31 u' (by decide) (by decide) (by decide) (by decide) (Or.inl (by decide)) (Or.inr hu') (Or.inl (by decide)), g1 31 u' (by decide) (by decide)]
  · intro k k1 k2
    rw [ms_u_r _ _ _ _ (by decide)]
    exact hz k k1 k2
theorem fX_f3 {I I' : ms_i} {p u : Nat} (h : ms_fX I I' 18 p) : ms_f3 I I' p u := fun r' u' a b c d n1 _ _ => h r' u' a b c d n1
theorem fJ_fr {J J' : ms_j} (h : ms_fJ J J') : ms_fq [9, 10, 11, 34, 35] J J' := fun r hr => by
  funext u'
  simp only [List.mem_cons, List.not_mem_nil, or_false, not_or] at hr
  exact h r u' (by omega) (by omega) (by omega)
section Snd3
variable {q : Nat × Nat} {w : Bool} {I : ms_i} {J : ms_j} {σ : ms_M}
theorem sp_97n {u s T : Nat} {t : Int32} (hu : u < 8) (hs : s ≤ 4) (hT : T ≤ 4) (h9 : I 31 u 9 = nI s) (h10 : I 31 u 10 = nI T) (hn : s ≠ T ∨ 4 ≤ s) : ms_G 97 0 [.ref (ms_ad 31 u), .ref (ms_ad 14 0), .ref (ms_ad 4 0), .int t, .null] [] (ms_Z q false I J) = some (.inl (some (.int (nI 0))), ms_Z q false I J) := by
  by_cases h : s = T
  · simp (disch := omega) only [↓mi_97_0, ↓mi_97_1, ↓mi_97_4, ↓mi_97_5, ↓mi_97_8, ↓mi_97_11, ↓mi_97_12, ↓mi_97_15, ↓mi_97_16, ↓mi_97_19, ↓mi_97_20, ↓mi_97_20_1, ↓mi_97_20_b, h9, h10, na_eq, na_lt, if_pos, if_neg]
  · simp (disch := omega) only [↓mi_97_0, ↓mi_97_1, ↓mi_97_4, ↓mi_97_5, ↓mi_97_8, ↓mi_97_11, ↓mi_97_12, ↓mi_97_15, ↓mi_97_16, ↓mi_97_19, ↓mi_97_20, ↓mi_97_20_1, ↓mi_97_20_b, h9, h10, na_eq, if_neg]
theorem sp_97_0 {u s m t x0 x1 : Nat} (hs : s = 0) (hu : u < 8) (hm : m < 56) (hz : ms_Z6 I) (h9 : I 31 u 9 = nI s) (h10 : I 31 u 10 = nI s) (hS : I 14 0 2 = nI m) (l0 : x0 < 2305843009213693951) (l1 : x1 < 2305843009213693951) (hA : J 32 u 0 = lN x0) (hB : J 32 u 1 = lN x1) : ∃ I', ms_G 97 0 [.ref (ms_ad 31 u), .ref (ms_ad 14 0), .ref (ms_ad 4 0), .int (nI t), .null] [] (ms_Z q false I J) = some (.inl (some (.int (nI 1))), ms_Z q true I' J) ∧ ms_cs I I' J J u s m (ms_t2 (ms_pw 37 x0) (ms_pw 37 x1)) ∧ I' 31 u 11 = I 31 u 11 ∧ I' 31 u 12 = I 31 u 12 := by
  have h39 : ∀ L S σ, ms_G 97 39 L (.int (nI s) :: S) σ = ms_G 97 64 L S σ := fun L S σ => by rw [hs]; exact mi_97_39_c0
  have p1 := sp_79 (q := q) (J := J) (u := u) (s := s) hm hu (by omega) hS
  obtain ⟨I1, e1⟩ : ∃ I1, I1 = ms_u (ms_u I 16 0 (upd (I 16 0) m (nI (7 * u + s)))) 14 0 (upd (I 14 0) 2 (nI (m + 1))) := ⟨_, rfl⟩
  rw [← e1] at p1
  have g1 : ∀ r u', r ≠ 14 → r ≠ 16 → I1 r u' = I r u' := fun r u' a b => by rw [e1, ms_u_r _ _ _ _ a, ms_u_r _ _ _ _ b]
  have h9' : I1 31 u 9 = nI s := by rw [g1 31 u (by decide) (by decide)]; exact h9
  have hl := wl_0 (u := u) hs
  obtain ⟨I2, r2, w2, f2⟩ := sp_98 (q := q) (I := I1) (J := J) (p := 7 * u + s) hu (by omega) hl l0 l1 hA hB
  have h9'' : I2 31 u 9 = nI s := by rw [f2 31 u (Or.inl (by decide))]; exact h9'
  refine ⟨ms_u I2 31 u (upd (I2 31 u) 9 (nI (s + 1))), ?_, cs_mk e1 (fun i hi => w2 i (by omega)) (fun r' u' _ _ _ _ n1 _ _ => f2 r' u' n1) (fun k _ _ => by rw [f2 31 u (Or.inl (by decide))]) (fun k k1 k2 => by rw [f2 6 0 (Or.inl (by decide)), g1 6 0 (by decide) (by decide)]; exact hz k k1 k2) fr_rf (fun _ _ => ⟨rfl, rfl⟩), ?_, ?_⟩
  · simp (disch := omega) only [↓mi_97_0, ↓mi_97_1, ↓mi_97_4, ↓mi_97_5, ↓mi_97_8, ↓mi_97_11, ↓mi_97_12, ↓mi_97_15, ↓mi_97_16, ↓mi_97_19, ↓mi_97_20, ↓mi_97_20_1, ↓mi_97_20_b, ↓mi_97_21, ↓mi_97_22, ↓mi_97_23, ↓mi_97_26, ↓mi_97_27, ↓mi_97_30, ↓mi_97_33, ↓mi_97_35, ↓mi_97_36, ↓mi_97_64, ↓mi_97_65, ↓mi_97_67, ↓mi_97_70, ↓mi_97_106, ↓mi_97_107, ↓mi_97_108, ↓mi_97_111, ↓mi_97_112, ↓mi_97_113, ↓mi_97_116, ↓mi_97_117, ↓mi_97_117_1, ↓mi_97_117_b, cond_true, mz_clv, mz_cln, Bool.false_or, Bool.true_or, Bool.or_false, Bool.or_true, if_true, if_false, ite_self, h9, h10, na_eq, na_lt, na_up, if_pos, sv_3, p1, h9', h39, r2, h9'']
  · rw [ms_u_s, pk_un (by decide), f2 31 u (Or.inl (by decide)), g1 31 u (by decide) (by decide)]
  · rw [ms_u_s, pk_un (by decide), f2 31 u (Or.inl (by decide)), g1 31 u (by decide) (by decide)]
theorem sp_97_1 {u s m t x0 x1 x2 : Nat} {nm0 : Int32} {ky : Nat → Int32} (hs : s = 1) (hu : u < 8) (hm : m < 56) (ht : t ≤ 8) (ht1 : 1 ≤ t) (hz : ms_Z6 I) (h9 : I 31 u 9 = nI s) (h10 : I 31 u 10 = nI s) (hS : I 14 0 2 = nI m) (l0 : x0 < 2305843009213693951) (l1 : x1 < 2305843009213693951) (l2 : x2 < 2305843009213693951) (hA : J 32 u 0 = lN x0) (hB : J 32 u 1 = lN x1) (hC : J 32 u 2 = lN x2) (hN : I 36 u 0 = nm0) (hK : ∀ k, k < 32 → I 37 u (1 + k) = ky k) : ∃ I' J', ms_G 97 0 [.ref (ms_ad 31 u), .ref (ms_ad 14 0), .ref (ms_ad 4 0), .int (nI t), .null] [] (ms_Z q false I J) = some (.inl (some (.int (nI 1))), ms_Z q true I' J') ∧ ms_cs I I' J J' u s m (fun i => ms_wb1 u t x0 x1 x2 nm0 ky (i / 8) (i % 8)) ∧ I' 31 u 11 = I 31 u 11 ∧ I' 31 u 12 = I 31 u 12 ∧ (∀ v, v < 8 → J' 34 u v = lN (ms_sh x2 (ms_cf x2 1 u) (v + 1) t) ∧ J' 35 u v = lN (ms_sh x0 (ms_cf x2 0 u) (v + 1) t)) := by
  have h39 : ∀ L S σ, ms_G 97 39 L (.int (nI s) :: S) σ = ms_G 97 73 L S σ := fun L S σ => by rw [hs]; exact mi_97_39_c1
  have p1 := sp_79 (q := q) (J := J) (u := u) (s := s) hm hu (by omega) hS
  obtain ⟨I1, e1⟩ : ∃ I1, I1 = ms_u (ms_u I 16 0 (upd (I 16 0) m (nI (7 * u + s)))) 14 0 (upd (I 14 0) 2 (nI (m + 1))) := ⟨_, rfl⟩
  rw [← e1] at p1
  have g1 : ∀ r u', r ≠ 14 → r ≠ 16 → I1 r u' = I r u' := fun r u' a b => by rw [e1, ms_u_r _ _ _ _ a, ms_u_r _ _ _ _ b]
  have h9' : I1 31 u 9 = nI s := by rw [g1 31 u (by decide) (by decide)]; exact h9
  have hl := wl_1 (u := u) hs
  obtain ⟨I2, r2, f2, z2⟩ := sp_99 (q := q) (I := I1) (J := J) (u := u) (t := t) (a := x0) (seed := x2) (fun k k1 k2 => by rw [g1 6 0 (by decide) (by decide)]; exact hz k k1 k2) hu ht ht1 l0 l2 hA hC
  obtain ⟨J2, eJ2⟩ : ∃ J2, J2 = ms_u (ms_u J 35 u (ms_rw 8 (fun v => ms_sh x0 (ms_cf x2 0 u) (v + 1) t) (J 35 u))) 34 u (ms_rw 8 (fun v => ms_sh x2 (ms_cf x2 1 u) (v + 1) t) (J 34 u)) := ⟨_, rfl⟩
  rw [← eJ2] at r2
  have j2 : ∀ r u', r ≠ 34 → r ≠ 35 → J2 r u' = J r u' := fun r u' a b => by rw [eJ2, ms_u_r _ _ _ _ a, ms_u_r _ _ _ _ b]
  have j34 : ∀ v, v < 8 → J2 34 u v = lN (ms_sh x2 (ms_cf x2 1 u) (v + 1) t) := fun v hv => by rw [eJ2, ms_u_s]; exact if_pos hv
  have j35 : ∀ v, v < 8 → J2 35 u v = lN (ms_sh x0 (ms_cf x2 0 u) (v + 1) t) := fun v hv => by rw [eJ2, ms_u_r _ _ _ _ (by decide), ms_u_s]; exact if_pos hv
  have k2 : ∀ r u', r ≠ 14 → r ≠ 16 → r ≠ 6 → r ≠ 7 → r ≠ 12 → r ≠ 13 → I2 r u' = I r u' := fun r u' a b c d e f => by rw [f2 r u' c d e f, g1 r u' a b]
  obtain ⟨I3, J3, r3, w3, f3, j3, z3⟩ := sp_100 (q := q) (I := I2) (J := J2) (p := 7 * u + s) (t := t) (x0 := x0) (x2 := x2) (nm0 := nm0) (ky := ky) hu (by omega) hl l1 z2 (by rw [j2 32 u (by decide) (by decide)]; exact hB) (by rw [k2 36 u (by decide) (by decide) (by decide) (by decide) (by decide) (by decide)]; exact hN) (by rw [k2 37 u (by decide) (by decide) (by decide) (by decide) (by decide) (by decide)]; exact hK) j34 j35
  have h9'' : I3 31 u 9 = nI s := by rw [f3 31 u (by decide) (by decide) (by decide) (by decide) (Or.inl (by decide)), k2 31 u (by decide) (by decide) (by decide) (by decide) (by decide) (by decide)]; exact h9
  have x31 : I3 31 u = I1 31 u := by rw [f3 31 u (by decide) (by decide) (by decide) (by decide) (Or.inl (by decide)), f2 31 u (by decide) (by decide) (by decide) (by decide)]
  refine ⟨ms_u I3 31 u (upd (I3 31 u) 9 (nI (s + 1))), J3, ?_, cs_mk e1 (fun i hi => ?_) (fun r' u' a b c d n1 _ _ => ?_) (fun k _ _ => by rw [x31]) z3 ?_ ?_, ?_, ?_, ?_⟩
  · simp (disch := omega) only [↓mi_97_0, ↓mi_97_1, ↓mi_97_4, ↓mi_97_5, ↓mi_97_8, ↓mi_97_11, ↓mi_97_12, ↓mi_97_15, ↓mi_97_16, ↓mi_97_19, ↓mi_97_20, ↓mi_97_20_1, ↓mi_97_20_b, ↓mi_97_21, ↓mi_97_22, ↓mi_97_23, ↓mi_97_26, ↓mi_97_27, ↓mi_97_30, ↓mi_97_33, ↓mi_97_35, ↓mi_97_36, ↓mi_97_73, ↓mi_97_74, ↓mi_97_75, ↓mi_97_76, ↓mi_97_79, ↓mi_97_80, ↓mi_97_82, ↓mi_97_83, ↓mi_97_86, ↓mi_97_106, ↓mi_97_107, ↓mi_97_108, ↓mi_97_111, ↓mi_97_112, ↓mi_97_113, ↓mi_97_116, ↓mi_97_117, ↓mi_97_117_1, ↓mi_97_117_b, cond_true, mz_clv, mz_cln, Bool.false_or, Bool.true_or, Bool.or_false, Bool.or_true, if_true, if_false, ite_self, h9, h10, na_eq, na_lt, na_up, if_pos, sv_3, p1, h9', h39, r2, r3, h9'']
  · have := w3 (i / 8) (by omega) (i % 8) (by omega)
    rw [show 8 * (i / 8) + i % 8 = i by omega] at this
    exact this
  · rw [f3 r' u' a b c d n1, f2 r' u' a b c d]
  · intro r hr
    funext u'
    simp only [List.mem_cons, List.not_mem_nil, or_false, not_or] at hr
    rw [j3 r u' (by omega) (by omega) (by omega), j2 r u' (by omega) (by omega)]
  · intro u' hu'
    refine ⟨?_, ?_⟩
    · rw [j3 34 u' (by decide) (by decide) (by decide), eJ2, ms_u_i _ _ _ _ hu', ms_u_r _ _ _ _ (by decide)]
    · rw [j3 35 u' (by decide) (by decide) (by decide), eJ2, ms_u_r _ _ _ _ (by decide), ms_u_i _ _ _ _ hu']
  · rw [ms_u_s, pk_un (by decide), x31, g1 31 u (by decide) (by decide)]
  · rw [ms_u_s, pk_un (by decide), x31, g1 31 u (by decide) (by decide)]
  · intro v hv
    rw [j3 34 u (by decide) (by decide) (by decide), j3 35 u (by decide) (by decide) (by decide)]
    exact ⟨j34 v hv, j35 v hv⟩
theorem sp_97_2 {u s m t x0 x2 : Nat} {inp : Nat → Int32} {nm1 : Int32} {ky : Nat → Int32} (hs : s = 2) (hu : u < 8) (hm : m < 56) (hz : ms_Z6 I) (h9 : I 31 u 9 = nI s) (h10 : I 31 u 10 = nI s) (hS : I 14 0 2 = nI m) (l0 : x0 < 2305843009213693951) (l2 : x2 < 2305843009213693951) (hA : J 32 u 0 = lN x0) (hC : J 32 u 2 = lN x2) (hI : ∀ k, k < 4 → I 33 u k = inp k) (hN : I 36 u 1 = nm1) (hK : ∀ k, k < 32 → I 37 u (1 + k) = ky k) : ∃ I', ms_G 97 0 [.ref (ms_ad 31 u), .ref (ms_ad 14 0), .ref (ms_ad 4 0), .int (nI t), .null] [] (ms_Z q false I J) = some (.inl (some (.int (nI 1))), ms_Z q true I' J) ∧ ms_cs I I' J J u s m (fun k => ms_w2 u x0 x2 inp nm1 ky k 8) ∧ I' 31 u 11 = I 31 u 11 ∧ I' 31 u 12 = I 31 u 12 := by
  have h39 : ∀ L S σ, ms_G 97 39 L (.int (nI s) :: S) σ = ms_G 97 89 L S σ := fun L S σ => by rw [hs]; exact mi_97_39_c2
  have p1 := sp_79 (q := q) (J := J) (u := u) (s := s) hm hu (by omega) hS
  obtain ⟨I1, e1⟩ : ∃ I1, I1 = ms_u (ms_u I 16 0 (upd (I 16 0) m (nI (7 * u + s)))) 14 0 (upd (I 14 0) 2 (nI (m + 1))) := ⟨_, rfl⟩
  rw [← e1] at p1
  have g1 : ∀ r u', r ≠ 14 → r ≠ 16 → I1 r u' = I r u' := fun r u' a b => by rw [e1, ms_u_r _ _ _ _ a, ms_u_r _ _ _ _ b]
  have h9' : I1 31 u 9 = nI s := by rw [g1 31 u (by decide) (by decide)]; exact h9
  have hl := wl_2 (u := u) hs
  obtain ⟨I2, r2, w2, f2, z2⟩ := sp_101 (q := q) (I := I1) (J := J) (p := 7 * u + s) (inp := inp) (nm1 := nm1) (ky := ky) hu (by omega) hl l0 l2 (fun k k1 k2 => by rw [g1 6 0 (by decide) (by decide)]; exact hz k k1 k2) hA hC (by rw [g1 33 u (by decide) (by decide)]; exact hI) (by rw [g1 36 u (by decide) (by decide)]; exact hN) (by rw [g1 37 u (by decide) (by decide)]; exact hK)
  have x31 : I2 31 u = I1 31 u := f2 31 u (by decide) (by decide) (by decide) (by decide) (Or.inl (by decide))
  have h9'' : I2 31 u 9 = nI s := by rw [x31]; exact h9'
  refine ⟨ms_u I2 31 u (upd (I2 31 u) 9 (nI (s + 1))), ?_, cs_mk e1 (fun i hi => w2 i (by omega)) (fX_f3 f2) (fun k _ _ => by rw [x31]) z2 fr_rf (fun _ _ => ⟨rfl, rfl⟩), ?_, ?_⟩
  · simp (disch := omega) only [↓mi_97_0, ↓mi_97_1, ↓mi_97_4, ↓mi_97_5, ↓mi_97_8, ↓mi_97_11, ↓mi_97_12, ↓mi_97_15, ↓mi_97_16, ↓mi_97_19, ↓mi_97_20, ↓mi_97_20_1, ↓mi_97_20_b, ↓mi_97_21, ↓mi_97_22, ↓mi_97_23, ↓mi_97_26, ↓mi_97_27, ↓mi_97_30, ↓mi_97_33, ↓mi_97_35, ↓mi_97_36, ↓mi_97_89, ↓mi_97_90, ↓mi_97_92, ↓mi_97_93, ↓mi_97_96, ↓mi_97_106, ↓mi_97_107, ↓mi_97_108, ↓mi_97_111, ↓mi_97_112, ↓mi_97_113, ↓mi_97_116, ↓mi_97_117, ↓mi_97_117_1, ↓mi_97_117_b, cond_true, mz_clv, mz_cln, Bool.false_or, Bool.true_or, Bool.or_false, Bool.or_true, if_true, if_false, ite_self, h9, h10, na_eq, na_lt, na_up, if_pos, sv_3, p1, h9', h39, r2, h9'']
  · rw [ms_u_s, pk_un (by decide), x31, g1 31 u (by decide) (by decide)]
  · rw [ms_u_s, pk_un (by decide), x31, g1 31 u (by decide) (by decide)]
theorem sp_97_3 {u s m t t' x0 x1 x2 : Nat} {nm1 nm2 : Int32} {ky bx : Nat → Int32} (hs : s = 3) (hu : u < 8) (hm : m < 56) (hz : ms_Z6 I) (h9 : I 31 u 9 = nI s) (h10 : I 31 u 10 = nI s) (hS : I 14 0 2 = nI m) (l1 : x1 < 2305843009213693951) (hB : J 32 u 1 = lN x1) (hN1 : I 36 u 1 = nm1) (hN2 : I 36 u 2 = nm2) (hK : ∀ k, k < 32 → I 37 u (1 + k) = ky k) (hX : ∀ k, k < 64 → I 38 u (1 + k) = bx k) (hS34 : ∀ v, v < 8 → J 34 u v = lN (ms_sh x2 (ms_cf x2 1 u) (v + 1) t)) (hS35 : ∀ v, v < 8 → J 35 u v = lN (ms_sh x0 (ms_cf x2 0 u) (v + 1) t)) (hA : I 31 u 11 = nI 0) (hBB : I 31 u 12 = nI 0) : ∃ I' J', ms_G 97 0 [.ref (ms_ad 31 u), .ref (ms_ad 14 0), .ref (ms_ad 4 0), .int (nI t'), .null] [] (ms_Z q false I J) = some (.inl (some (.int (nI 1))), ms_Z q true I' J') ∧ ms_cs I I' J J' u s m (fun i => if i = 0 then nI (ms_gs (ms_gv u x1 nm1 ky bx) 8) else ms_w3 u t x0 x1 x2 nm1 nm2 ky bx ((i - 1) / 2) ((i - 1) % 2)) ∧ I' 31 u 11 = nI (ms_gs (fun v => ms_gv u x1 nm1 ky bx v && ms_bit nm2 v) 8) ∧ I' 31 u 12 = nI (ms_gs (fun v => ms_gv u x1 nm1 ky bx v && !ms_bit nm2 v) 8) ∧ J' 34 u = J 34 u ∧ J' 35 u = J 35 u := by
  have h39 : ∀ L S σ, ms_G 97 39 L (.int (nI s) :: S) σ = ms_G 97 99 L S σ := fun L S σ => by rw [hs]; exact mi_97_39_d (by decide)
  have p1 := sp_79 (q := q) (J := J) (u := u) (s := s) hm hu (by omega) hS
  obtain ⟨I1, e1⟩ : ∃ I1, I1 = ms_u (ms_u I 16 0 (upd (I 16 0) m (nI (7 * u + s)))) 14 0 (upd (I 14 0) 2 (nI (m + 1))) := ⟨_, rfl⟩
  rw [← e1] at p1
  have g1 : ∀ r u', r ≠ 14 → r ≠ 16 → I1 r u' = I r u' := fun r u' a b => by rw [e1, ms_u_r _ _ _ _ a, ms_u_r _ _ _ _ b]
  have h9' : I1 31 u 9 = nI s := by rw [g1 31 u (by decide) (by decide)]; exact h9
  have hl := wl_3 (u := u) hs
  obtain ⟨I2, J2, r2, w2, p2, a2, b2, c2, f2, j2, z2⟩ := sp_102 (q := q) (I := I1) (J := J) (p := 7 * u + s) (t := t) (x0 := x0) (x2 := x2) (nm1 := nm1) (nm2 := nm2) (ky := ky) (bx := bx) hu (by omega) hl l1 (fun k k1 k2 => by rw [g1 6 0 (by decide) (by decide)]; exact hz k k1 k2) hB (by rw [g1 36 u (by decide) (by decide)]; exact hN1) (by rw [g1 36 u (by decide) (by decide)]; exact hN2) (by rw [g1 37 u (by decide) (by decide)]; exact hK) (by rw [g1 38 u (by decide) (by decide)]; exact hX) hS34 hS35 (by rw [g1 31 u (by decide) (by decide)]; exact hA) (by rw [g1 31 u (by decide) (by decide)]; exact hBB)
  have h9'' : I2 31 u 9 = nI s := by rw [c2 9 (by decide) (by decide)]; exact h9'
  refine ⟨ms_u I2 31 u (upd (I2 31 u) 9 (nI (s + 1))), J2, ?_, cs_mk e1 (fun i hi => ?_) f2 c2 z2 (fJ_fr j2) (fun u' _ => ⟨j2 34 u' (by decide) (by decide) (by decide), j2 35 u' (by decide) (by decide) (by decide)⟩), ?_, ?_, j2 34 u (by decide) (by decide) (by decide), j2 35 u (by decide) (by decide) (by decide)⟩
  · simp (disch := omega) only [↓mi_97_0, ↓mi_97_1, ↓mi_97_4, ↓mi_97_5, ↓mi_97_8, ↓mi_97_11, ↓mi_97_12, ↓mi_97_15, ↓mi_97_16, ↓mi_97_19, ↓mi_97_20, ↓mi_97_20_1, ↓mi_97_20_b, ↓mi_97_21, ↓mi_97_22, ↓mi_97_23, ↓mi_97_26, ↓mi_97_27, ↓mi_97_30, ↓mi_97_33, ↓mi_97_35, ↓mi_97_36, ↓mi_97_99, ↓mi_97_100, ↓mi_97_102, ↓mi_97_103, ↓mi_97_106, ↓mi_97_107, ↓mi_97_108, ↓mi_97_111, ↓mi_97_112, ↓mi_97_113, ↓mi_97_116, ↓mi_97_117, ↓mi_97_117_1, ↓mi_97_117_b, cond_true, mz_clv, mz_cln, Bool.false_or, Bool.true_or, Bool.or_false, Bool.or_true, if_true, if_false, ite_self, h9, h10, na_eq, na_lt, na_up, if_pos, sv_3, p1, h9', h39, r2, h9'']
  · by_cases h0 : i = 0
    · subst h0
      rw [if_pos rfl]
      exact p2
    · rw [if_neg h0]
      have := w2 ((i - 1) / 2) (by omega) ((i - 1) % 2) (by omega)
      rw [show 1 + 2 * ((i - 1) / 2) + (i - 1) % 2 = i by omega] at this
      exact this
  · rw [ms_u_s, pk_un (by decide)]
    exact a2
  · rw [ms_u_s, pk_un (by decide)]
    exact b2
end Snd3
