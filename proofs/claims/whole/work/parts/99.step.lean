/-! STEP, on both sides. -/
theorem svs_0 {u s : Nat} (hs : s < 4) : ms_sv 0 (7 * u + s) = s := by
  unfold ms_sv
  rw [if_pos rfl, show (7 * u + s) % 7 = s by omega, if_pos hs]
theorem svs_1 {u s : Nat} (hs : s < 7) : ms_sv 1 (7 * u + s) = u := by
  unfold ms_sv
  rw [if_neg (by decide), if_pos rfl]
  omega
theorem svs_2 {u s : Nat} (hs : s < 4) : ms_sv 2 (7 * u + s) = 0 := by
  unfold ms_sv
  rw [if_neg (by decide), if_neg (by decide), if_pos rfl, show (7 * u + s) % 7 = s by omega, if_pos hs]
theorem sva_0 {u s : Nat} (hs : s < 3) : ms_sv 0 (7 * u + 4 + s) = s := by
  unfold ms_sv
  rw [if_pos rfl, show (7 * u + 4 + s) % 7 = 4 + s by omega, if_neg (by omega)]
  omega
theorem sva_1 {u s : Nat} (hs : s < 3) : ms_sv 1 (7 * u + 4 + s) = u := by
  unfold ms_sv
  rw [if_neg (by decide), if_pos rfl]
  omega
theorem sva_2 {u s : Nat} (hs : s < 3) : ms_sv 2 (7 * u + 4 + s) = 1 := by
  unfold ms_sv
  rw [if_neg (by decide), if_neg (by decide), if_pos rfl, show (7 * u + 4 + s) % 7 = 4 + s by omega, if_neg (by omega)]
def ms_sN (S : Nat → Nat) (u x : Nat) : Nat → Nat := fun v => if v = u then x else S v
theorem sN_s (S : Nat → Nat) (u x : Nat) : ms_sN S u x u = x := if_pos rfl
theorem sN_n {S : Nat → Nat} {u x v : Nat} (h : v ≠ u) : ms_sN S u x v = S v := if_neg h
/-- what the model's sending leaves -/
def ms_md (I I' : ms_i) (J J' : ms_j) (u s m : Nat) (W : Nat → Int32) : Prop := (∀ i, i < ms_wl (7 * u + s) → I' 56 0 (70 * m + 4 + i) = W i) ∧ (∀ i, i < 70 * m + 4 → I' 56 0 i = ms_po m s u 0 (ms_wl (7 * u + s)) (I 56 0) i) ∧ I' 40 0 = upd (upd (I 40 0) 0 (nI 0)) 20 (nI (m + 1)) ∧ I' 43 0 = upd (I 43 0) u (nI (s + 1)) ∧ (∀ u', u' ≠ u → I' 45 0 u' = I 45 0 u' ∧ I' 46 0 u' = I 46 0 u') ∧ ms_fq [40, 43, 45, 46, 56, 58, 59, 63, 64] I I' ∧ ms_fq [60, 61, 62, 65] J J'
theorem iv_step {n t g : Nat} {nm : Nat → Nat} {hd : Nat} {S T : Nat → Nat} {X : Nat → Nat → Nat} {m u s : Nat} {Q : Nat → Nat} {I I1 I2 : ms_i} {J J1 J1' J2 : ms_j} {W : Nat → Int32} (h : ms_inv n t g nm hd S T X m Q I J) (hu : u < n) (hs : s < 4) (eS : S u = s) (eT : T u = s) (c : ms_cs I I1 J J1 u s m W) (jo : ms_fq [66] J1 J1') (d : ms_md I1 I2 J1' J2 u s m W) (h45 : I2 45 0 u = I1 31 u 11) (h46 : I2 46 0 u = I1 31 u 12) (hz : s + 1 ≤ 3 → I1 31 u 11 = nI 0 ∧ I1 31 u 12 = nI 0) (hF' : g < 4 → 1 ≤ s → ∀ v, v < 8 → J1 34 u v = lN (ms_sh (X u 2) (ms_cf (X u 2) 1 u) (v + 1) t) ∧ J1 35 u v = lN (ms_sh (X u 0) (ms_cf (X u 2) 0 u) (v + 1) t)) : ms_inv n t g nm hd (ms_sN S u (s + 1)) T X (m + 1) (fun k => if k = m then 7 * u + s else Q k) I2 J2 := by
  obtain ⟨hA, hS, hH, hP, hX, hI, hN, hK, hF, hR, hM, _⟩ := h
  obtain ⟨c1, c2, c3, c4, c5, c6, c7, c8, c9, c10, c11, c12⟩ := c
  obtain ⟨d1, d2, d3, d4, d5, d6, d7⟩ := d
  have n8 : n ≤ 8 := hA.2.2.2.2.2.2.2.2.1
  have jj : ms_fq [60, 61, 62, 65, 66] J1 J2 := fr_tr (fr_up jo rfl) (fr_up d7 rfl)
  have kk : ∀ r, [6, 7, 12, 13, 14, 16, 18, 31, 39, 40, 43, 45, 46, 56, 58, 59, 63, 64].contains r = false → ∀ u', I2 r u' = I r u' := fun r hr u' => by
    have f1 := fr_up (R' := [6, 7, 12, 13, 14, 16, 18, 31, 39, 40, 43, 45, 46, 56, 58, 59, 63, 64]) c7 rfl
    have f2 := fr_up (R' := [6, 7, 12, 13, 14, 16, 18, 31, 39, 40, 43, 45, 46, 56, 58, 59, 63, 64]) d6 rfl
    rw [fr_at f2 r hr, fr_at f1 r hr]
  have jk : ∀ r, [9, 10, 11, 34, 35, 60, 61, 62, 65, 66].contains r = false → ∀ u', J2 r u' = J r u' := fun r hr u' => by
    have f1 := fr_up (R' := [9, 10, 11, 34, 35, 60, 61, 62, 65, 66]) c10 rfl
    have f2 := fr_up (R' := [9, 10, 11, 34, 35, 60, 61, 62, 65, 66]) jj rfl
    rw [fr_at f2 r hr, fr_at f1 r hr]
  have e40 : ∀ k, k ≠ 0 → k ≠ 20 → I2 40 0 k = I 40 0 k := fun k k0 k20 => by rw [d3, pk_un k20, pk_un k0, fr_at c7 40 rfl 0]
  refine ⟨?_, ?_, ?_, ?_, ?_, ?_, ?_, ?_, ?_, ?_, ?_, ?_⟩
  · unfold iv_A at hA ⊢
    rw [kk 19 rfl, e40 1 (by decide) (by decide), e40 2 (by decide) (by decide), e40 3 (by decide) (by decide), e40 4 (by decide) (by decide), e40 23 (by decide) (by decide)]
    exact hA
  · unfold iv_S at hS ⊢
    rw [kk 57 rfl, kk 29 rfl]
    exact hS
  · unfold iv_H at hH ⊢
    rw [kk 20 rfl, kk 50 rfl, kk 19 rfl, kk 51 rfl, e40 33 (by decide) (by decide)]
    exact hH
  · intro v hv
    by_cases e : v = u
    · subst e
      rw [fr_at d6 31 rfl v, sN_s, c5, c6, d4, pk_us, fr_at d6 44 rfl 0, fr_at c7 44 rfl 0, h45, h46]
      have p := hP v hv
      exact ⟨rfl, rfl, p.2.2.1, p.2.2.2.1, by omega, by omega, p.2.2.2.2.2.2.1, fun z => by omega, rfl, rfl, fun z => hz z⟩
    · rw [fr_at d6 31 rfl v, sN_n e, c9 v e, d4, pk_un e, fr_at c7 43 rfl 0, fr_at d6 44 rfl 0, fr_at c7 44 rfl 0, (d5 v e).1, (d5 v e).2, fr_at c7 45 rfl 0, fr_at c7 46 rfl 0]
      exact hP v hv
  · intro v hv k hk
    rw [jk 32 rfl, jk 41 rfl]
    exact hX v hv k hk
  · intro v hv k hk
    rw [kk 33 rfl, kk 42 rfl]
    exact hI v hv k hk
  · intro v hv
    rw [kk 36 rfl, kk 47 rfl]
    exact hN v hv
  · intro v hv
    rw [kk 37 rfl, kk 48 rfl, kk 38 rfl, kk 49 rfl]
    exact hK v hv
  · intro hg v hv h2 w hw
    rw [fr_at jj 34 rfl v, fr_at jj 35 rfl v]
    by_cases e : v = u
    · subst e
      rw [sN_s] at h2
      exact hF' hg (by omega) w hw
    · rw [sN_n e] at h2
      rw [(c11 v e).1, (c11 v e).2]
      exact hF hg v hv h2 w hw
  · intro v hv
    rw [kk 22 rfl, kk 52 rfl, kk 24 rfl, kk 53 rfl, kk 26 rfl, kk 54 rfl, kk 28 rfl, kk 55 rfl]
    exact hR v hv
  · refine ml_post hM (by omega) (fun z => ?_) (fun x hx => ⟨fun z => ?_, hx.2⟩) ⟨fun _ => ?_, fun z => by omega⟩ (by rw [fr_at d6 14 rfl 0]; exact c2) (by rw [d3, pk_us]) (by rw [fr_at d6 16 rfl 0]; exact c3) (fun k hk => by rw [fr_at d6 16 rfl 0]; exact c4 k hk) (fun p hp => by rw [fr_at d6 18 rfl p]; exact c8 p hp) (fun i hi => ?_) ⟨?_, ?_, ?_, ?_, ?_⟩
    · have := z.1 (by omega)
      rw [show (7 * u + s) % 7 = s by omega, show (7 * u + s) / 7 = u by omega] at this
      omega
    · have := hx.1 z
      by_cases e : x / 7 = u
      · rw [e, sN_s]
        rw [e] at this
        omega
      · rw [sN_n e]
        exact this
    · rw [show (7 * u + s) % 7 = s by omega, show (7 * u + s) / 7 = u by omega, sN_s]
      omega
    · rw [d2 i (by omega), po_o (by omega), fr_at c7 56 rfl 0]
    · rw [d2 _ (by omega), po_0, svs_0 hs]
    · rw [d2 _ (by omega), po_1, svs_1 (by omega)]
    · rw [d2 _ (by omega), po_2, svs_2 hs]
    · rw [d2 _ (by omega), po_3]
    · intro i hi
      rw [d1 i hi, fr_at d6 18 rfl, c1 i hi]
  · intro k a b
    rw [fr_at d6 6 rfl 0]
    exact c12 k a b
section Step
variable {q : Nat × Nat} {w : Bool} {I : ms_i} {J : ms_j} {σ : ms_M}
theorem sp_4b {n : Nat} {x : Int32} (hn : n ≤ 8) (hN : I 19 0 0 = nI n) (hx : ms_in x n = false) : ms_G 4 0 [.ref (ms_ad 3 0), .int x] [] (ms_Z q false I J) = some (.inr 0, ms_Z (q.1, q.2 + 1) true I J) := by
  have h := sp_14 (q := q) (I := I) (J := J) x (show n ≤ 5000 by omega) hN
  rw [hx] at h
  simp (disch := omega) only [↓mi_4_0, ↓mi_4_1, ↓mi_4_2, ↓mi_4_5, ↓mi_4_8, cond_true, mz_clv, mz_cln, Bool.false_or, Bool.true_or, Bool.or_false, Bool.or_true, if_true, if_false, ite_self, h, if_pos b_f]
theorem sp_4c {n g : Nat} {x : Int32} (hn : n ≤ 8) (hN : I 19 0 0 = nI n) (hx : ms_in x n = true) (hg : 4 ≤ g) (hg5 : g ≤ 5) (hG : I 19 0 2 = nI g) : ms_G 4 0 [.ref (ms_ad 3 0), .int x] [] (ms_Z q false I J) = some (.inr 1, ms_Z (q.1, q.2 + 1) true I J) := by
  have h := sp_14 (q := q) (I := I) (J := J) x (show n ≤ 5000 by omega) hN
  have h2 := sp_117 (q := q) (I := I) (J := J) hg5 hG
  rw [hx] at h
  rw [decide_eq_false (by omega)] at h2
  simp (disch := omega) only [↓mi_4_0, ↓mi_4_1, ↓mi_4_2, ↓mi_4_5, ↓mi_4_16, ↓mi_4_17, ↓mi_4_20, ↓mi_4_23, ↓mi_4_26, cond_true, mz_clv, mz_cln, Bool.false_or, Bool.true_or, Bool.or_false, Bool.or_true, if_true, if_false, ite_self, h, h2, if_neg b_t, if_pos b_f]
theorem sp_4d {n g t u : Nat} {b : Bool} {w' : Bool} {I' : ms_i} {J' : ms_j} (hn : n ≤ 8) (hN : I 19 0 0 = nI n) (hu : u < n) (hg : g < 4) (hG : I 19 0 2 = nI g) (hT : I 19 0 1 = nI t) (r : ms_G 97 0 [.ref (ms_ad 31 u), .ref (ms_ad 14 0), .ref (ms_ad 4 0), .int (nI t), .null] [] (ms_Z q false I J) = some (.inl (some (.int (ms_b b))), ms_Z q w' I' J')) : ms_G 4 0 [.ref (ms_ad 3 0), .int (nI u)] [] (ms_Z q false I J) = some (.inl (some (.int (ms_b b))), ms_Z q w' I' J') := by
  have h := sp_14 (q := q) (I := I) (J := J) (nI u) (show n ≤ 5000 by omega) hN
  have h2 := sp_117 (q := q) (I := I) (J := J) (show g ≤ 5 by omega) hG
  rw [in_nI (by omega), decide_eq_true hu] at h
  rw [decide_eq_true hg] at h2
  simp (disch := omega) only [↓mi_4_0, ↓mi_4_1, ↓mi_4_2, ↓mi_4_5, ↓mi_4_16, ↓mi_4_17, ↓mi_4_20, ↓mi_4_23, ↓mi_4_34, ↓mi_4_35, ↓mi_4_38, ↓mi_4_39, ↓mi_4_40, ↓mi_4_41, ↓mi_4_44, ↓mi_4_45, ↓mi_4_48, ↓mi_4_49, ↓mi_4_52, ↓mi_4_55, cond_true, mz_clv, mz_cln, Bool.false_or, Bool.true_or, Bool.or_false, Bool.or_true, if_true, if_false, ite_self, o2_30, er_30, h, h2, if_neg b_t, hT, r, mi_4_58_b]
theorem wr_136a {x : Int32} (h : ms_G 4 0 [.ref (ms_ad 3 0), .int x] [] (ms_Z q false I J) = some (.inr 0, ms_Z (q.1, q.2 + 1) true I J)) : ms_G 136 0 [.ref (ms_ad 3 0), .int x, .ref (ms_ad 66 0), .null] [] (ms_Z q false I J) = some (.inl (some (.int (nI 1))), ms_Z (q.1, q.2 + 1) true I J) := by
  simp (disch := omega) only [↓mi_136_0, ↓mi_136_1, ↓mi_136_2, ↓mi_136_3, ↓mi_136_4, ↓mi_136_4_t0, ↓mi_136_4_t1, ↓mi_136_19, ↓mi_136_20, ↓mi_136_21, h]
theorem wr_136b {x : Int32} (h : ms_G 4 0 [.ref (ms_ad 3 0), .int x] [] (ms_Z q false I J) = some (.inr 1, ms_Z (q.1, q.2 + 1) true I J)) : ms_G 136 0 [.ref (ms_ad 3 0), .int x, .ref (ms_ad 66 0), .null] [] (ms_Z q false I J) = some (.inl (some (.int (nI 2))), ms_Z (q.1, q.2 + 1) true I J) := by
  simp (disch := omega) only [↓mi_136_0, ↓mi_136_1, ↓mi_136_2, ↓mi_136_3, ↓mi_136_4, ↓mi_136_4_t0, ↓mi_136_4_t1, ↓mi_136_22, ↓mi_136_23, ↓mi_136_24, h]
theorem wr_136v {x : Int32} {b w' : Bool} {I' : ms_i} {J' : ms_j} (h : ms_G 4 0 [.ref (ms_ad 3 0), .int x] [] (ms_Z q false I J) = some (.inl (some (.int (ms_b b))), ms_Z q w' I' J')) : ms_G 136 0 [.ref (ms_ad 3 0), .int x, .ref (ms_ad 66 0), .null] [] (ms_Z q false I J) = some (.inl (some (.int (nI 0))), ms_Z q true I' (ms_u J' 66 0 (vp_updL (J' 66 0) 0 (if b = true then lN 1 else lN 0)))) := by
  cases b with
  | true =>
    rw [if_pos rfl]
    simp (disch := omega) only [↓mi_136_0, ↓mi_136_1, ↓mi_136_2, ↓mi_136_3, ↓mi_136_4, ↓mi_136_4_t0, ↓mi_136_4_t1, ↓mi_136_7, ↓mi_136_10, ↓mi_136_11, ↓mi_136_14, ↓mi_136_15, ↓mi_136_16, ↓mi_136_25, ↓mi_136_26, cond_true, mz_clv, mz_cln, Bool.false_or, Bool.true_or, Bool.or_false, Bool.or_true, if_true, if_false, ite_self, o1_66, h, if_neg b_t]
  | false =>
    rw [if_neg Bool.false_ne_true]
    simp (disch := omega) only [↓mi_136_0, ↓mi_136_1, ↓mi_136_2, ↓mi_136_3, ↓mi_136_4, ↓mi_136_4_t0, ↓mi_136_4_t1, ↓mi_136_7, ↓mi_136_10, ↓mi_136_11, ↓mi_136_14, ↓mi_136_15, ↓mi_136_16, ↓mi_136_25, ↓mi_136_26, cond_true, mz_clv, mz_cln, Bool.false_or, Bool.true_or, Bool.or_false, Bool.or_true, if_true, if_false, ite_self, o1_66, h, if_pos b_f]
theorem sp_49b {n : Nat} {x : Int32} (hn : n ≤ 8) (hN : I 40 0 1 = nI n) (hx : ms_in x n = false) : ms_G 49 0 [.ref (ms_ad 40 0), .int x] [] (ms_Z q false I J) = some (.inl (some (.int (ms_b false))), ms_Z q true (ms_u I 40 0 (upd (I 40 0) 0 (nI 1))) J) := by
  have h := sp_37 (q := q) (I := I) (J := J) x (show n ≤ 5000 by omega) hN
  rw [hx] at h
  simp (disch := omega) only [↓mi_49_0, ↓mi_49_1, ↓mi_49_2, ↓mi_49_3, ↓mi_49_6, ↓mi_49_9, ↓mi_49_10, ↓mi_49_25, ↓mi_49_28, ↓mi_49_29, ↓mi_49_32, ↓mi_49_60, ↓mi_49_61, ↓mi_49_61_1, ↓mi_49_61_b, cond_true, mz_clv, mz_cln, Bool.false_or, Bool.true_or, Bool.or_false, Bool.or_true, if_true, if_false, ite_self, ms_u_s, ms_u_r, ms_u_i, ms_u_u, pk_us, h, if_pos b_f, na_lt, if_pos]
  rfl
theorem sp_49c {n g : Nat} {x : Int32} (hn : n ≤ 8) (hN : I 40 0 1 = nI n) (hx : ms_in x n = true) (hg : 4 ≤ g) (hg5 : g ≤ 5) (hG : I 40 0 3 = nI g) : ms_G 49 0 [.ref (ms_ad 40 0), .int x] [] (ms_Z q false I J) = some (.inl (some (.int (ms_b false))), ms_Z q true (ms_u I 40 0 (upd (I 40 0) 0 (nI 2))) J) := by
  have h := sp_37 (q := q) (I := I) (J := J) x (show n ≤ 5000 by omega) hN
  have h2 := sp_36 (q := q) (I := I) (J := J) hg5 hG
  rw [hx] at h
  rw [decide_eq_false (by omega)] at h2
  simp (disch := omega) only [↓mi_49_0, ↓mi_49_1, ↓mi_49_2, ↓mi_49_3, ↓mi_49_6, ↓mi_49_13, ↓mi_49_14, ↓mi_49_17, ↓mi_49_20, ↓mi_49_21, ↓mi_49_24, ↓mi_49_25, ↓mi_49_28, ↓mi_49_29, ↓mi_49_32, ↓mi_49_60, ↓mi_49_61, ↓mi_49_61_1, ↓mi_49_61_b, cond_true, mz_clv, mz_cln, Bool.false_or, Bool.true_or, Bool.or_false, Bool.or_true, if_true, if_false, ite_self, ms_u_s, ms_u_r, ms_u_i, ms_u_u, pk_us, h, h2, if_neg b_t, if_pos b_f, na_lt, if_pos]
  rfl
theorem sp_49n {n g u S T : Nat} (hn : n ≤ 8) (hN : I 40 0 1 = nI n) (hu : u < n) (hg : g < 4) (hG : I 40 0 3 = nI g) (hS : I 43 0 u = nI S) (hT : I 44 0 u = nI T) (lS : S ≤ 4) (lT : T ≤ S) (hne : S ≠ T ∨ 4 ≤ S) : ms_G 49 0 [.ref (ms_ad 40 0), .int (nI u)] [] (ms_Z q false I J) = some (.inl (some (.int (ms_b false))), ms_Z q true (ms_u I 40 0 (upd (I 40 0) 0 (nI 0))) J) := by
  have h := sp_37 (q := q) (I := I) (J := J) (nI u) (show n ≤ 5000 by omega) hN
  have h2 := sp_36 (q := q) (I := I) (J := J) (show g ≤ 5 by omega) hG
  rw [in_nI (by omega), decide_eq_true hu] at h
  rw [decide_eq_true hg] at h2
  by_cases h4 : 4 ≤ S
  · simp (disch := omega) only [↓mi_49_0, ↓mi_49_1, ↓mi_49_2, ↓mi_49_3, ↓mi_49_6, ↓mi_49_13, ↓mi_49_14, ↓mi_49_17, ↓mi_49_24, ↓mi_49_25, ↓mi_49_28, ↓mi_49_29, ↓mi_49_32, ↓mi_49_35, ↓mi_49_36, ↓mi_49_39, ↓mi_49_40, ↓mi_49_41, ↓mi_49_42, ↓mi_49_60, ↓mi_49_61, ↓mi_49_61_1, ↓mi_49_61_b, cond_true, mz_clv, mz_cln, Bool.false_or, Bool.true_or, Bool.or_false, Bool.or_true, if_true, if_false, ite_self, ms_u_s, ms_u_r, ms_u_i, ms_u_u, o0_43, pk_us, h, h2, hS, if_neg b_t, na_lt, if_pos, if_neg]
    rfl
  · simp (disch := omega) only [↓mi_49_0, ↓mi_49_1, ↓mi_49_2, ↓mi_49_3, ↓mi_49_6, ↓mi_49_13, ↓mi_49_14, ↓mi_49_17, ↓mi_49_24, ↓mi_49_25, ↓mi_49_28, ↓mi_49_29, ↓mi_49_32, ↓mi_49_35, ↓mi_49_36, ↓mi_49_39, ↓mi_49_40, ↓mi_49_41, ↓mi_49_42, ↓mi_49_45, ↓mi_49_46, ↓mi_49_49, ↓mi_49_50, ↓mi_49_51, ↓mi_49_52, ↓mi_49_55, ↓mi_49_56, ↓mi_49_57, ↓mi_49_60, ↓mi_49_61, ↓mi_49_61_1, ↓mi_49_61_b, cond_true, mz_clv, mz_cln, Bool.false_or, Bool.true_or, Bool.or_false, Bool.or_true, if_true, if_false, ite_self, ms_u_s, ms_u_r, ms_u_i, ms_u_u, o0_43, o0_44, pk_us, h, h2, hS, hT, if_neg b_t, na_lt, na_le, if_pos, if_neg]
    rfl
/-- up to where it sends -/
theorem sp_49p {n g u s : Nat} (hn : n ≤ 8) (hN : I 40 0 1 = nI n) (hu : u < n) (hg : g < 4) (hG : I 40 0 3 = nI g) (hS : I 43 0 u = nI s) (hT : I 44 0 u = nI s) (ls : s < 4) : ms_G 49 0 [.ref (ms_ad 40 0), .int (nI u)] [] (ms_Z q false I J) = ms_G 49 62 [.ref (ms_ad 40 0), .int (nI u)] [] (ms_Z q true (ms_u I 40 0 (upd (I 40 0) 0 (nI 0))) J) := by
  have h := sp_37 (q := q) (I := I) (J := J) (nI u) (show n ≤ 5000 by omega) hN
  have h2 := sp_36 (q := q) (I := I) (J := J) (show g ≤ 5 by omega) hG
  rw [in_nI (by omega), decide_eq_true hu] at h
  rw [decide_eq_true hg] at h2
  simp (disch := omega) only [↓mi_49_0, ↓mi_49_1, ↓mi_49_2, ↓mi_49_3, ↓mi_49_6, ↓mi_49_13, ↓mi_49_14, ↓mi_49_17, ↓mi_49_24, ↓mi_49_25, ↓mi_49_28, ↓mi_49_29, ↓mi_49_32, ↓mi_49_35, ↓mi_49_36, ↓mi_49_39, ↓mi_49_40, ↓mi_49_41, ↓mi_49_42, ↓mi_49_45, ↓mi_49_46, ↓mi_49_49, ↓mi_49_50, ↓mi_49_51, ↓mi_49_52, ↓mi_49_55, ↓mi_49_56, ↓mi_49_57, cond_true, mz_clv, mz_cln, Bool.false_or, Bool.true_or, Bool.or_false, Bool.or_true, if_true, if_false, ite_self, ms_u_s, ms_u_r, ms_u_i, ms_u_u, o0_43, o0_44, pk_us, h, h2, hS, hT, if_neg b_t, na_lt, na_le, if_pos, if_neg]
theorem sp_49e {u s : Nat} (hu : u < 8) (hS : I 43 0 u = nI s) : ms_G 49 120 [.ref (ms_ad 40 0), .int (nI u)] [] (ms_Z q true I J) = some (.inl (some (.int (ms_b true))), ms_Z q true (ms_u I 43 0 (upd (I 43 0) u (nI (s + 1)))) J) := by
  simp (disch := omega) only [↓mi_49_120, ↓mi_49_121, ↓mi_49_124, ↓mi_49_125, ↓mi_49_126, ↓mi_49_127, ↓mi_49_128, ↓mi_49_129, ↓mi_49_130, ↓mi_49_131, ↓mi_49_131_1, ↓mi_49_131_b, cond_true, mz_clv, mz_cln, Bool.false_or, Bool.true_or, Bool.or_false, Bool.or_true, if_true, if_false, ite_self, o0_43, hS, na_up]
  rfl
end Step
