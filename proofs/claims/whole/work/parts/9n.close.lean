/-! CLOSE. -/
def ms_mc (I : ms_i) (m : Nat) (Q : Nat → Nat) (ok : Nat → Prop) : Prop := (∀ k, k < m → Q k < 56 ∧ I 16 0 k = nI (Q k) ∧ ok (Q k) ∧ ms_row I k (Q k)) ∧ ∀ k l, k < m → l < m → Q k = Q l → k = l
def ms_qa (Q : Nat → Nat) (m s : Nat) (x : Int32) : Nat → Nat → Nat
  | 0 => Q
  | u + 1 => if ms_bit x u = true then (fun k => if k = m + ms_ct x u then 7 * u + 4 + s else ms_qa Q m s x u k) else ms_qa Q m s x u
theorem ml_48 {I : ms_i} {m g : Nat} {Q S : Nat → Nat} (h : ms_ml I m Q (iv_O g S)) (hg : g < 3) : m ≤ 48 := by
  obtain ⟨h0, h1, h2, h3, h4⟩ := h
  have key : ∀ k, k < m → Q k < 56 ∧ Q k % 7 < 6 := fun k hk => by
    obtain ⟨a, _, ⟨_, c⟩, _⟩ := h3 k hk
    refine ⟨a, ?_⟩
    rcases Nat.lt_or_ge (Q k % 7) 4 with z | z
    · omega
    · have := c z
      omega
  refine pig 48 m (fun k => Q k / 7 * 6 + Q k % 7) (fun k hk => ?_) (fun k l hk hl e => ?_)
  · have := key k hk
    show Q k / 7 * 6 + Q k % 7 < 48
    omega
  · have a := key k hk
    have b := key l hl
    have e2 : Q k / 7 * 6 + Q k % 7 = Q l / 7 * 6 + Q l % 7 := e
    exact h4 k l hk hl (by omega)
theorem mc_l2 {I I' : ms_i} {m g : Nat} {x : Int32} {Q S : Nat → Nat} {W : Nat → Nat → Int32} (h : ms_ml I m Q (iv_O g S)) (hg : g < 3) (q1 : ∀ k, k < m → I' 16 0 k = I 16 0 k) (r1 : ∀ i, i < 70 * m → I' 56 0 i = I 56 0 i) (w1 : ∀ p, (∀ v, v < 8 → ms_bit x v = true → p ≠ 7 * v + 4 + g) → I' 18 p = I 18 p) (q2 : ∀ v, v < 8 → ms_bit x v = true → I' 16 0 (m + ms_ct x v) = nI (7 * v + 4 + g)) (w2 : ∀ v, v < 8 → ms_bit x v = true → ∀ i, i < ms_wl (7 * v + 4 + g) → I' 18 (7 * v + 4 + g) i = W v i) (r2 : ∀ v, v < 8 → ms_bit x v = true → (∀ i, i < ms_wl (7 * v + 4 + g) → I' 56 0 (70 * (m + ms_ct x v) + 4 + i) = W v i) ∧ I' 56 0 (70 * (m + ms_ct x v)) = nI g ∧ I' 56 0 (70 * (m + ms_ct x v) + 1) = nI v ∧ I' 56 0 (70 * (m + ms_ct x v) + 2) = nI 1 ∧ I' 56 0 (70 * (m + ms_ct x v) + 3) = nI (ms_wl (7 * v + 4 + g))) : ∀ u, u ≤ 8 → ms_mc I' (m + ms_ct x u) (ms_qa Q m g x u) (fun p => iv_O g S p ∨ ∃ v, v < u ∧ p = 7 * v + 4 + g)
  | 0, _ => by
    obtain ⟨h0, h1, h2, h3, h4⟩ := h
    refine ⟨fun k hk => ?_, h4⟩
    obtain ⟨a, b, c, d⟩ := h3 k hk
    have lt : Q k % 7 < 4 + g := by
      rcases Nat.lt_or_ge (Q k % 7) 4 with z | z
      · omega
      · have := c.2 z
        omega
    have hk' : k < m := hk
    refine ⟨a, ?_, Or.inl c, row_mv d (fun i hi => r1 _ (by omega)) (w1 (Q k) (fun v _ _ z => by rw [z] at lt; omega))⟩
    rw [q1 k hk']
    exact b
  | u + 1, hu => by
    have ih := mc_l2 h hg q1 r1 w1 q2 w2 r2 u (by omega)
    have eC : ms_ct x (u + 1) = if ms_bit x u = true then ms_ct x u + 1 else ms_ct x u := rfl
    have eQ : ms_qa Q m g x (u + 1) = if ms_bit x u = true then (fun k => if k = m + ms_ct x u then 7 * u + 4 + g else ms_qa Q m g x u k) else ms_qa Q m g x u := rfl
    cases hc : ms_bit x u with
    | false =>
      rw [eC, eQ, hc, if_neg Bool.false_ne_true, if_neg Bool.false_ne_true]
      refine ⟨fun k hk => ?_, ih.2⟩
      obtain ⟨a, b, c, d⟩ := ih.1 k hk
      refine ⟨a, b, ?_, d⟩
      rcases c with c | ⟨v, c1, c2⟩
      · exact Or.inl c
      · exact Or.inr ⟨v, by omega, c2⟩
    | true =>
      rw [eC, eQ, hc, if_pos rfl, if_pos rfl]
      have ne : ∀ k, k < m + ms_ct x u → ms_qa Q m g x u k ≠ 7 * u + 4 + g := fun k hk e => by
        obtain ⟨a, b, c, d⟩ := ih.1 k hk
        rw [e] at c
        rcases c with c | ⟨v, c1, c2⟩
        · have := c.2 (by omega)
          omega
        · omega
      refine ⟨fun k hk => ?_, fun k l hk hl e => ?_⟩
      · by_cases e : k = m + ms_ct x u
        · subst e
          show (if m + ms_ct x u = m + ms_ct x u then 7 * u + 4 + g else _) < 56 ∧ _ = nI (if m + ms_ct x u = m + ms_ct x u then 7 * u + 4 + g else _) ∧ (iv_O g S (if m + ms_ct x u = m + ms_ct x u then 7 * u + 4 + g else _) ∨ _) ∧ ms_row I' _ (if m + ms_ct x u = m + ms_ct x u then 7 * u + 4 + g else _)
          rw [if_pos rfl]
          obtain ⟨s0, s1, s2, s3, s4⟩ := r2 u (by omega) hc
          refine ⟨by omega, q2 u (by omega) hc, Or.inr ⟨u, by omega, if_pos rfl⟩, ?_, ?_, ?_, ?_, ?_⟩
          · rw [s1, sva_0 hg]
          · rw [s2, sva_1 hg]
          · rw [s3, sva_2 hg]
          · exact s4
          · intro i hi
            rw [s0 i hi, w2 u (by omega) hc i hi]
        · obtain ⟨a, b, c, d⟩ := ih.1 k (by omega)
          show (if k = m + ms_ct x u then 7 * u + 4 + g else ms_qa Q m g x u k) < 56 ∧ I' 16 0 k = nI (if k = m + ms_ct x u then 7 * u + 4 + g else ms_qa Q m g x u k) ∧ (iv_O g S (if k = m + ms_ct x u then 7 * u + 4 + g else ms_qa Q m g x u k) ∨ ∃ v, v < u + 1 ∧ (if k = m + ms_ct x u then 7 * u + 4 + g else ms_qa Q m g x u k) = 7 * v + 4 + g) ∧ ms_row I' k (if k = m + ms_ct x u then 7 * u + 4 + g else ms_qa Q m g x u k)
          rw [if_neg e]
          refine ⟨a, b, ?_, d⟩
          rcases c with c | ⟨v, c1, c2⟩
          · exact Or.inl c
          · exact Or.inr ⟨v, by omega, c2⟩
      · have e2 : (if k = m + ms_ct x u then 7 * u + 4 + g else ms_qa Q m g x u k) = (if l = m + ms_ct x u then 7 * u + 4 + g else ms_qa Q m g x u l) := e
        by_cases a : k = m + ms_ct x u
        · by_cases b : l = m + ms_ct x u
          · omega
          · rw [if_pos a, if_neg b] at e2
            exact absurd e2.symm (ne l (by omega))
        · by_cases b : l = m + ms_ct x u
          · rw [if_neg a, if_pos b] at e2
            exact absurd e2 (ne k (by omega))
          · rw [if_neg a, if_neg b] at e2
            exact ih.2 k l (by omega) (by omega) e2
section Close
variable {q : Nat × Nat} {w : Bool} {I : ms_i} {J : ms_j} {σ : ms_M}
theorem sp_123 (x : Int32) : ms_G 123 0 [.ref (ms_ad 19 0), .int x] [] (ms_Z q false I J) = some (.inl none, ms_Z q true (ms_u I 19 0 (upd (upd (I 19 0) 2 (nI 5)) 3 x)) J) := by
  simp (disch := omega) only [↓mi_123_0, ↓mi_123_1, ↓mi_123_2, ↓mi_123_5, ↓mi_123_6, ↓mi_123_7, ↓mi_123_10, ms_u_s, ms_u_r, ms_u_i, ms_u_u]
theorem sp_124 {s : Nat} {x : Int32} {I' : ms_i} {w' : Bool} (hs : s < 3) (hG : I 19 0 2 = nI s) (hX : I 20 0 (if s = 2 then 1 else s) = x) (r : ∀ l4, ms_G 124 29 [.ref (ms_ad 19 0), .ref (ms_ad 14 0), .int x, .int (nI 0), l4] [] (ms_Z q false I J) = some (.inl none, ms_Z q w' I' J)) : ms_G 124 0 [.ref (ms_ad 19 0), .ref (ms_ad 14 0), .null, .null, .null] [] (ms_Z q false I J) = some (.inl none, ms_Z q w' I' J) := by
  by_cases h2 : s = 2
  · rw [if_pos h2] at hX
    simp (disch := omega) only [↓mi_124_0, ↓mi_124_1, ↓mi_124_4, ↓mi_124_5, ↓mi_124_8, ↓mi_124_9, ↓mi_124_12, ↓mi_124_13, ↓mi_124_14, ↓mi_124_26, ↓mi_124_27, ↓mi_124_28, cond_true, mz_clv, mz_cln, Bool.false_or, Bool.true_or, Bool.or_false, Bool.or_true, if_true, if_false, ite_self, o0_20, hG, na_eq, if_pos h2, hX]
    exact r _
  · rw [if_neg h2] at hX
    simp (disch := omega) only [↓mi_124_0, ↓mi_124_1, ↓mi_124_4, ↓mi_124_5, ↓mi_124_17, ↓mi_124_18, ↓mi_124_21, ↓mi_124_22, ↓mi_124_25, ↓mi_124_26, ↓mi_124_27, ↓mi_124_28, cond_true, mz_clv, mz_cln, Bool.false_or, Bool.true_or, Bool.or_false, Bool.or_true, if_true, if_false, ite_self, o0_20, hG, na_eq, if_neg h2, hX]
    exact r _
theorem wr_137b (h : ms_G 5 0 [.ref (ms_ad 3 0)] [] (ms_Z q false I J) = some (.inr 1, ms_Z (q.1, q.2 + 1) true I J)) : ms_G 137 0 [.ref (ms_ad 3 0), .ref (ms_ad 66 0), .null] [] (ms_Z q false I J) = some (.inl (some (.int (nI 1))), ms_Z (q.1, q.2 + 1) true I J) := by
  simp (disch := omega) only [↓mi_137_0, ↓mi_137_1, ↓mi_137_2, ↓mi_137_3, ↓mi_137_3_t1, ↓mi_137_11, ↓mi_137_12, ↓mi_137_13, h]
theorem wr_137v {v : Int32} {w' : Bool} {I' : ms_i} {J' : ms_j} (h : ms_G 5 0 [.ref (ms_ad 3 0)] [] (ms_Z q false I J) = some (.inl (some (.int v)), ms_Z q w' I' J')) : ms_G 137 0 [.ref (ms_ad 3 0), .ref (ms_ad 66 0), .null] [] (ms_Z q false I J) = some (.inl (some (.int (nI 0))), ms_Z q true I' (ms_u J' 66 0 (vp_updL (J' 66 0) 0 v.toInt64))) := by
  simp (disch := omega) only [↓mi_137_0, ↓mi_137_1, ↓mi_137_2, ↓mi_137_3, ↓mi_137_3_t1, ↓mi_137_6, ↓mi_137_7, ↓mi_137_8, ↓mi_137_14, ↓mi_137_15, cond_true, mz_clv, mz_cln, Bool.false_or, Bool.true_or, Bool.or_false, Bool.or_true, if_true, if_false, ite_self, o1_66, h]
theorem sp_5 {g : Nat} {v : Int32} {w' : Bool} {I' : ms_i} {J' : ms_j} (hg : g < 4) (hG : I 19 0 2 = nI g) (r : ms_G 122 0 [.ref (ms_ad 19 0), .ref (ms_ad 14 0), .ref (ms_ad 4 0)] [] (ms_Z q false I J) = some (.inl none, ms_Z q w' I' J')) (hv : I' 19 0 2 = v) : ms_G 5 0 [.ref (ms_ad 3 0)] [] (ms_Z q false I J) = some (.inl (some (.int v)), ms_Z q w' I' J') := by
  have o := sp_117 (q := q) (I := I) (J := J) (show g ≤ 5 by omega) hG
  rw [decide_eq_true hg] at o
  simp (disch := omega) only [↓mi_5_0, ↓mi_5_1, ↓mi_5_4, ↓mi_5_7, ↓mi_5_18, ↓mi_5_19, ↓mi_5_22, ↓mi_5_23, ↓mi_5_26, ↓mi_5_27, ↓mi_5_30, ↓mi_5_33, ↓mi_5_34, ↓mi_5_37, ↓mi_5_40, cond_true, mz_clv, mz_cln, Bool.false_or, Bool.true_or, Bool.or_false, Bool.or_true, if_true, if_false, ite_self, o, if_neg b_t, r, hv]
end Close
