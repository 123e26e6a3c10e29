/-! WHAT HOLDS BETWEEN CALLS: both sides agree. -/
def iv_A (n t g : Nat) (I : ms_i) : Prop := I 19 0 0 = nI n ∧ I 19 0 1 = nI t ∧ I 19 0 2 = nI g ∧ I 40 0 1 = nI n ∧ I 40 0 2 = nI t ∧ I 40 0 3 = nI g ∧ I 40 0 4 = I 19 0 3 ∧ I 40 0 23 = ms_b (decide (g = 4)) ∧ n ≤ 8 ∧ t ≤ n ∧ g ≤ 5 ∧ (g < 4 → 2 ≤ t)
def iv_S (g : Nat) (I : ms_i) : Prop := g = 4 → ∀ i, i < 4 → I 57 0 i = I 29 0 i
def iv_H (n g : Nat) (nm : Nat → Nat) (hd : Nat) (I : ms_i) : Prop := (∀ k, k < 3 → nm k < 2 ^ n ∧ I 20 0 k = nI (nm k) ∧ I 50 0 k = nI (nm k)) ∧ hd < 2 ^ n ∧ I 19 0 4 = nI hd ∧ (g < 4 → I 51 0 g = nI hd ∧ (∀ k, g < k → k < 4 → I 51 0 k = nI 0) ∧ I 19 0 3 = nI 0) ∧ (4 ≤ g → ∃ l, l < 4 ∧ I 40 0 33 = nI l ∧ I 51 0 l = nI hd)
def iv_P (n : Nat) (S T : Nat → Nat) (I : ms_i) : Prop := ∀ u, u < 8 → I 31 u 9 = nI (S u) ∧ I 43 0 u = nI (S u) ∧ I 31 u 10 = nI (T u) ∧ I 44 0 u = nI (T u) ∧ T u ≤ S u ∧ S u ≤ 4 ∧ T u ≤ 3 ∧ (n ≤ u → S u = 0) ∧ I 31 u 11 = I 45 0 u ∧ I 31 u 12 = I 46 0 u ∧ (S u ≤ 3 → I 31 u 11 = nI 0 ∧ I 31 u 12 = nI 0)
def iv_X (X : Nat → Nat → Nat) (J : ms_j) : Prop := ∀ u, u < 8 → ∀ k, k < 3 → J 32 u k = lN (X u k) ∧ J 41 0 (3 * u + k) = lN (X u k) ∧ X u k < 2305843009213693951
def iv_I (I : ms_i) : Prop := ∀ u, u < 8 → ∀ k, k < 4 → I 33 u k = I 42 0 (4 * u + k)
def iv_N (n : Nat) (T : Nat → Nat) (I : ms_i) : Prop := ∀ u, u < 8 → (∀ k, k < 3 → I 36 u k = I 47 0 (3 * u + k)) ∧ (∀ k, k < T u → ∃ h, h < 2 ^ n ∧ I 36 u k = nI h) ∧ (1 < T u → ms_bit (I 36 u 1) u = true)
def iv_K (I : ms_i) : Prop := ∀ u, u < 8 → (∀ k, k < 32 → I 37 u (1 + k) = I 48 0 (32 * u + k)) ∧ (∀ k, k < 64 → I 38 u (1 + k) = I 49 0 (64 * u + k))
def iv_F (t g : Nat) (S : Nat → Nat) (X : Nat → Nat → Nat) (J : ms_j) : Prop := g < 4 → ∀ u, u < 8 → 2 ≤ S u → ∀ v, v < 8 → J 34 u v = lN (ms_sh (X u 2) (ms_cf (X u 2) 1 u) (v + 1) t) ∧ J 35 u v = lN (ms_sh (X u 0) (ms_cf (X u 2) 0 u) (v + 1) t)
def iv_R (I : ms_i) : Prop := ∀ u, u < 8 → (∀ k, k < 4 → I 22 u k = I 52 0 (4 * u + k)) ∧ (∀ k, k < 64 → I 24 u k = I 53 0 (64 * u + k)) ∧ (∀ k, k < 4 → I 26 u k = I 54 0 (4 * u + k)) ∧ (∀ k, k < 17 → I 28 u k = I 55 0 (17 * u + k))
def iv_O (g : Nat) (S : Nat → Nat) (p : Nat) : Prop := (p % 7 < 4 → p % 7 < S (p / 7)) ∧ (4 ≤ p % 7 → p % 7 - 4 < g)
def ms_inv (n t g : Nat) (nm : Nat → Nat) (hd : Nat) (S T : Nat → Nat) (X : Nat → Nat → Nat) (m : Nat) (Q : Nat → Nat) (I : ms_i) (J : ms_j) : Prop := iv_A n t g I ∧ iv_S g I ∧ iv_H n g nm hd I ∧ iv_P n S T I ∧ iv_X X J ∧ iv_I I ∧ iv_N n T I ∧ iv_K I ∧ iv_F t g S X J ∧ iv_R I ∧ ms_ml I m Q (iv_O g S) ∧ ms_Z6 I
def ms_iv (f : Nat → Int32) (I : ms_i) (J : ms_j) : Prop := I 0 0 = f ∧ ∃ n t g nm hd S T X m Q, ms_inv n t g nm hd S T X m Q I J
theorem iv_keep {n t g : Nat} {nm : Nat → Nat} {hd : Nat} {S T : Nat → Nat} {X : Nat → Nat → Nat} {m : Nat} {Q : Nat → Nat} {I I' : ms_i} {J J' : ms_j} (h : ms_inv n t g nm hd S T X m Q I J) (hf : ms_fq [6, 7, 12, 13, 39, 40, 58, 59, 63, 64] I I') (h40 : ∀ k, k ≠ 0 → I' 40 0 k = I 40 0 k) (hj : ms_fq [9, 10, 11, 40, 60, 61, 62, 65, 66] J J') (hz : ms_Z6 I') : ms_inv n t g nm hd S T X m Q I' J' := by
  obtain ⟨hA, hS, hH, hP, hX, hI, hN, hK, hF, hR, hM, _⟩ := h
  refine ⟨?_, ?_, ?_, ?_, ?_, ?_, ?_, ?_, ?_, ?_, ?_, hz⟩
  · unfold iv_A at hA ⊢
    rw [fr_at hf 19 rfl 0, h40 1 (by decide), h40 2 (by decide), h40 3 (by decide), h40 4 (by decide), h40 23 (by decide)]
    exact hA
  · unfold iv_S at hS ⊢
    rw [fr_at hf 57 rfl 0, fr_at hf 29 rfl 0]
    exact hS
  · unfold iv_H at hH ⊢
    rw [fr_at hf 20 rfl 0, fr_at hf 50 rfl 0, fr_at hf 19 rfl 0, fr_at hf 51 rfl 0, h40 33 (by decide)]
    exact hH
  · intro u hu
    have := hP u hu
    rw [fr_at hf 31 rfl u, fr_at hf 43 rfl 0, fr_at hf 44 rfl 0, fr_at hf 45 rfl 0, fr_at hf 46 rfl 0]
    exact this
  · intro u hu k hk
    rw [fr_at hj 32 rfl u, fr_at hj 41 rfl 0]
    exact hX u hu k hk
  · intro u hu k hk
    rw [fr_at hf 33 rfl u, fr_at hf 42 rfl 0]
    exact hI u hu k hk
  · intro u hu
    rw [fr_at hf 36 rfl u, fr_at hf 47 rfl 0]
    exact hN u hu
  · intro u hu
    rw [fr_at hf 37 rfl u, fr_at hf 48 rfl 0, fr_at hf 38 rfl u, fr_at hf 49 rfl 0]
    exact hK u hu
  · intro hg u hu hs v hv
    rw [fr_at hj 34 rfl u, fr_at hj 35 rfl u]
    exact hF hg u hu hs v hv
  · intro u hu
    rw [fr_at hf 22 rfl u, fr_at hf 52 rfl 0, fr_at hf 24 rfl u, fr_at hf 53 rfl 0, fr_at hf 26 rfl u, fr_at hf 54 rfl 0, fr_at hf 28 rfl u, fr_at hf 55 rfl 0]
    exact hR u hu
  · exact ml_keep hM (fun _ h => h) (by rw [fr_at hf 14 rfl 0]) (h40 20 (by decide)) (fr_at hf 16 rfl 0) (fun p => fr_at hf 18 rfl p) (fr_at hf 56 rfl 0)
/-- only the model's code and the law's cell have changed -/
theorem iv_code {f : Nat → Int32} {I : ms_i} {J : ms_j} (h : ms_iv f I J) (x : Int32) : ms_iv f (ms_u I 40 0 (upd (I 40 0) 0 x)) J := by
  obtain ⟨h0, n, t, g, nm, hd, S, T, X, m, Q, h⟩ := h
  refine ⟨by rw [ms_u_r _ _ _ _ (by decide)]; exact h0, n, t, g, nm, hd, S, T, X, m, Q, iv_keep h (fr_u rfl) (fun k hk => by rw [ms_u_s, pk_un hk]) fr_rf ?_⟩
  intro k a b
  rw [ms_u_r _ _ _ _ (by decide)]
  exact h.2.2.2.2.2.2.2.2.2.2.2 k a b
theorem iv_out {f : Nat → Int32} {I : ms_i} {J : ms_j} (h : ms_iv f I J) (g : Nat → Int64) : ms_iv f I (ms_u J 66 0 g) := by
  obtain ⟨h0, n, t, g', nm, hd, S, T, X, m, Q, h⟩ := h
  exact ⟨h0, n, t, g', nm, hd, S, T, X, m, Q, iv_keep h fr_rf (fun _ _ => rfl) (fr_u rfl) h.2.2.2.2.2.2.2.2.2.2.2⟩
section Inv
variable {q : Nat × Nat} {w : Bool} {I : ms_i} {J : ms_j} {σ : ms_M}
theorem sp_17 : ms_G 17 0 [.ref (ms_ad 40 0)] [] (ms_Z q false I J) = some (.inl (some (.int (I 40 0 0))), ms_Z q false I J) := by
  simp only [↓mi_17_0, ↓mi_17_1, ↓mi_17_4]
theorem sp_18 (x : Int32) : ms_G 18 0 [.ref (ms_ad 40 0), .int x] [] (ms_Z q false I J) = some (.inl (some (.int (nI 0))), ms_Z q true (ms_u I 40 0 (upd (I 40 0) 0 x)) J) := by
  simp only [↓mi_18_0, ↓mi_18_1, ↓mi_18_2, ↓mi_18_5, ↓mi_18_6]
theorem sp_14 {n : Nat} (x : Int32) (hn : n ≤ 5000) (hN : I 19 0 0 = nI n) : ms_G 14 0 [.ref (ms_ad 3 0), .int x] [] (ms_Z q false I J) = some (.inl (some (.int (ms_b (ms_in x n)))), ms_Z q false I J) := by
  cases hb : ms_in x n with
  | false =>
    by_cases h1 : x < nI 0
    · simp only [↓mi_14_0, ↓mi_14_1, ↓mi_14_4, ↓mi_14_5, ↓mi_14_6, ↓mi_14_9, ↓mi_14_12, ↓mi_14_15, ↓mi_14_16, ↓mi_14_19, ↓mi_14_20, ↓mi_14_20_1, ↓mi_14_20_b, if_pos h1]
      rfl
    · have h2 : nI n ≤ x := (in_bad hn hb).resolve_left h1
      simp only [↓mi_14_0, ↓mi_14_1, ↓mi_14_4, ↓mi_14_5, ↓mi_14_6, ↓mi_14_9, ↓mi_14_12, ↓mi_14_15, ↓mi_14_16, ↓mi_14_19, ↓mi_14_20, ↓mi_14_20_1, ↓mi_14_20_b, if_neg h1, hN, if_pos h2]
      rfl
  | true =>
    obtain ⟨k, hk, rfl⟩ := in_nat hn hb
    simp (disch := omega) only [↓mi_14_0, ↓mi_14_1, ↓mi_14_4, ↓mi_14_5, ↓mi_14_6, ↓mi_14_9, ↓mi_14_12, ↓mi_14_15, ↓mi_14_16, ↓mi_14_19, ↓mi_14_20, ↓mi_14_20_1, ↓mi_14_20_b, hN, na_lt, na_le, if_neg]
    rfl
theorem sp_117 {g : Nat} (hg : g ≤ 5) (hG : I 19 0 2 = nI g) : ms_G 117 0 [.ref (ms_ad 19 0)] [] (ms_Z q false I J) = some (.inl (some (.int (ms_b (decide (g < 4))))), ms_Z q false I J) := by
  by_cases h : g < 4
  · rw [decide_eq_true h]
    simp (disch := omega) only [↓mi_117_0, ↓mi_117_1, ↓mi_117_4, ↓mi_117_5, ↓mi_117_8, ↓mi_117_9, ↓mi_117_12, ↓mi_117_13, ↓mi_117_13_1, ↓mi_117_13_b, hG, na_lt, if_neg]
    rfl
  · rw [decide_eq_false h]
    simp (disch := omega) only [↓mi_117_0, ↓mi_117_1, ↓mi_117_4, ↓mi_117_5, ↓mi_117_8, ↓mi_117_9, ↓mi_117_12, ↓mi_117_13, ↓mi_117_13_1, ↓mi_117_13_b, hG, na_lt, if_pos]
    rfl
theorem sp_36 {g : Nat} (hg : g ≤ 5) (hG : I 40 0 3 = nI g) : ms_G 36 0 [.ref (ms_ad 40 0)] [] (ms_Z q false I J) = some (.inl (some (.int (ms_b (decide (g < 4))))), ms_Z q false I J) := by
  by_cases h : g < 4
  · rw [decide_eq_true h]
    simp (disch := omega) only [↓mi_36_0, ↓mi_36_1, ↓mi_36_4, ↓mi_36_5, ↓mi_36_8, ↓mi_36_9, ↓mi_36_12, ↓mi_36_13, ↓mi_36_13_1, ↓mi_36_13_b, hG, na_le, if_neg]
    rfl
  · rw [decide_eq_false h]
    simp (disch := omega) only [↓mi_36_0, ↓mi_36_1, ↓mi_36_4, ↓mi_36_5, ↓mi_36_8, ↓mi_36_9, ↓mi_36_12, ↓mi_36_13, ↓mi_36_13_1, ↓mi_36_13_b, hG, na_le, if_pos]
    rfl
theorem sp_37 {n : Nat} (x : Int32) (hn : n ≤ 5000) (hN : I 40 0 1 = nI n) : ms_G 37 0 [.ref (ms_ad 40 0), .int x] [] (ms_Z q false I J) = some (.inl (some (.int (ms_b (ms_in x n)))), ms_Z q false I J) := by
  simp only [↓mi_37_0, ↓mi_37_1, ↓mi_37_2, ↓mi_37_3, ↓mi_37_6, ↓mi_37_7, ↓mi_37_8, cond_true, mz_clv, mz_cln, Bool.false_or, Bool.true_or, Bool.or_false, Bool.or_true, if_true, if_false, ite_self, hN, sp_19s x hn, mi_37_11_b]
end Inv
