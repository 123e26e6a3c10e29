/-! DELIVER AND LOSE. -/
def ms_rm (I I' : ms_i) (m k : Nat) : Prop := I' 14 0 2 = nI (m - 1) ∧ I' 40 0 20 = nI (m - 1) ∧ (∀ i, i < m - 1 → I' 16 0 i = I 16 0 (if i < k then i else i + 1)) ∧ (∀ p, I' 18 p = I 18 p) ∧ (∀ i, i < m - 1 → ∀ j, j < 70 → I' 56 0 (70 * i + j) = I 56 0 (70 * (if i < k then i else i + 1) + j)) ∧ (∀ j, j ≠ 0 → j ≠ 20 → I' 40 0 j = I 40 0 j)
theorem rm_mk {I I' : ms_i} {m k : Nat} (hk : k < m) (e14 : I' 14 0 = upd (I 14 0) 2 (nI (m - 1))) (e16 : I' 16 0 = va_cpy (I 16 0) (I 16 0) (k + 1) k (m - 1 - k)) (e18 : ∀ p, I' 18 p = I 18 p) (e56 : I' 56 0 = ms_to (70 * k) (70 * m - 70) (I 56 0)) (e40 : I' 40 0 = upd (upd (I 40 0) 0 (nI 0)) 20 (nI (m - 1))) : ms_rm I I' m k := by
  refine ⟨by rw [e14, pk_us], by rw [e40, pk_us], ?_, e18, ?_, ?_⟩
  · intro i hi
    rw [e16]
    by_cases h : i < k
    · rw [if_pos h, pk_cpy_out (by omega)]
    · rw [if_neg h, pk_cpy_in (by omega) (by omega), show k + 1 + (i - k) = i + 1 by omega]
  · intro i hi j hj
    rw [e56]
    unfold ms_to
    by_cases h : i < k
    · rw [if_pos h, if_neg (by omega)]
    · rw [if_neg h, if_pos (by omega), show 70 * i + j + 70 = 70 * (i + 1) + j by omega]
  · intro j h0 h20
    rw [e40, pk_un h20, pk_un h0]
theorem iv_rm {n t g : Nat} {nm : Nat → Nat} {hd : Nat} {S T : Nat → Nat} {X : Nat → Nat → Nat} {m k : Nat} {Q : Nat → Nat} {I I' : ms_i} {J J' : ms_j} (h : ms_inv n t g nm hd S T X m Q I J) (hk : k < m) (rm : ms_rm I I' m k) (hf : ms_fq [14, 16, 40, 56] I I') (hj : ms_fq [66] J J') : ms_inv n t g nm hd S T X (m - 1) (fun i => Q (if i < k then i else i + 1)) I' J' := by
  obtain ⟨hA, hS, hH, hP, hX, hI, hN, hK, hF, hR, hM, hz⟩ := h
  obtain ⟨m1, m2, m3, m4, m5, m6⟩ := rm
  refine ⟨?_, ?_, ?_, ?_, ?_, ?_, ?_, ?_, ?_, ?_, ?_, ?_⟩
  · unfold iv_A at hA ⊢
    rw [fr_at hf 19 rfl 0, m6 1 (by decide) (by decide), m6 2 (by decide) (by decide), m6 3 (by decide) (by decide), m6 4 (by decide) (by decide), m6 23 (by decide) (by decide)]
    exact hA
  · unfold iv_S at hS ⊢
    rw [fr_at hf 57 rfl 0, fr_at hf 29 rfl 0]
    exact hS
  · unfold iv_H at hH ⊢
    rw [fr_at hf 20 rfl 0, fr_at hf 50 rfl 0, fr_at hf 19 rfl 0, fr_at hf 51 rfl 0, m6 33 (by decide) (by decide)]
    exact hH
  · intro u hu
    rw [fr_at hf 31 rfl u, fr_at hf 43 rfl 0, fr_at hf 44 rfl 0, fr_at hf 45 rfl 0, fr_at hf 46 rfl 0]
    exact hP u hu
  · intro u hu j hj2
    rw [fr_at hj 32 rfl u, fr_at hj 41 rfl 0]
    exact hX u hu j hj2
  · intro u hu j hj2
    rw [fr_at hf 33 rfl u, fr_at hf 42 rfl 0]
    exact hI u hu j hj2
  · intro u hu
    rw [fr_at hf 36 rfl u, fr_at hf 47 rfl 0]
    exact hN u hu
  · intro u hu
    rw [fr_at hf 37 rfl u, fr_at hf 48 rfl 0, fr_at hf 38 rfl u, fr_at hf 49 rfl 0]
    exact hK u hu
  · intro hg u hu hs v hv
    rw [fr_at hj 34 rfl u, fr_at hj 35 rfl u]
    exact hF hg u hu hs v hv
  · intro u hu
    rw [fr_at hf 22 rfl u, fr_at hf 52 rfl 0, fr_at hf 24 rfl u, fr_at hf 53 rfl 0, fr_at hf 26 rfl u, fr_at hf 54 rfl 0, fr_at hf 28 rfl u, fr_at hf 55 rfl 0]
    exact hR u hu
  · exact ml_take hM hk (fun _ h => h) m1 m2 m3 m4 m5
  · intro j a b
    rw [fr_at hf 6 rfl 0]
    exact hz j a b
theorem gd_t {n t s u : Nat} {x y : Int32} (h : ms_gd n t s u x y = true) : (∃ h, h < 2 ^ n ∧ x = nI h) ∧ (s = 2 ∨ ms_bit x u = true) := by
  unfold ms_gd at h
  simp only [Bool.and_eq_true, Bool.or_eq_true, decide_eq_true_eq] at h
  exact ⟨⟨mU x, h.1, (nI_mU x).symm⟩, h.2.2.1⟩
/-- an answer was taken -/
theorem iv_tk {n t g : Nat} {nm : Nat → Nat} {hd : Nat} {S T : Nat → Nat} {X : Nat → Nat → Nat} {m k u s : Nat} {Q : Nat → Nat} {I I' : ms_i} {J J' : ms_j} (h : ms_inv n t g nm hd S T X m Q I J) (hu : u < 8) (hs : s < 3) (hk : k < m) (eQ : Q k = 7 * u + 4 + s) (eS : S u = s + 1) (eT : T u = s) (hgd : ms_gd n t s u (I 18 (7 * u + 4 + s) 0) (I 36 u (s - 1)) = true) (rm : ms_rm I I' m k) (e36 : I' 36 u = upd (I 36 u) s (I 18 (7 * u + 4 + s) 0)) (e37a : s = 0 → ∀ j, j < 32 → I' 37 u (1 + j) = I 18 (7 * u + 4 + s) (1 + j)) (e37b : s ≠ 0 → I' 37 u = I 37 u) (e38a : s = 1 → ∀ j, j < 64 → I' 38 u (1 + j) = I 18 (7 * u + 4 + s) (1 + j)) (e38b : s ≠ 1 → I' 38 u = I 38 u) (e31 : I' 31 u = upd (I 31 u) 10 (nI (s + 1))) (eo : ∀ r, r = 31 ∨ r = 36 ∨ r = 37 ∨ r = 38 → ∀ v, v ≠ u → I' r v = I r v) (tm47 : I' 47 0 = upd (I 47 0) (3 * u + s) (I 56 0 (70 * k + 4))) (tm48a : s = 0 → ∀ j, j < 32 → I' 48 0 (32 * u + j) = I 56 0 (70 * k + 5 + j)) (tm48b : ∀ i, (s ≠ 0 ∨ i < 32 * u ∨ 32 * u + 32 ≤ i) → I' 48 0 i = I 48 0 i) (tm49a : s = 1 → ∀ j, j < 64 → I' 49 0 (64 * u + j) = I 56 0 (70 * k + 5 + j)) (tm49b : ∀ i, (s ≠ 1 ∨ i < 64 * u ∨ 64 * u + 64 ≤ i) → I' 49 0 i = I 49 0 i) (tm44 : I' 44 0 = upd (I 44 0) u (nI (s + 1))) (hf : ms_fq [14, 16, 31, 36, 37, 38, 40, 44, 47, 48, 49, 56] I I') (hj : ms_fq [66] J J') : ms_inv n t g nm hd S (ms_sN T u (s + 1)) X (m - 1) (fun i => Q (if i < k then i else i + 1)) I' J' := by
  obtain ⟨hA, hS, hH, hP, hX, hI, hN, hK, hF, hR, hM, hz⟩ := h
  obtain ⟨m1, m2, m3, m4, m5, m6⟩ := rm
  obtain ⟨q1, q2, q3, q4⟩ := hM.2.2.2.1 k hk
  rw [eQ] at q4
  obtain ⟨_, _, _, _, row⟩ := q4
  obtain ⟨⟨hh, lh, eh⟩, hbit⟩ := gd_t hgd
  have lw : 0 < ms_wl (7 * u + 4 + s) := by
    unfold ms_wl
    have : (7 * u + 4 + s) % 7 = 4 ∨ (7 * u + 4 + s) % 7 = 5 ∨ (7 * u + 4 + s) % 7 = 6 := by omega
    rcases this with h | h | h <;> rw [h] <;> decide
  have row0 := row 0 lw
  rw [Nat.add_zero] at row0
  refine ⟨?_, ?_, ?_, ?_, ?_, ?_, ?_, ?_, ?_, ?_, ?_, ?_⟩
  · unfold iv_A at hA ⊢
    rw [fr_at hf 19 rfl 0, m6 1 (by decide) (by decide), m6 2 (by decide) (by decide), m6 3 (by decide) (by decide), m6 4 (by decide) (by decide), m6 23 (by decide) (by decide)]
    exact hA
  · unfold iv_S at hS ⊢
    rw [fr_at hf 57 rfl 0, fr_at hf 29 rfl 0]
    exact hS
  · unfold iv_H at hH ⊢
    rw [fr_at hf 20 rfl 0, fr_at hf 50 rfl 0, fr_at hf 19 rfl 0, fr_at hf 51 rfl 0, m6 33 (by decide) (by decide)]
    exact hH
  · intro v hv
    have p := hP v hv
    rw [fr_at hf 43 rfl 0, fr_at hf 45 rfl 0, fr_at hf 46 rfl 0, tm44]
    by_cases e : v = u
    · subst e
      rw [e31, sN_s, pk_us, pk_us, pk_un (by decide), pk_un (by decide), pk_un (by decide)]
      exact ⟨p.1, p.2.1, rfl, rfl, by omega, p.2.2.2.2.2.1, by omega, p.2.2.2.2.2.2.2.1, p.2.2.2.2.2.2.2.2.1, p.2.2.2.2.2.2.2.2.2.1, p.2.2.2.2.2.2.2.2.2.2⟩
    · rw [eo 31 (by omega) v e, sN_n e, pk_un e]
      exact p
  · intro v hv j hj2
    rw [fr_at hj 32 rfl v, fr_at hj 41 rfl 0]
    exact hX v hv j hj2
  · intro v hv j hj2
    rw [fr_at hf 33 rfl v, fr_at hf 42 rfl 0]
    exact hI v hv j hj2
  · intro v hv
    obtain ⟨a1, a2, a3⟩ := hN v hv
    by_cases e : v = u
    · subst e
      rw [sN_s, e36, tm47]
      refine ⟨?_, ?_, ?_⟩
      · intro j hj2
        by_cases e2 : j = s
        · subst e2
          rw [pk_us, pk_us, row0]
        · rw [pk_un e2, pk_un (by omega)]
          exact a1 j hj2
      · intro j hj2
        by_cases e2 : j = s
        · subst e2
          rw [pk_us]
          exact ⟨hh, lh, eh⟩
        · rw [pk_un e2]
          exact a2 j (by omega)
      · intro h1
        by_cases e2 : 1 = s
        · subst e2
          rw [pk_us]
          exact hbit.resolve_left (by decide)
        · rw [pk_un e2]
          exact a3 (by omega)
    · rw [sN_n e, eo 36 (by omega) v e, tm47]
      refine ⟨fun j hj2 => ?_, a2, a3⟩
      rw [pk_un (by omega)]
      exact a1 j hj2
  · intro v hv
    obtain ⟨a1, a2⟩ := hK v hv
    by_cases e : v = u
    · subst e
      refine ⟨fun j hj2 => ?_, fun j hj2 => ?_⟩
      · by_cases e2 : s = 0
        · have hl : ms_wl (7 * v + 4 + s) = 33 := by rw [Nat.add_assoc]; exact wl_4 (by omega)
          have := row (1 + j) (by omega)
          rw [e37a e2 j hj2, tm48a e2 j hj2, ← this]
          congr 1
          omega
        · rw [e37b e2, tm48b _ (Or.inl e2)]
          exact a1 j hj2
      · by_cases e2 : s = 1
        · have hl : ms_wl (7 * v + 4 + s) = 65 := by rw [Nat.add_assoc]; exact wl_5 (by omega)
          have := row (1 + j) (by omega)
          rw [e38a e2 j hj2, tm49a e2 j hj2, ← this]
          congr 1
          omega
        · rw [e38b e2, tm49b _ (Or.inl e2)]
          exact a2 j hj2
    · refine ⟨fun j hj2 => ?_, fun j hj2 => ?_⟩
      · rw [eo 37 (by omega) v e, tm48b _ (by omega)]
        exact a1 j hj2
      · rw [eo 38 (by omega) v e, tm49b _ (by omega)]
        exact a2 j hj2
  · intro hg v hv hs2 w hw
    rw [fr_at hj 34 rfl v, fr_at hj 35 rfl v]
    exact hF hg v hv hs2 w hw
  · intro v hv
    rw [fr_at hf 22 rfl v, fr_at hf 52 rfl 0, fr_at hf 24 rfl v, fr_at hf 53 rfl 0, fr_at hf 26 rfl v, fr_at hf 54 rfl 0, fr_at hf 28 rfl v, fr_at hf 55 rfl 0]
    exact hR v hv
  · exact ml_take hM hk (fun _ h => h) m1 m2 m3 m4 m5
  · intro j a b
    rw [fr_at hf 6 rfl 0]
    exact hz j a b
theorem hl_wl {u s : Nat} (hs : s < 4) : ms_wl (7 * u + s) = ms_hl s := by
  unfold ms_hl
  have c : s = 0 ∨ s = 1 ∨ s = 2 ∨ s = 3 := by omega
  rcases c with h | h | h | h
  · rw [wl_0 h, if_pos h]
  · rw [wl_1 h, if_neg (by omega), if_pos h]
  · rw [wl_2 h, if_neg (by omega), if_neg (by omega), if_pos h]
  · rw [wl_3 h, if_neg (by omega), if_neg (by omega), if_neg (by omega)]
/-- a message was heard -/
theorem iv_hr {n t g : Nat} {nm : Nat → Nat} {hd : Nat} {S T : Nat → Nat} {X : Nat → Nat → Nat} {m k u s : Nat} {Q : Nat → Nat} {I I' : ms_i} {J J' : ms_j} (h : ms_inv n t g nm hd S T X m Q I J) (hu : u < n) (hs : s < 4) (hk : k < m) (eQ : Q k = 7 * u + s) (eg : s = g) (rm : ms_rm I I' m k) (hc1 : ∀ j, j < ms_wl (7 * u + s) → I' (22 + 2 * s) u j = I 18 (7 * u + s) j) (hc2 : I' 19 0 = upd (I 19 0) 4 (I 19 0 4 ||| nI 1 <<< (nI u &&& 31))) (hc3 : ∀ v, v ≠ u → I' (22 + 2 * s) v = I (22 + 2 * s) v) (hm1 : ∀ j, j < ms_hl s → I' (52 + s) 0 (ms_hl s * u + j) = I 56 0 (70 * k + 4 + j)) (hm2 : ∀ i, i < ms_hl s * u ∨ ms_hl s * u + ms_hl s ≤ i → I' (52 + s) 0 i = I (52 + s) 0 i) (hm3 : I' 51 0 = upd (I 51 0) s (I 51 0 s ||| nI 1 <<< (nI u &&& 31))) (hf : ms_fq [14, 16, 19, 40, 51, 56, 22 + 2 * s, 52 + s] I I') (hj : ms_fq [66] J J') : ms_inv n t g nm (hd ||| 2 ^ u) S T X (m - 1) (fun i => Q (if i < k then i else i + 1)) I' J' := by
  obtain ⟨hA, hS, hH, hP, hX, hI, hN, hK, hF, hR, hM, hz⟩ := h
  obtain ⟨m1, m2, m3, m4, m5, m6⟩ := rm
  obtain ⟨q1, q2, q3, q4⟩ := hM.2.2.2.1 k hk
  rw [eQ] at q4
  obtain ⟨_, _, _, _, row⟩ := q4
  have n8 : n ≤ 8 := hA.2.2.2.2.2.2.2.2.1
  have ff : ∀ r, r < 22 ∨ 29 ≤ r → r < 51 ∨ 56 < r → r ≠ 14 → r ≠ 16 → r ≠ 19 → r ≠ 40 → ∀ v, I' r v = I r v := fun r a b c d e f v => by
    rw [hf r]
    simp only [List.mem_cons, List.not_mem_nil, or_false, not_or]
    omega
  have eR : nI hd ||| nI 1 <<< (nI u &&& 31) = nI (hd ||| 2 ^ u) := by rw [na_shl 1 (by omega), na_or, Nat.one_mul]
  have lR : hd ||| 2 ^ u < 2 ^ n := Nat.or_lt_two_pow hH.2.1 (Nat.pow_lt_pow_right (by decide) hu)
  refine ⟨?_, ?_, ?_, ?_, ?_, ?_, ?_, ?_, ?_, ?_, ?_, ?_⟩
  · unfold iv_A at hA ⊢
    rw [hc2, pk_un (by decide), pk_un (by decide), pk_un (by decide), pk_un (by decide), m6 1 (by decide) (by decide), m6 2 (by decide) (by decide), m6 3 (by decide) (by decide), m6 4 (by decide) (by decide), m6 23 (by decide) (by decide)]
    exact hA
  · intro z
    omega
  · obtain ⟨h1, h2, h3, h4, h5⟩ := hH
    refine ⟨?_, lR, ?_, ?_, ?_⟩
    · rw [ff 20 (by omega) (by omega) (by decide) (by decide) (by decide) (by decide), ff 50 (by omega) (by omega) (by decide) (by decide) (by decide) (by decide)]
      exact h1
    · rw [hc2, pk_us, h3, eR]
    · intro hg
      obtain ⟨h6, h7, h8⟩ := h4 hg
      rw [hm3, eg]
      refine ⟨by rw [pk_us, h6, eR], fun j j1 j2 => ?_, by rw [hc2, pk_un (by decide)]; exact h8⟩
      rw [pk_un (by omega)]
      exact h7 j j1 j2
    · intro z
      omega
  · intro v hv
    rw [ff 31 (by omega) (by omega) (by decide) (by decide) (by decide) (by decide), ff 43 (by omega) (by omega) (by decide) (by decide) (by decide) (by decide), ff 44 (by omega) (by omega) (by decide) (by decide) (by decide) (by decide), ff 45 (by omega) (by omega) (by decide) (by decide) (by decide) (by decide), ff 46 (by omega) (by omega) (by decide) (by decide) (by decide) (by decide)]
    exact hP v hv
  · intro v hv j hj2
    rw [fr_at hj 32 rfl v, fr_at hj 41 rfl 0]
    exact hX v hv j hj2
  · intro v hv j hj2
    rw [ff 33 (by omega) (by omega) (by decide) (by decide) (by decide) (by decide), ff 42 (by omega) (by omega) (by decide) (by decide) (by decide) (by decide)]
    exact hI v hv j hj2
  · intro v hv
    rw [ff 36 (by omega) (by omega) (by decide) (by decide) (by decide) (by decide), ff 47 (by omega) (by omega) (by decide) (by decide) (by decide) (by decide)]
    exact hN v hv
  · intro v hv
    rw [ff 37 (by omega) (by omega) (by decide) (by decide) (by decide) (by decide), ff 48 (by omega) (by omega) (by decide) (by decide) (by decide) (by decide), ff 38 (by omega) (by omega) (by decide) (by decide) (by decide) (by decide), ff 49 (by omega) (by omega) (by decide) (by decide) (by decide) (by decide)]
    exact hK v hv
  · intro hg v hv hs2 w hw
    rw [fr_at hj 34 rfl v, fr_at hj 35 rfl v]
    exact hF hg v hv hs2 w hw
  · -- the server's rows
    have gen : ∀ (r1 r2 L : Nat), (∀ v, v < 8 → ∀ j, j < L → I r1 v j = I r2 0 (L * v + j)) → (r1 ≠ 22 + 2 * s → ∀ v, I' r1 v = I r1 v) → (r2 ≠ 52 + s → I' r2 0 = I r2 0) → (r1 = 22 + 2 * s ↔ r2 = 52 + s) → (r2 = 52 + s → L = ms_hl s) → ∀ v, v < 8 → ∀ j, j < L → I' r1 v j = I' r2 0 (L * v + j) := by
      intro r1 r2 L h1 h2 h3 h4 h5 v hv j hj2
      by_cases e : r2 = 52 + s
      · have e1 := h4.mpr e
        have e3 := h5 e
        subst e3
        rw [e1, e]
        by_cases e2 : v = u
        · subst e2
          rw [hm1 j hj2, hc1 j (by rw [hl_wl hs]; exact hj2), row j (by rw [hl_wl hs]; exact hj2)]
        · rw [hc3 v e2, hm2 _ ?_, ← e1, ← e]
          · exact h1 v hv j hj2
          · rcases Nat.lt_or_ge v u with z | z
            · have : ms_hl s * v + ms_hl s ≤ ms_hl s * u := by rw [← Nat.mul_succ]; exact Nat.mul_le_mul_left _ z
              omega
            · have : ms_hl s * u + ms_hl s ≤ ms_hl s * v := by rw [← Nat.mul_succ]; exact Nat.mul_le_mul_left _ (by omega)
              omega
      · rw [h2 (fun z => e (h4.mp z)) v, h3 e]
        exact h1 v hv j hj2
    have f22 : ∀ r, r = 22 ∨ r = 24 ∨ r = 26 ∨ r = 28 → r ≠ 22 + 2 * s → ∀ v, I' r v = I r v := fun r hr hne v => by
      rw [hf r]
      simp only [List.mem_cons, List.not_mem_nil, or_false, not_or]
      omega
    have f52 : ∀ r, r = 52 ∨ r = 53 ∨ r = 54 ∨ r = 55 → r ≠ 52 + s → I' r 0 = I r 0 := fun r hr hne => by
      rw [hf r]
      simp only [List.mem_cons, List.not_mem_nil, or_false, not_or]
      omega
    have cs : s = 0 ∨ s = 1 ∨ s = 2 ∨ s = 3 := by omega
    intro v hv
    refine ⟨?_, ?_, ?_, ?_⟩
    · exact gen 22 52 4 (fun v hv => (hR v hv).1) (f22 22 (by omega)) (f52 52 (by omega)) (by omega) (fun z => by rw [show s = 0 by omega]; rfl) v hv
    · exact gen 24 53 64 (fun v hv => (hR v hv).2.1) (f22 24 (by omega)) (f52 53 (by omega)) (by omega) (fun z => by rw [show s = 1 by omega]; rfl) v hv
    · exact gen 26 54 4 (fun v hv => (hR v hv).2.2.1) (f22 26 (by omega)) (f52 54 (by omega)) (by omega) (fun z => by rw [show s = 2 by omega]; rfl) v hv
    · exact gen 28 55 17 (fun v hv => (hR v hv).2.2.2) (f22 28 (by omega)) (f52 55 (by omega)) (by omega) (fun z => by rw [show s = 3 by omega]; rfl) v hv
  · exact ml_take hM hk (fun _ h => h) m1 m2 m3 m4 m5
  · intro j a b
    rw [ff 6 (by omega) (by omega) (by decide) (by decide) (by decide) (by decide)]
    exact hz j a b
