/-! SHARES, in the model. -/
def ms_ek (T W : Nat → Int32) : Nat → Bool
  | 0 => true
  | i + 1 => ms_ek T W i && decide (T i = W i)
theorem oks_4 (T W : Nat → Int32) : ms_ek T W 4 = ms_ok4 T W := by
  show ((((true && decide (T 0 = W 0)) && decide (T 1 = W 1)) && decide (T 2 = W 2)) && decide (T 3 = W 3)) = _
  rw [Bool.true_and]
  rfl
section Mod3
variable {q : Nat × Nat} {w : Bool} {I : ms_i} {J : ms_j} {σ : ms_M}
theorem ok_l {u a0 v fr : Nat} {l4 l6 : Value} {T W : Nat → Int32} (hf : fr + 8 ≤ 512) (hT : ∀ i, i < 4 → I 64 0 i = T i) (hW : ∀ i, i < 4 → I 49 0 (fr + 4 + i) = W i) : ∀ d i, d + i = 4 → ms_G 48 196 [.ref (ms_ad 40 0), .int (nI u), .int (nI a0), .int (nI v), l4, .int (nI fr), l6, .null, .int (ms_b (ms_ek T W i)), .int (nI i)] [] (ms_Z q true I J) = ms_G 48 242 [.ref (ms_ad 40 0), .int (nI u), .int (nI a0), .int (nI v), l4, .int (nI fr), l6, .null, .int (ms_b (ms_ek T W 4)), .int (nI 4)] [] (ms_Z q true I J)
  | 0, i, hi => by
    have : i = 4 := by omega
    subst this
    simp (disch := omega) only [↓mi_48_196, ↓mi_48_198, ↓mi_48_199, na_le, if_pos]
  | d + 1, i, hi => by
    have ih := ok_l (u := u) (a0 := a0) (v := v) (l4 := l4) (l6 := l6) (T := T) (W := W) hf hT hW d (i + 1) (by omega)
    have e : ms_ek T W (i + 1) = (ms_ek T W i && decide (T i = W i)) := rfl
    have t1 := hT i (by omega)
    have t2 := hW i (by omega)
    rw [mi_48_196]
    cases hK : ms_ek T W i with
    | false =>
      rw [e, hK, Bool.false_and, show ms_b false = nI 0 from rfl] at ih
      simp (disch := omega) only [↓mi_48_198, ↓mi_48_199, ↓mi_48_202, ↓mi_48_204, ↓mi_48_207, ↓mi_48_208, ↓mi_48_211, ↓mi_48_213, ↓mi_48_214, ↓mi_48_215, ↓mi_48_218, ↓mi_48_220, ↓mi_48_221, ↓mi_48_222, ↓mi_48_224, ↓mi_48_225, ↓mi_48_226, ↓mi_48_229, ↓mi_48_230, ↓mi_48_233, ↓mi_48_234, ↓mi_48_236, ↓mi_48_239, cond_true, mz_clv, mz_cln, Bool.false_or, Bool.true_or, Bool.or_false, Bool.or_true, if_true, if_false, ite_self, na_le, na_up, if_neg, if_pos b_f]
      exact ih
    | true =>
      by_cases hc : T i = W i
      · rw [e, hK, decide_eq_true hc, Bool.true_and, show ms_b true = nI 1 from rfl] at ih
        simp (disch := omega) only [↓mi_48_198, ↓mi_48_199, ↓mi_48_202, ↓mi_48_204, ↓mi_48_207, ↓mi_48_208, ↓mi_48_211, ↓mi_48_213, ↓mi_48_214, ↓mi_48_215, ↓mi_48_218, ↓mi_48_220, ↓mi_48_221, ↓mi_48_222, ↓mi_48_224, ↓mi_48_225, ↓mi_48_226, ↓mi_48_229, ↓mi_48_230, ↓mi_48_233, ↓mi_48_234, ↓mi_48_236, ↓mi_48_239, cond_true, mz_clv, mz_cln, Bool.false_or, Bool.true_or, Bool.or_false, Bool.or_true, if_true, if_false, ite_self, o0_64, o0_49, na_le, na_up, if_neg, if_neg b_t, t1, t2, if_pos hc]
        exact ih
      · rw [e, hK, decide_eq_false hc, Bool.true_and, show ms_b false = nI 0 from rfl] at ih
        simp (disch := omega) only [↓mi_48_198, ↓mi_48_199, ↓mi_48_202, ↓mi_48_204, ↓mi_48_207, ↓mi_48_208, ↓mi_48_211, ↓mi_48_213, ↓mi_48_214, ↓mi_48_215, ↓mi_48_218, ↓mi_48_220, ↓mi_48_221, ↓mi_48_222, ↓mi_48_224, ↓mi_48_225, ↓mi_48_226, ↓mi_48_229, ↓mi_48_230, ↓mi_48_233, ↓mi_48_234, ↓mi_48_236, ↓mi_48_239, cond_true, mz_clv, mz_cln, Bool.false_or, Bool.true_or, Bool.or_false, Bool.or_true, if_true, if_false, ite_self, o0_64, o0_49, na_le, na_up, if_neg, if_neg b_t, t1, t2, if_neg hc]
        exact ih
/-- the end of a round of the loop: the share is noted -/
theorem nt_1 {u a0 v n a b g : Nat} {B : Bool} (hu : u < 8) (hv : v < 8) (ha : a0 < 4480) (la : a < 2 ^ v) (lb : b < 2 ^ v) (lg : g < 2 ^ v) (hA : I 45 0 u = nI a) (hB : I 46 0 u = nI b) (hG : I 56 0 a0 = nI g) : ∃ I', (∀ w l5 l6 l7 l8 l9, w = true → ms_G 48 336 [.ref (ms_ad 40 0), .int (nI u), .int (nI a0), .int (nI v), .int (ms_b B), l5, l6, l7, l8, l9] [] (ms_Z q w I J) = ms_G 48 12 [.ref (ms_ad 40 0), .int (nI u), .int (nI a0), .int (nI (v + 1)), .int (ms_b B), l5, l6, l7, l8, l9] [] (ms_Z q true I' J)) ∧ I' 56 0 a0 = nI (g + 2 ^ v) ∧ (∀ i, i ≠ a0 → I' 56 0 i = I 56 0 i) ∧ I' 45 0 u = nI (if B = true then a + 2 ^ v else a) ∧ I' 46 0 u = nI (if B = true then b else b + 2 ^ v) ∧ (∀ u', u' ≠ u → I' 45 0 u' = I 45 0 u' ∧ I' 46 0 u' = I 46 0 u') ∧ ms_fq [45, 46, 56] I I' := by
  have e1 := na_or1 (h := a) (v := v) (by omega) la
  have e2 := na_or1 (h := b) (v := v) (by omega) lb
  have e3 := na_or1 (h := g) (v := v) (by omega) lg
  cases B with
  | true =>
    refine ⟨ms_u (ms_u I 56 0 (upd (I 56 0) a0 (nI (g + 2 ^ v)))) 45 0 (upd (I 45 0) u (nI (a + 2 ^ v))), ?_, ?_, ?_, ?_, ?_, ?_, fr_tr (fr_u rfl) (fr_u rfl)⟩
    · intro w l5 l6 l7 l8 l9 hw
      subst hw
      simp (disch := omega) only [↓mi_48_336, ↓mi_48_337, ↓mi_48_340, ↓mi_48_341, ↓mi_48_342, ↓mi_48_343, ↓mi_48_344, ↓mi_48_345, ↓mi_48_346, ↓mi_48_347, ↓mi_48_348, ↓mi_48_350, ↓mi_48_353, ↓mi_48_354, ↓mi_48_357, ↓mi_48_358, ↓mi_48_359, ↓mi_48_360, ↓mi_48_361, ↓mi_48_362, ↓mi_48_363, ↓mi_48_364, ↓mi_48_365, ↓mi_48_380, ↓mi_48_383, cond_true, mz_clv, mz_cln, Bool.false_or, Bool.true_or, Bool.or_false, Bool.or_true, if_true, if_false, ite_self, ms_u_s, ms_u_r, ms_u_i, ms_u_u, o0_56, o0_45, hG, hA, e1, e3, na_up, if_neg b_t]
    · rw [ms_u_r _ _ _ _ (by decide), ms_u_s, pk_us]
    · intro i hi
      rw [ms_u_r _ _ _ _ (by decide), ms_u_s, pk_un hi]
    · rw [ms_u_s, pk_us, if_pos rfl]
    · rw [ms_u_r _ _ _ _ (by decide), ms_u_r _ _ _ _ (by decide), if_pos rfl, hB]
    · intro u' hu'
      rw [ms_u_s, pk_un hu', ms_u_r _ _ _ _ (by decide), ms_u_r _ _ _ _ (by decide)]
      exact ⟨rfl, rfl⟩
  | false =>
    refine ⟨ms_u (ms_u I 56 0 (upd (I 56 0) a0 (nI (g + 2 ^ v)))) 46 0 (upd (I 46 0) u (nI (b + 2 ^ v))), ?_, ?_, ?_, ?_, ?_, ?_, fr_tr (fr_u rfl) (fr_u rfl)⟩
    · intro w l5 l6 l7 l8 l9 hw
      subst hw
      simp (disch := omega) only [↓mi_48_336, ↓mi_48_337, ↓mi_48_340, ↓mi_48_341, ↓mi_48_342, ↓mi_48_343, ↓mi_48_344, ↓mi_48_345, ↓mi_48_346, ↓mi_48_347, ↓mi_48_348, ↓mi_48_350, ↓mi_48_368, ↓mi_48_369, ↓mi_48_372, ↓mi_48_373, ↓mi_48_374, ↓mi_48_375, ↓mi_48_376, ↓mi_48_377, ↓mi_48_378, ↓mi_48_379, ↓mi_48_380, ↓mi_48_383, cond_true, mz_clv, mz_cln, Bool.false_or, Bool.true_or, Bool.or_false, Bool.or_true, if_true, if_false, ite_self, ms_u_s, ms_u_r, ms_u_i, ms_u_u, o0_56, o0_46, hG, hB, e2, e3, na_up, if_pos b_f]
    · rw [ms_u_r _ _ _ _ (by decide), ms_u_s, pk_us]
    · intro i hi
      rw [ms_u_r _ _ _ _ (by decide), ms_u_s, pk_un hi]
    · rw [ms_u_r _ _ _ _ (by decide), ms_u_r _ _ _ _ (by decide), if_neg Bool.false_ne_true, hA]
    · rw [ms_u_s, pk_us, if_neg Bool.false_ne_true]
    · intro u' hu'
      rw [ms_u_s, pk_un hu', ms_u_r _ _ _ _ (by decide), ms_u_r _ _ _ _ (by decide)]
      exact ⟨rfl, rfl⟩
theorem ms_l {u a0 n t x0 x1 x2 : Nat} {nm1 nm2 : Int32} {ky bx : Nat → Int32} (hu : u < n) (hn : n ≤ 8) (ht : t ≤ 8) (ht2 : 2 ≤ t) (ha : a0 + 64 < 4480) (l0 : x0 < 2305843009213693951) (l1 : x1 < 2305843009213693951) (l2 : x2 < 2305843009213693951) (hbu : ms_bit nm1 u = true) : ∀ d v I J, d + v = n → I 40 0 1 = nI n → I 40 0 2 = nI t → I 47 0 (3 * u + 1) = nm1 → I 47 0 (3 * u + 2) = nm2 → (∀ k, k < 32 → I 48 0 (32 * u + k) = ky k) → (∀ k, k < 64 → I 49 0 (64 * u + k) = bx k) → J 41 0 (3 * u) = lN x0 → J 41 0 (3 * u + 1) = lN x1 → J 41 0 (3 * u + 2) = lN x2 → I 56 0 a0 = nI (ms_gs (ms_gv u x1 nm1 ky bx) v) → I 45 0 u = nI (ms_gs (fun v => ms_gv u x1 nm1 ky bx v && ms_bit nm2 v) v) → I 46 0 u = nI (ms_gs (fun v => ms_gv u x1 nm1 ky bx v && !ms_bit nm2 v) v) → (∀ i, 1 + 2 * v ≤ i → i < 17 → I 56 0 (a0 + i) = nI 0) → ∃ I' J', (∀ w l4 l5 l6 l7 l8 l9, w = true → ms_G 48 12 [.ref (ms_ad 40 0), .int (nI u), .int (nI a0), .int (nI v), l4, l5, l6, l7, l8, l9] [] (ms_Z q w I J) = some (.inl none, ms_Z q true I' J')) ∧ (∀ v', v ≤ v' → v' < n → ∀ i, i < 2 → I' 56 0 (a0 + 1 + 2 * v' + i) = ms_w3 u t x0 x1 x2 nm1 nm2 ky bx v' i) ∧ (∀ i, i < a0 ∨ (a0 < i ∧ i < a0 + 1 + 2 * v) ∨ a0 + 1 + 2 * n ≤ i → I' 56 0 i = I 56 0 i) ∧ I' 56 0 a0 = nI (ms_gs (ms_gv u x1 nm1 ky bx) n) ∧ I' 45 0 u = nI (ms_gs (fun v => ms_gv u x1 nm1 ky bx v && ms_bit nm2 v) n) ∧ I' 46 0 u = nI (ms_gs (fun v => ms_gv u x1 nm1 ky bx v && !ms_bit nm2 v) n) ∧ (∀ u', u' ≠ u → I' 45 0 u' = I 45 0 u' ∧ I' 46 0 u' = I 46 0 u') ∧ ms_fq [45, 46, 56, 58, 59, 63, 64] I I' ∧ ms_fq [60, 61, 62, 65] J J'
  | 0, v, I, J, hv, hN, hT, hM1, hM2, hK, hX, hA, hB, hC, hG, hG1, hG2, h0 => by
    have : v = n := by omega
    subst this
    refine ⟨I, J, ?_, fun v' a b => absurd a (by omega), fun _ _ => rfl, hG, hG1, hG2, fun _ _ => ⟨rfl, rfl⟩, fr_rf, fr_rf⟩
    intro w l4 l5 l6 l7 l8 l9 hw
    subst hw
    simp (disch := omega) only [↓mi_48_12, ↓mi_48_13, ↓mi_48_14, ↓mi_48_17, ↓mi_48_386, hN, na_le, if_pos]
  | d + 1, v, I, J, hv, hN, hT, hM1, hM2, hK, hX, hA, hB, hC, hG, hG1, hG2, h0 => by
    obtain ⟨G, eG⟩ : ∃ G, G = ms_gv u x1 nm1 ky bx := ⟨_, rfl⟩
    have s0 : ∀ H : Nat → Bool, ms_gs H (v + 1) = if H v = true then ms_gs H v + 2 ^ v else ms_gs H v := fun _ => rfl
    have p0 := gs_lt (ms_gv u x1 nm1 ky bx) v
    have p1 := gs_lt (fun v => ms_gv u x1 nm1 ky bx v && ms_bit nm2 v) v
    have p2 := gs_lt (fun v => ms_gv u x1 nm1 ky bx v && !ms_bit nm2 v) v
    -- a round that gives nothing
    have skip : ∀ I1 J1, ms_gv u x1 nm1 ky bx v = false → ms_fq [58, 59, 63, 64] I I1 → ms_fq [60, 61, 62, 65] J J1 → (∀ w l4 l5 l6 l7 l8 l9, w = true → ∃ l4' l5' l6' l7' l8' l9', ms_G 48 12 [.ref (ms_ad 40 0), .int (nI u), .int (nI a0), .int (nI v), l4, l5, l6, l7, l8, l9] [] (ms_Z q w I J) = ms_G 48 12 [.ref (ms_ad 40 0), .int (nI u), .int (nI a0), .int (nI (v + 1)), l4', l5', l6', l7', l8', l9'] [] (ms_Z q true I1 J1)) → ∃ I' J', (∀ w l4 l5 l6 l7 l8 l9, w = true → ms_G 48 12 [.ref (ms_ad 40 0), .int (nI u), .int (nI a0), .int (nI v), l4, l5, l6, l7, l8, l9] [] (ms_Z q w I J) = some (.inl none, ms_Z q true I' J')) ∧ (∀ v', v ≤ v' → v' < n → ∀ i, i < 2 → I' 56 0 (a0 + 1 + 2 * v' + i) = ms_w3 u t x0 x1 x2 nm1 nm2 ky bx v' i) ∧ (∀ i, i < a0 ∨ (a0 < i ∧ i < a0 + 1 + 2 * v) ∨ a0 + 1 + 2 * n ≤ i → I' 56 0 i = I 56 0 i) ∧ I' 56 0 a0 = nI (ms_gs (ms_gv u x1 nm1 ky bx) n) ∧ I' 45 0 u = nI (ms_gs (fun v => ms_gv u x1 nm1 ky bx v && ms_bit nm2 v) n) ∧ I' 46 0 u = nI (ms_gs (fun v => ms_gv u x1 nm1 ky bx v && !ms_bit nm2 v) n) ∧ (∀ u', u' ≠ u → I' 45 0 u' = I 45 0 u' ∧ I' 46 0 u' = I 46 0 u') ∧ ms_fq [45, 46, 56, 58, 59, 63, 64] I I' ∧ ms_fq [60, 61, 62, 65] J J' := by
      intro I1 J1 hg f1 j1 hr
      obtain ⟨I', J', r, w2, o2, c0, c1, c2, c3, f2, j2⟩ := ms_l (t := t) (nm1 := nm1) (nm2 := nm2) (ky := ky) (bx := bx) hu hn ht ht2 ha l0 l1 l2 hbu d (v + 1) I1 J1 (by omega) (by rw [fr_at f1 40 rfl 0]; exact hN) (by rw [fr_at f1 40 rfl 0]; exact hT) (by rw [fr_at f1 47 rfl 0]; exact hM1) (by rw [fr_at f1 47 rfl 0]; exact hM2) (by rw [fr_at f1 48 rfl 0]; exact hK) (by rw [fr_at f1 49 rfl 0]; exact hX) (by rw [fr_at j1 41 rfl 0]; exact hA) (by rw [fr_at j1 41 rfl 0]; exact hB) (by rw [fr_at j1 41 rfl 0]; exact hC) (by rw [fr_at f1 56 rfl 0, s0, hg]; exact hG) (by rw [fr_at f1 45 rfl 0, s0, hg]; exact hG1) (by rw [fr_at f1 46 rfl 0, s0, hg]; exact hG2) (fun i a b => by rw [fr_at f1 56 rfl 0]; exact h0 i (by omega) b)
      refine ⟨I', J', ?_, ?_, ?_, c0, c1, c2, ?_, fr_tr (fr_up f1 rfl) f2, fr_tr j1 j2⟩
      · intro w l4 l5 l6 l7 l8 l9 hw
        obtain ⟨l4', l5', l6', l7', l8', l9', hr2⟩ := hr w l4 l5 l6 l7 l8 l9 hw
        rw [hr2]
        exact r _ _ _ _ _ _ _ rfl
      · intro v' a b i hi
        by_cases e : v' = v
        · subst e
          rw [o2 _ (by omega), fr_at f1 56 rfl 0, Nat.add_assoc, Nat.add_assoc, ← Nat.add_assoc 1, h0 _ (by omega) (by omega)]
          exact (if_neg (by rw [hg]; exact Bool.false_ne_true)).symm
        · exact w2 v' (by omega) b i hi
      · intro i hi
        rw [o2 i (by omega), fr_at f1 56 rfl 0]
      · intro u' hu'
        have := c3 u' hu'
        rw [fr_at f1 45 rfl 0, fr_at f1 46 rfl 0] at this
        exact this
    -- a round that gives
    have give : ∀ I1 J1, ms_gv u x1 nm1 ky bx v = true → ms_fq [56, 58, 59, 63, 64] I I1 → ms_fq [60, 61, 62, 65] J J1 → (∀ i, i < 2 → I1 56 0 (a0 + 1 + 2 * v + i) = ms_w3 u t x0 x1 x2 nm1 nm2 ky bx v i) → (∀ i, i < a0 + 1 + 2 * v ∨ a0 + 3 + 2 * v ≤ i → I1 56 0 i = I 56 0 i) → (∀ w l4 l5 l6 l7 l8 l9, w = true → ∃ l5' l6' l7' l8' l9', ms_G 48 12 [.ref (ms_ad 40 0), .int (nI u), .int (nI a0), .int (nI v), l4, l5, l6, l7, l8, l9] [] (ms_Z q w I J) = ms_G 48 336 [.ref (ms_ad 40 0), .int (nI u), .int (nI a0), .int (nI v), .int (ms_b (ms_bit nm2 v)), l5', l6', l7', l8', l9'] [] (ms_Z q true I1 J1)) → ∃ I' J', (∀ w l4 l5 l6 l7 l8 l9, w = true → ms_G 48 12 [.ref (ms_ad 40 0), .int (nI u), .int (nI a0), .int (nI v), l4, l5, l6, l7, l8, l9] [] (ms_Z q w I J) = some (.inl none, ms_Z q true I' J')) ∧ (∀ v', v ≤ v' → v' < n → ∀ i, i < 2 → I' 56 0 (a0 + 1 + 2 * v' + i) = ms_w3 u t x0 x1 x2 nm1 nm2 ky bx v' i) ∧ (∀ i, i < a0 ∨ (a0 < i ∧ i < a0 + 1 + 2 * v) ∨ a0 + 1 + 2 * n ≤ i → I' 56 0 i = I 56 0 i) ∧ I' 56 0 a0 = nI (ms_gs (ms_gv u x1 nm1 ky bx) n) ∧ I' 45 0 u = nI (ms_gs (fun v => ms_gv u x1 nm1 ky bx v && ms_bit nm2 v) n) ∧ I' 46 0 u = nI (ms_gs (fun v => ms_gv u x1 nm1 ky bx v && !ms_bit nm2 v) n) ∧ (∀ u', u' ≠ u → I' 45 0 u' = I 45 0 u' ∧ I' 46 0 u' = I 46 0 u') ∧ ms_fq [45, 46, 56, 58, 59, 63, 64] I I' ∧ ms_fq [60, 61, 62, 65] J J' := by
      intro I1 J1 hg f1 j1 hw1 ho1 hr
      obtain ⟨I2, r2, k0, k1, k2, k3, k4, f2⟩ := nt_1 (q := q) (I := I1) (J := J1) (u := u) (a0 := a0) (v := v) (n := n) (B := ms_bit nm2 v) (by omega) (by omega) (by omega) p1 p2 p0 (by rw [fr_at f1 45 rfl 0]; exact hG1) (by rw [fr_at f1 46 rfl 0]; exact hG2) (by rw [ho1 _ (by omega)]; exact hG)
      have f12 : ms_fq [45, 46, 56, 58, 59, 63, 64] I I2 := fr_tr (fr_up f1 rfl) (fr_up f2 rfl)
      have e1 : ms_gs (fun v => ms_gv u x1 nm1 ky bx v && ms_bit nm2 v) (v + 1) = if ms_bit nm2 v = true then ms_gs (fun v => ms_gv u x1 nm1 ky bx v && ms_bit nm2 v) v + 2 ^ v else ms_gs (fun v => ms_gv u x1 nm1 ky bx v && ms_bit nm2 v) v := by rw [s0]; show (if (ms_gv u x1 nm1 ky bx v && ms_bit nm2 v) = true then _ else _) = _; rw [hg, Bool.true_and]
      have e2 : ms_gs (fun v => ms_gv u x1 nm1 ky bx v && !ms_bit nm2 v) (v + 1) = if ms_bit nm2 v = true then ms_gs (fun v => ms_gv u x1 nm1 ky bx v && !ms_bit nm2 v) v else ms_gs (fun v => ms_gv u x1 nm1 ky bx v && !ms_bit nm2 v) v + 2 ^ v := by
        rw [s0]
        show (if (ms_gv u x1 nm1 ky bx v && !ms_bit nm2 v) = true then _ else _) = _
        rw [hg, Bool.true_and]
        cases ms_bit nm2 v <;> rfl
      obtain ⟨I', J', r, w2, o2, c0, c1, c2, c3, f3, j3⟩ := ms_l (t := t) (nm1 := nm1) (nm2 := nm2) (ky := ky) (bx := bx) hu hn ht ht2 ha l0 l1 l2 hbu d (v + 1) I2 J1 (by omega) (by rw [fr_at f12 40 rfl 0]; exact hN) (by rw [fr_at f12 40 rfl 0]; exact hT) (by rw [fr_at f12 47 rfl 0]; exact hM1) (by rw [fr_at f12 47 rfl 0]; exact hM2) (by rw [fr_at f12 48 rfl 0]; exact hK) (by rw [fr_at f12 49 rfl 0]; exact hX) (by rw [fr_at j1 41 rfl 0]; exact hA) (by rw [fr_at j1 41 rfl 0]; exact hB) (by rw [fr_at j1 41 rfl 0]; exact hC) (by rw [k0, s0, hg]; rfl) (by rw [k2, e1]) (by rw [k3, e2]) (fun i a b => by rw [k1 _ (by omega), ho1 _ (by omega)]; exact h0 i (by omega) b)
      refine ⟨I', J', ?_, ?_, ?_, c0, c1, c2, ?_, fr_tr f12 f3, fr_tr j1 j3⟩
      · intro w l4 l5 l6 l7 l8 l9 hw
        obtain ⟨l5', l6', l7', l8', l9', hr2⟩ := hr w l4 l5 l6 l7 l8 l9 hw
        rw [hr2, r2 _ _ _ _ _ _ rfl]
        exact r _ _ _ _ _ _ _ rfl
      · intro v' a b i hi
        by_cases e : v' = v
        · subst e
          rw [o2 _ (by omega), k1 _ (by omega)]
          exact hw1 i hi
        · exact w2 v' (by omega) b i hi
      · intro i hi
        rw [o2 i (by omega), k1 i (by omega), ho1 i (by omega)]
      · intro u' hu'
        have := c3 u' hu'
        have h4 := k4 u' hu'
        rw [fr_at f1 45 rfl 0, fr_at f1 46 rfl 0] at h4
        exact ⟨this.1.trans h4.1, this.2.trans h4.2⟩
    cases hc : ms_bit nm1 v with
    | false =>
      have hvu : v ≠ u := fun z => by rw [z, hbu] at hc; cases hc
      refine skip I J (by unfold ms_gv; rw [decide_eq_false hvu, hc]; rfl) fr_rf fr_rf (fun w l4 l5 l6 l7 l8 l9 hw => ⟨l4, l5, l6, l7, l8, l9, ?_⟩)
      subst hw
      rw [mi_48_12]
      simp (disch := omega) only [↓mi_48_13, ↓mi_48_14, ↓mi_48_17, ↓mi_48_20, ↓mi_48_21, ↓mi_48_24, ↓mi_48_25, ↓mi_48_26, ↓mi_48_27, ↓mi_48_28, ↓mi_48_29, ↓mi_48_30, ↓mi_48_31, ↓mi_48_34, ↓mi_48_37, ↓mi_48_380, ↓mi_48_383, cond_true, mz_clv, mz_cln, Bool.false_or, Bool.true_or, Bool.or_false, Bool.or_true, if_true, if_false, ite_self, o0_47, hN, na_le, na_up, pk_mul, if_neg, hM1, sp_42, hc, if_pos b_f]
    | true =>
      by_cases hvu : v = u
      · have hg : ms_gv u x1 nm1 ky bx v = true := by unfold ms_gv; rw [decide_eq_true hvu]; rfl
        obtain ⟨wh, ewh⟩ : ∃ wh, wh = if ms_bit nm2 v = true then 1 else 0 := ⟨_, rfl⟩
        obtain ⟨xa, exa⟩ : ∃ xa, xa = if ms_bit nm2 v = true then x2 else x0 := ⟨_, rfl⟩
        have lxa : xa < 2305843009213693951 := by rw [exa]; split <;> assumption
        have lwh : wh < 2 := by rw [ewh]; split <;> decide
        obtain ⟨I1, r1, f1⟩ := sp_34 (q := q) (I := I) (J := J) (u := u) (wh := wh) (v := u) (seed := x2) (a := xa) (t := t) (by omega) lwh (by omega) ht ht2 l2 lxa hT hC (by
          rw [ewh, exa]
          cases ms_bit nm2 v with
          | true => exact hC
          | false => exact hA)
        obtain ⟨sv, esv⟩ : ∃ sv, sv = ms_sh xa (ms_cf x2 wh u) (u + 1) t := ⟨_, rfl⟩
        have lsv : sv < 2305843009213693951 := by rw [esv]; exact Nat.mod_lt _ (by decide)
        rw [← esv] at r1
        have w1 := sp_44 (q := q) (I := I1) (J := J) (at' := a0 + 1 + 2 * v) (v := sv) (by omega) (by omega)
        obtain ⟨I2, e2⟩ : ∃ I2, I2 = ms_u I1 56 0 (upd (upd (I1 56 0) (a0 + 1 + 2 * v) (nI sv)) (a0 + 1 + 2 * v + 1) (nI (sv / 4294967296))) := ⟨_, rfl⟩
        rw [← e2] at w1
        have e56 : I1 56 0 = I 56 0 := f1 56 0 (by decide) (by decide)
        refine give I2 J hg (by rw [e2]; exact fr_tr (fr_58 f1) (fr_u rfl)) fr_rf ?_ ?_ (fun w l4 l5 l6 l7 l8 l9 hw => ⟨l5, l6, l7, l8, l9, ?_⟩)
        · intro i hi
          unfold ms_w3 ms_tx3
          rw [if_pos hg, if_pos hvu, e2, ms_u_s]
          have : i = 0 ∨ i = 1 := by omega
          rw [hvu]
          rw [hvu] at exa ewh
          rcases this with h | h
          · subst h
            rw [pk_un (by omega)]
            refine pk_us.trans ?_
            rw [esv, exa, ewh]
            cases ms_bit nm2 u <;> rfl
          · subst h
            rw [pk_us, esv, exa, ewh]
            cases ms_bit nm2 u <;> rfl
        · intro i hi
          rw [e2, ms_u_s, pk_un (by omega), pk_un (by omega), e56]
        · subst hw
          rw [mi_48_12]
          cases hb2 : ms_bit nm2 v with
          | true =>
            rw [hb2, if_pos rfl] at ewh
            subst ewh
            subst hvu
            simp (disch := omega) only [↓mi_48_13, ↓mi_48_14, ↓mi_48_17, ↓mi_48_20, ↓mi_48_21, ↓mi_48_24, ↓mi_48_25, ↓mi_48_26, ↓mi_48_27, ↓mi_48_28, ↓mi_48_29, ↓mi_48_30, ↓mi_48_31, ↓mi_48_34, ↓mi_48_37, ↓mi_48_40, ↓mi_48_41, ↓mi_48_44, ↓mi_48_45, ↓mi_48_46, ↓mi_48_47, ↓mi_48_48, ↓mi_48_49, ↓mi_48_50, ↓mi_48_51, ↓mi_48_54, ↓mi_48_56, ↓mi_48_57, ↓mi_48_58, ↓mi_48_61, ↓mi_48_62, ↓mi_48_63, ↓mi_48_64, ↓mi_48_65, ↓mi_48_66, ↓mi_48_67, ↓mi_48_68, ↓mi_48_69, ↓mi_48_70, ↓mi_48_71, ↓mi_48_73, ↓mi_48_76, ↓mi_48_77, ↓mi_48_80, ↓mi_48_81, ↓mi_48_82, ↓mi_48_85, ↓mi_48_88, cond_true, mz_clv, mz_cln, Bool.false_or, Bool.true_or, Bool.or_false, Bool.or_true, if_true, if_false, ite_self, o0_47, hN, na_le, na_up, pk_mul, if_neg, hM1, hM2, sp_42, hc, hb2, if_neg b_t, r1, w1]
          | false =>
            rw [hb2, if_neg Bool.false_ne_true] at ewh
            subst ewh
            subst hvu
            simp (disch := omega) only [↓mi_48_13, ↓mi_48_14, ↓mi_48_17, ↓mi_48_20, ↓mi_48_21, ↓mi_48_24, ↓mi_48_25, ↓mi_48_26, ↓mi_48_27, ↓mi_48_28, ↓mi_48_29, ↓mi_48_30, ↓mi_48_31, ↓mi_48_34, ↓mi_48_37, ↓mi_48_40, ↓mi_48_41, ↓mi_48_44, ↓mi_48_45, ↓mi_48_46, ↓mi_48_47, ↓mi_48_48, ↓mi_48_49, ↓mi_48_50, ↓mi_48_51, ↓mi_48_54, ↓mi_48_56, ↓mi_48_57, ↓mi_48_58, ↓mi_48_61, ↓mi_48_62, ↓mi_48_63, ↓mi_48_64, ↓mi_48_65, ↓mi_48_66, ↓mi_48_67, ↓mi_48_68, ↓mi_48_69, ↓mi_48_70, ↓mi_48_71, ↓mi_48_73, ↓mi_48_76, ↓mi_48_77, ↓mi_48_80, ↓mi_48_81, ↓mi_48_82, ↓mi_48_85, ↓mi_48_88, cond_true, mz_clv, mz_cln, Bool.false_or, Bool.true_or, Bool.or_false, Bool.or_true, if_true, if_false, ite_self, o0_47, hN, na_le, na_up, pk_mul, if_neg, hM1, hM2, sp_42, hc, hb2, if_neg b_t, if_pos b_f, r1, w1]
      · have k1 := hK (4 * v + 2) (by omega)
        have k2 := hK (4 * v + 3) (by omega)
        rw [← Nat.add_assoc] at k1 k2
        have hbk : ms_bk x1 ky v < 2305843009213693951 := ms_pw_lt _ _
        have eb : ms_pw (ms_num (ky (4 * v + 2)) (ky (4 * v + 3))) x1 = ms_bk x1 ky v := rfl
        obtain ⟨K, eK⟩ : ∃ K, K = ms_bk x1 ky v := ⟨_, rfl⟩
        rw [← eK] at eb hbk
        have hx : ∀ i, i < 8 → I 49 0 (64 * u + 8 * v + i) = bx (8 * v + i) := fun i hi => by
          have := hX (8 * v + i) (by omega)
          rw [← Nat.add_assoc] at this
          exact this
        have y0 : I 49 0 (64 * u + 8 * v) = bx (8 * v) := hx 0 (by decide)
        have y1 := hx 1 (by decide)
        have y2 := hx 2 (by decide)
        have y3 := hx 3 (by decide)
        obtain ⟨I1, J1, r1, t1, f1, j1⟩ := sp_31 (q := q) (I := I) (J := J) (v := K) (a := nI v) (b := nI u) (c0 := bx (8 * v)) (c1 := bx (8 * v + 1)) (c2 := bx (8 * v + 2)) (c3 := bx (8 * v + 3)) hbk
        have z49 : I1 49 0 = I 49 0 := f1 49 0 (by decide) (by decide) (by decide) (by decide)
        obtain ⟨W, eW⟩ : ∃ W : Nat → Int32, W = fun i => bx (8 * v + 4 + i) := ⟨_, rfl⟩
        obtain ⟨T, eT⟩ : ∃ T : Nat → Int32, T = ms_tag K (nI v) (nI u) (bx (8 * v)) (bx (8 * v + 1)) (bx (8 * v + 2)) (bx (8 * v + 3)) := ⟨_, rfl⟩
        have ol := fun l4 => ok_l (q := q) (I := I1) (J := J1) (u := u) (a0 := a0) (v := v) (fr := 64 * u + 8 * v) (l4 := l4) (l6 := .long (lN K)) (T := T) (W := W) (by omega) (fun i hi => by rw [eT]; exact t1 i hi) (fun i hi => by rw [z49, eW, show 64 * u + 8 * v + 4 + i = 64 * u + 8 * v + (4 + i) by omega, hx (4 + i) (by omega), ← Nat.add_assoc]) 4 0 rfl
        rw [oks_4] at ol
        have hgk : ms_gv u x1 nm1 ky bx v = ms_ok4 T W := by unfold ms_gv; rw [decide_eq_false hvu, hc, ← eK, ← eT, ← eW]; rfl
        cases ho : ms_ok4 T W with
        | false =>
          refine skip I1 J1 (hgk.trans ho) (fun r hr => ?_) (fr_31J j1) (fun w l4 l5 l6 l7 l8 l9 hw => ?_)
          · funext u'
            simp only [List.mem_cons, List.not_mem_nil, or_false, not_or] at hr
            exact f1 r u' (by omega) (by omega) (by omega) (by omega)
          · rw [ho] at ol
            refine ⟨.int (ms_b (ms_bit nm2 v)), .int (nI (64 * u + 8 * v)), .long (lN K), .null, .int (ms_b false), .int (nI 4), ?_⟩
            subst hw
            rw [mi_48_12]
            simp (disch := omega) only [↓mi_48_13, ↓mi_48_14, ↓mi_48_17, ↓mi_48_20, ↓mi_48_21, ↓mi_48_24, ↓mi_48_25, ↓mi_48_26, ↓mi_48_27, ↓mi_48_28, ↓mi_48_29, ↓mi_48_30, ↓mi_48_31, ↓mi_48_34, ↓mi_48_37, ↓mi_48_40, ↓mi_48_41, ↓mi_48_44, ↓mi_48_45, ↓mi_48_46, ↓mi_48_47, ↓mi_48_48, ↓mi_48_49, ↓mi_48_50, ↓mi_48_51, ↓mi_48_54, ↓mi_48_56, ↓mi_48_57, ↓mi_48_58, ↓mi_48_91, ↓mi_48_93, ↓mi_48_94, ↓mi_48_95, ↓mi_48_97, ↓mi_48_98, ↓mi_48_99, ↓mi_48_100, ↓mi_48_102, ↓mi_48_103, ↓mi_48_104, ↓mi_48_107, ↓mi_48_109, ↓mi_48_110, ↓mi_48_111, ↓mi_48_112, ↓mi_48_113, ↓mi_48_114, ↓mi_48_115, ↓mi_48_116, ↓mi_48_117, ↓mi_48_118, ↓mi_48_119, ↓mi_48_122, ↓mi_48_124, ↓mi_48_125, ↓mi_48_126, ↓mi_48_127, ↓mi_48_128, ↓mi_48_129, ↓mi_48_130, ↓mi_48_131, ↓mi_48_132, ↓mi_48_133, ↓mi_48_134, ↓mi_48_137, ↓mi_48_138, ↓mi_48_139, ↓mi_48_140, ↓mi_48_141, ↓mi_48_142, ↓mi_48_143, ↓mi_48_146, ↓mi_48_148, ↓mi_48_149, ↓mi_48_151, ↓mi_48_152, ↓mi_48_153, ↓mi_48_154, ↓mi_48_157, ↓mi_48_159, ↓mi_48_160, ↓mi_48_161, ↓mi_48_164, ↓mi_48_166, ↓mi_48_167, ↓mi_48_168, ↓mi_48_169, ↓mi_48_170, ↓mi_48_173, ↓mi_48_175, ↓mi_48_176, ↓mi_48_177, ↓mi_48_178, ↓mi_48_179, ↓mi_48_182, ↓mi_48_184, ↓mi_48_185, ↓mi_48_186, ↓mi_48_187, ↓mi_48_190, ↓mi_48_191, ↓mi_48_193, ↓mi_48_194, cond_true, mz_clv, mz_cln, Bool.false_or, Bool.true_or, Bool.or_false, Bool.or_true, if_true, if_false, ite_self, o0_47, o0_48, o0_49, o1_41, hN, na_le, na_eq, na_up, pk_mul, if_neg, if_neg hvu, hM1, hM2, sp_42, hc, if_neg b_t, k1, k2, hB, sp_33, eb, y0, y1, y2, y3, r1]
            refine Eq.trans (ol (.int (ms_b (ms_bit nm2 v)))) ?_
            simp (disch := omega) only [↓mi_48_242, ↓mi_48_244, ↓mi_48_247, ↓mi_48_380, ↓mi_48_383, na_up, if_pos b_f]
        | true =>
          rw [ho] at ol
          have m3 := sp_26 (q := q) (I := I1) (J := J1) (v := K) (n := nI 1) (a := nI v) (b := nI u) (c := nI 1) hbk
          obtain ⟨I3, e3⟩ : ∃ I3, I3 = ms_mxI I1 K (nI 1) (nI v) (nI u) (nI 1) := ⟨_, rfl⟩
          rw [← e3] at m3
          have b3 : ∀ i, i < 16 → I3 59 0 i = ms_blk K (nI 1) (nI v) (nI u) (nI 1) i := fun i hi => by rw [e3, mx_word hi]
          have z3 : ∀ i, i < 8 → I3 49 0 (64 * u + 8 * v + i) = bx (8 * v + i) := fun i hi => by rw [e3, mx_else (by decide) (by decide), z49]; exact hx i hi
          have e56 : I3 56 0 = I 56 0 := by rw [e3, mx_else (by decide) (by decide), f1 56 0 (by decide) (by decide) (by decide) (by decide)]
          obtain ⟨fs, efs⟩ : ∃ fs, fs = if ms_bit nm2 v = true then 0 else 2 := ⟨_, rfl⟩
          have lfs : fs ≤ 2 := by rw [efs]; split <;> omega
          have a1 := z3 fs (by omega)
          have a2 := z3 (fs + 1) (by omega)
          rw [← Nat.add_assoc] at a2
          have c1 := b3 fs (by omega)
          have c2 := b3 (fs + 1) (by omega)
          obtain ⟨I4, e4⟩ : ∃ I4, I4 = ms_u I3 56 0 (upd (upd (I3 56 0) (a0 + 1 + 2 * v) (bx (8 * v + fs) ^^^ ms_blk K (nI 1) (nI v) (nI u) (nI 1) fs)) (a0 + 2 + 2 * v) (bx (8 * v + (fs + 1)) ^^^ ms_blk K (nI 1) (nI v) (nI u) (nI 1) (fs + 1))) := ⟨_, rfl⟩
          have fr4 : ms_fq [56, 58, 59, 63, 64] I I4 := by
            rw [e4]
            refine fr_tr (fr_tr (fr_31 f1) ?_) (fr_u rfl)
            rw [e3]
            exact fr_mx
          refine give I4 J1 (hgk.trans ho) fr4 (fr_31J j1) ?_ ?_ (fun w l4 l5 l6 l7 l8 l9 hw => ⟨.int (nI (64 * u + 8 * v)), .long (lN K), .null, .int (ms_b true), .int (nI fs), ?_⟩)
          · intro i hi
            unfold ms_w3 ms_tx3
            rw [if_pos (hgk.trans ho), if_neg hvu, ← efs, ← eK, e4, ms_u_s]
            have : i = 0 ∨ i = 1 := by omega
            rcases this with h | h
            · subst h
              rw [pk_un (by omega)]
              exact pk_us
            · subst h
              rw [show a0 + 1 + 2 * v + 1 = a0 + 2 + 2 * v by omega, pk_us]
          · intro i hi
            rw [e4, ms_u_s, pk_un (by omega), pk_un (by omega), e56]
          · subst hw
            have h9 : ∀ L' (B : Bool), B = ms_bit nm2 v → ms_G 48 260 [.ref (ms_ad 40 0), .int (nI u), .int (nI a0), .int (nI v), .int (ms_b B), .int (nI (64 * u + 8 * v)), .long (lN K), .null, .int (ms_b true), L'] [] (ms_Z q true I3 J1) = ms_G 48 272 [.ref (ms_ad 40 0), .int (nI u), .int (nI a0), .int (nI v), .int (ms_b B), .int (nI (64 * u + 8 * v)), .long (lN K), .null, .int (ms_b true), .int (nI fs)] [] (ms_Z q true I3 J1) := by
              intro L' B eB
              rw [← eB] at efs
              cases B with
              | true =>
                rw [if_pos rfl] at efs
                subst efs
                simp (disch := omega) only [↓mi_48_260, ↓mi_48_262, ↓mi_48_265, ↓mi_48_266, ↓mi_48_269, ↓mi_48_270, if_neg b_t]
              | false =>
                rw [if_neg Bool.false_ne_true] at efs
                subst efs
                simp (disch := omega) only [↓mi_48_260, ↓mi_48_262, ↓mi_48_265, ↓mi_48_266, ↓mi_48_269, ↓mi_48_270, if_pos b_f]
            rw [mi_48_12]
            simp (disch := omega) only [↓mi_48_13, ↓mi_48_14, ↓mi_48_17, ↓mi_48_20, ↓mi_48_21, ↓mi_48_24, ↓mi_48_25, ↓mi_48_26, ↓mi_48_27, ↓mi_48_28, ↓mi_48_29, ↓mi_48_30, ↓mi_48_31, ↓mi_48_34, ↓mi_48_37, ↓mi_48_40, ↓mi_48_41, ↓mi_48_44, ↓mi_48_45, ↓mi_48_46, ↓mi_48_47, ↓mi_48_48, ↓mi_48_49, ↓mi_48_50, ↓mi_48_51, ↓mi_48_54, ↓mi_48_56, ↓mi_48_57, ↓mi_48_58, ↓mi_48_91, ↓mi_48_93, ↓mi_48_94, ↓mi_48_95, ↓mi_48_97, ↓mi_48_98, ↓mi_48_99, ↓mi_48_100, ↓mi_48_102, ↓mi_48_103, ↓mi_48_104, ↓mi_48_107, ↓mi_48_109, ↓mi_48_110, ↓mi_48_111, ↓mi_48_112, ↓mi_48_113, ↓mi_48_114, ↓mi_48_115, ↓mi_48_116, ↓mi_48_117, ↓mi_48_118, ↓mi_48_119, ↓mi_48_122, ↓mi_48_124, ↓mi_48_125, ↓mi_48_126, ↓mi_48_127, ↓mi_48_128, ↓mi_48_129, ↓mi_48_130, ↓mi_48_131, ↓mi_48_132, ↓mi_48_133, ↓mi_48_134, ↓mi_48_137, ↓mi_48_138, ↓mi_48_139, ↓mi_48_140, ↓mi_48_141, ↓mi_48_142, ↓mi_48_143, ↓mi_48_146, ↓mi_48_148, ↓mi_48_149, ↓mi_48_151, ↓mi_48_152, ↓mi_48_153, ↓mi_48_154, ↓mi_48_157, ↓mi_48_159, ↓mi_48_160, ↓mi_48_161, ↓mi_48_164, ↓mi_48_166, ↓mi_48_167, ↓mi_48_168, ↓mi_48_169, ↓mi_48_170, ↓mi_48_173, ↓mi_48_175, ↓mi_48_176, ↓mi_48_177, ↓mi_48_178, ↓mi_48_179, ↓mi_48_182, ↓mi_48_184, ↓mi_48_185, ↓mi_48_186, ↓mi_48_187, ↓mi_48_190, ↓mi_48_191, ↓mi_48_193, ↓mi_48_194, cond_true, mz_clv, mz_cln, Bool.false_or, Bool.true_or, Bool.or_false, Bool.or_true, if_true, if_false, ite_self, o0_47, o0_48, o0_49, o1_41, hN, na_le, na_eq, na_up, pk_mul, if_neg, if_neg hvu, hM1, hM2, sp_42, hc, if_neg b_t, k1, k2, hB, sp_33, eb, y0, y1, y2, y3, r1]
            refine Eq.trans (ol (.int (ms_b (ms_bit nm2 v)))) ?_
            simp (disch := omega) only [↓mi_48_242, ↓mi_48_244, ↓mi_48_247, ↓mi_48_250, ↓mi_48_251, ↓mi_48_253, ↓mi_48_254, ↓mi_48_255, ↓mi_48_256, ↓mi_48_257, cond_true, mz_clv, mz_cln, Bool.false_or, Bool.true_or, Bool.or_false, Bool.or_true, if_true, if_false, ite_self, if_neg b_t, m3]
            rw [h9 _ _ rfl]
            simp (disch := omega) only [↓mi_48_272, ↓mi_48_273, ↓mi_48_276, ↓mi_48_277, ↓mi_48_278, ↓mi_48_279, ↓mi_48_280, ↓mi_48_281, ↓mi_48_282, ↓mi_48_283, ↓mi_48_284, ↓mi_48_287, ↓mi_48_289, ↓mi_48_291, ↓mi_48_292, ↓mi_48_293, ↓mi_48_294, ↓mi_48_297, ↓mi_48_299, ↓mi_48_300, ↓mi_48_301, ↓mi_48_302, ↓mi_48_303, ↓mi_48_306, ↓mi_48_307, ↓mi_48_308, ↓mi_48_309, ↓mi_48_310, ↓mi_48_311, ↓mi_48_312, ↓mi_48_313, ↓mi_48_314, ↓mi_48_317, ↓mi_48_319, ↓mi_48_321, ↓mi_48_322, ↓mi_48_323, ↓mi_48_324, ↓mi_48_325, ↓mi_48_326, ↓mi_48_329, ↓mi_48_331, ↓mi_48_332, ↓mi_48_333, ↓mi_48_334, ↓mi_48_335, cond_true, mz_clv, mz_cln, Bool.false_or, Bool.true_or, Bool.or_false, Bool.or_true, if_true, if_false, ite_self, ms_u_s, ms_u_r, ms_u_i, ms_u_u, o0_49, o0_56, o0_59, na_up, pk_mul, a1, a2, c1, c2, e4]
theorem sp_48 {u m n t x0 x1 x2 : Nat} {nm1 nm2 : Int32} {ky bx : Nat → Int32} (hu : u < n) (hn : n ≤ 8) (ht : t ≤ 8) (ht2 : 2 ≤ t) (hm : m < 56) (l0 : x0 < 2305843009213693951) (l1 : x1 < 2305843009213693951) (l2 : x2 < 2305843009213693951) (hbu : ms_bit nm1 u = true) (hS : I 40 0 20 = nI m) (hN : I 40 0 1 = nI n) (hT : I 40 0 2 = nI t) (hM1 : I 47 0 (3 * u + 1) = nm1) (hM2 : I 47 0 (3 * u + 2) = nm2) (hK : ∀ k, k < 32 → I 48 0 (32 * u + k) = ky k) (hX : ∀ k, k < 64 → I 49 0 (64 * u + k) = bx k) (hA : J 41 0 (3 * u) = lN x0) (hB : J 41 0 (3 * u + 1) = lN x1) (hC : J 41 0 (3 * u + 2) = lN x2) (hG1 : I 45 0 u = nI 0) (hG2 : I 46 0 u = nI 0) (hb : ∀ v, n ≤ v → v < 8 → ms_bit nm1 v = false) : ∃ I' J', ms_G 48 0 [.ref (ms_ad 40 0), .int (nI u), .null, .null, .null, .null, .null, .null, .null, .null] [] (ms_Z q false I J) = some (.inl none, ms_Z q true I' J') ∧ (∀ i, i < 17 → I' 56 0 (70 * m + 4 + i) = if i = 0 then nI (ms_gs (ms_gv u x1 nm1 ky bx) 8) else ms_w3 u t x0 x1 x2 nm1 nm2 ky bx ((i - 1) / 2) ((i - 1) % 2)) ∧ (∀ i, i < 70 * m + 4 → I' 56 0 i = ms_po m 3 u 0 17 (I 56 0) i) ∧ I' 40 0 = upd (I 40 0) 20 (nI (m + 1)) ∧ I' 45 0 u = nI (ms_gs (fun v => ms_gv u x1 nm1 ky bx v && ms_bit nm2 v) 8) ∧ I' 46 0 u = nI (ms_gs (fun v => ms_gv u x1 nm1 ky bx v && !ms_bit nm2 v) 8) ∧ (∀ u', u' ≠ u → I' 45 0 u' = I 45 0 u' ∧ I' 46 0 u' = I 46 0 u') ∧ ms_fq [40, 45, 46, 56, 58, 59, 63, 64] I I' ∧ ms_fq [60, 61, 62, 65] J J' := by
  have hgh : ∀ v, n ≤ v → v < 8 → ms_gv u x1 nm1 ky bx v = false := fun v a b => by unfold ms_gv; rw [decide_eq_false (by omega), hb v a b]; rfl
  have p1 := sp_40 (q := q) (J := J) (s := 3) (u := u) (b := 0) (l := 17) hm (by decide) hS
  obtain ⟨I1, e1⟩ : ∃ I1, I1 = ms_u (ms_u I 56 0 (ms_po m 3 u 0 17 (I 56 0))) 40 0 (upd (I 40 0) 20 (nI (m + 1))) := ⟨_, rfl⟩
  rw [← e1] at p1
  have e56 : I1 56 0 = ms_po m 3 u 0 17 (I 56 0) := by rw [e1, ms_u_r _ _ _ _ (by decide), ms_u_s]
  have e40 : I1 40 0 = upd (I 40 0) 20 (nI (m + 1)) := by rw [e1, ms_u_s]
  have fr1 : ms_fq [40, 56] I I1 := by rw [e1]; exact fr_tr (fr_u rfl) (fr_u rfl)
  have z0 : I1 56 0 (70 * m + 4) = nI 0 := by rw [e56]; exact po_z (i := 0) (by omega)
  obtain ⟨I2, J2, r2, w2, o2, c0, c1, c2, c3, f2, j2⟩ := ms_l (q := q) (t := t) (nm1 := nm1) (nm2 := nm2) (ky := ky) (bx := bx) hu hn ht ht2 (show 70 * m + 4 + 64 < 4480 by omega) l0 l1 l2 hbu n 0 I1 J rfl (by rw [e40, pk_un (by decide)]; exact hN) (by rw [e40, pk_un (by decide)]; exact hT) (by rw [fr_at fr1 47 rfl 0]; exact hM1) (by rw [fr_at fr1 47 rfl 0]; exact hM2) (by rw [fr_at fr1 48 rfl 0]; exact hK) (by rw [fr_at fr1 49 rfl 0]; exact hX) hA hB hC z0 (by rw [fr_at fr1 45 rfl 0]; exact hG1) (by rw [fr_at fr1 46 rfl 0]; exact hG2) (fun i _ hi => by rw [e56, po_z (by omega)])
  refine ⟨I2, J2, ?_, ?_, ?_, ?_, ?_, ?_, ?_, ?_, j2⟩
  · simp (disch := omega) only [↓mi_48_0, ↓mi_48_1, ↓mi_48_2, ↓mi_48_3, ↓mi_48_4, ↓mi_48_6, ↓mi_48_9, ↓mi_48_10, ↓mi_48_11, cond_true, mz_clv, mz_cln, Bool.false_or, Bool.true_or, Bool.or_false, Bool.or_true, if_true, if_false, ite_self, p1]
    exact r2 _ _ _ _ _ _ _ rfl
  · intro i hi
    by_cases h0 : i = 0
    · subst h0
      rw [if_pos rfl, Nat.add_zero, c0, gs_hi hgh 8 hn (by omega)]
    · rw [if_neg h0]
      by_cases h : (i - 1) / 2 < n
      · have := w2 ((i - 1) / 2) (by omega) h ((i - 1) % 2) (by omega)
        rw [show 70 * m + 4 + 1 + 2 * ((i - 1) / 2) + (i - 1) % 2 = 70 * m + 4 + i by omega] at this
        exact this
      · rw [o2 _ (by omega), e56, po_z (by omega)]
        exact (if_neg (by rw [hgh _ (by omega) (by omega)]; exact Bool.false_ne_true)).symm
  · intro i hi
    rw [o2 _ (by omega), e56]
  · rw [fr_at f2 40 rfl 0, e40]
  · rw [c1, gs_hi (fun v a b => by rw [hgh v a b]; rfl) 8 hn (by omega)]
  · rw [c2, gs_hi (fun v a b => by rw [hgh v a b]; rfl) 8 hn (by omega)]
  · intro u' hu'
    have := c3 u' hu'
    rw [fr_at fr1 45 rfl 0, fr_at fr1 46 rfl 0] at this
    exact this
  · exact fr_tr (fr_up fr1 rfl) (fr_up f2 rfl)
end Mod3
