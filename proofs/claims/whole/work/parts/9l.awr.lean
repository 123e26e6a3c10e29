/-! THE SERVER'S ANSWERS. -/
def ms_an (s u : Nat) (nm : Int32) (ky bx : Nat → Nat → Int32) (i : Nat) : Int32 := if i = 0 then nm else if s = 0 then (if ms_bit nm ((i - 1) / 4) = true then ky ((i - 1) / 4) ((i - 1) % 4) else nI 0) else (if (i - 1) / 8 ≠ u ∧ ms_bit nm ((i - 1) / 8) = true then bx ((i - 1) / 8) (8 * u + (i - 1) % 8) else nI 0)
def ms_ct (x : Int32) : Nat → Nat
  | 0 => 0
  | v + 1 => if ms_bit x v = true then ms_ct x v + 1 else ms_ct x v
theorem ct_le (x : Int32) : ∀ v, ms_ct x v ≤ v
  | 0 => Nat.le_refl 0
  | v + 1 => by
    have := ct_le x v
    unfold ms_ct
    split <;> omega
theorem ct_mono {x : Int32} {u : Nat} : ∀ v, u ≤ v → ms_ct x u ≤ ms_ct x v
  | 0, h => by rw [show u = 0 by omega]; exact Nat.le_refl _
  | v + 1, h => by
    by_cases e : u = v + 1
    · rw [e]; exact Nat.le_refl _
    · have := ct_mono (x := x) v (show u ≤ v by omega)
      have e2 : ms_ct x (v + 1) = if ms_bit x v = true then ms_ct x v + 1 else ms_ct x v := rfl
      rw [e2]
      split <;> omega
theorem ct_hi {x : Int32} {n : Nat} (h : ∀ u, n ≤ u → u < 8 → ms_bit x u = false) : ∀ m, n ≤ m → m ≤ 8 → ms_ct x m = ms_ct x n
  | 0, hm, _ => by rw [show n = 0 by omega]
  | m + 1, hm, h8 => by
    by_cases e : n = m + 1
    · rw [e]
    · rw [← ct_hi h m (by omega) (by omega)]
      exact if_neg (fun z => by rw [h m (by omega) (by omega)] at z; cases z)
section Awr
variable {q : Nat × Nat} {w : Bool} {I : ms_i} {J : ms_j} {σ : ms_M}
theorem wk_l {p : Nat} {nm : Int32} (hp : p < 56) (hl : ms_wl p = 33) : ∀ d v I w, d + v = 8 → I 20 0 0 = nm → ∃ I' w', ms_G 125 2 [.ref (ms_ad 19 0), .ref (ms_ad 18 p), .int (nI v)] [] (ms_Z q w I J) = some (.inl none, ms_Z q w' I' J) ∧ (∀ v', v ≤ v' → v' < 8 → ∀ j, j < 4 → I' 18 p (1 + 4 * v' + j) = if ms_bit nm v' = true then I 22 v' j else I 18 p (1 + 4 * v' + j)) ∧ (∀ i, i < 1 + 4 * v → I' 18 p i = I 18 p i) ∧ (∀ r u', (r ≠ 18 ∨ u' ≠ p) → I' r u' = I r u')
  | 0, v, I, w, hv, hN => by
    have : v = 8 := by omega
    subst this
    refine ⟨I, w, ?_, fun v' a b => absurd a (by omega), fun _ _ => rfl, fun _ _ _ => rfl⟩
    simp (disch := omega) only [↓mi_125_2, ↓mi_125_3, ↓mi_125_5, ↓mi_125_44, na_le, if_pos]
  | d + 1, v, I, w, hv, hN => by
    cases hc : ms_bit nm v with
    | false =>
      obtain ⟨I', w', r, a, b, c⟩ := wk_l (nm := nm) hp hl d (v + 1) I w (by omega) hN
      refine ⟨I', w', ?_, ?_, fun i hi => b i (by omega), c⟩
      · rw [mi_125_2]
        simp (disch := omega) only [↓mi_125_3, ↓mi_125_5, ↓mi_125_8, ↓mi_125_9, ↓mi_125_12, ↓mi_125_13, ↓mi_125_14, ↓mi_125_15, ↓mi_125_18, ↓mi_125_38, ↓mi_125_41, cond_true, mz_clv, mz_cln, Bool.false_or, Bool.true_or, Bool.or_false, Bool.or_true, if_true, if_false, ite_self, o0_20, na_le, na_up, if_neg, hN, sp_15, hc, if_pos b_f]
        exact r
      · intro v' a1 a2 j hj
        by_cases e : v' = v
        · subst e
          rw [b _ (by omega), hc]
          rfl
        · exact a v' (by omega) a2 j hj
    | true =>
      have hcp : mo_c q.1 22 v 18 p 0 (1 + 4 * v) 4 = true := mo_c_ok rfl rfl (show v < 8 by omega) hp (show 0 + 4 ≤ 4 by decide) (show 1 + 4 * v + 4 ≤ ms_wl p by omega) (by decide) (by omega)
      obtain ⟨I1, e1⟩ : ∃ I1, I1 = ms_u I 18 p (va_cpy (I 22 v) (I 18 p) 0 (1 + 4 * v) 4) := ⟨_, rfl⟩
      have g1 : ∀ r u', (r ≠ 18 ∨ u' ≠ p) → I1 r u' = I r u' := fun r u' hne => by
        rw [e1]
        exact if_neg fun z => by rcases hne with h | h <;> omega
      have o1 : ∀ i, i < 1 + 4 * v ∨ 1 + 4 * v + 4 ≤ i → I1 18 p i = I 18 p i := fun i hi => by rw [e1, ms_u_s, pk_cpy_out hi]
      obtain ⟨I', w', r, a, b, c⟩ := wk_l (nm := nm) hp hl d (v + 1) I1 true (by omega) (by rw [g1 20 0 (Or.inl (by decide))]; exact hN)
      refine ⟨I', w', ?_, ?_, ?_, ?_⟩
      · rw [mi_125_2]
        simp (disch := omega) only [↓mi_125_3, ↓mi_125_5, ↓mi_125_8, ↓mi_125_9, ↓mi_125_12, ↓mi_125_13, ↓mi_125_14, ↓mi_125_15, ↓mi_125_18, ↓mi_125_21, ↓mi_125_22, ↓mi_125_25, ↓mi_125_26, ↓mi_125_27, ↓mi_125_28, ↓mi_125_29, ↓mi_125_30, ↓mi_125_31, ↓mi_125_32, ↓mi_125_33, ↓mi_125_34, ↓mi_125_35, ↓mi_125_38, ↓mi_125_41, cond_true, mz_clv, mz_cln, Bool.false_or, Bool.true_or, Bool.or_false, Bool.or_true, if_true, if_false, ite_self, o0_20, o2_21, er_21, na_le, na_up, pk_mul, if_neg, hN, sp_15, hc, if_neg b_t, hcp, ← e1]
        exact r
      · intro v' a1 a2 j hj
        by_cases e : v' = v
        · subst e
          rw [b _ (by omega), if_pos hc, e1, ms_u_s, pk_cpy_in (by omega) (by omega), show 0 + (1 + 4 * v' + j - (1 + 4 * v')) = j by omega]
        · rw [a v' (by omega) a2 j hj, g1 22 v' (Or.inl (by decide)), o1 _ (by omega)]
      · intro i hi
        rw [b i (by omega), o1 i (by omega)]
      · intro r' u' hne
        rw [c r' u' hne, g1 r' u' hne]
theorem wx_l {p u : Nat} {nm : Int32} (hp : p < 56) (hu : u < 8) (hl : ms_wl p = 65) : ∀ d v I w, d + v = 8 → I 20 0 1 = nm → ∃ I' w', ms_G 126 2 [.ref (ms_ad 19 0), .ref (ms_ad 18 p), .int (nI u), .int (nI v)] [] (ms_Z q w I J) = some (.inl none, ms_Z q w' I' J) ∧ (∀ v', v ≤ v' → v' < 8 → ∀ j, j < 8 → I' 18 p (1 + 8 * v' + j) = if v' ≠ u ∧ ms_bit nm v' = true then I 24 v' (8 * u + j) else I 18 p (1 + 8 * v' + j)) ∧ (∀ i, i < 1 + 8 * v → I' 18 p i = I 18 p i) ∧ (∀ r u', (r ≠ 18 ∨ u' ≠ p) → I' r u' = I r u')
  | 0, v, I, w, hv, hN => by
    have : v = 8 := by omega
    subst this
    refine ⟨I, w, ?_, fun v' a b => absurd a (by omega), fun _ _ => rfl, fun _ _ _ => rfl⟩
    simp (disch := omega) only [↓mi_126_2, ↓mi_126_3, ↓mi_126_5, ↓mi_126_54, na_le, if_pos]
  | d + 1, v, I, w, hv, hN => by
    by_cases hskip : v = u ∨ ms_bit nm v = false
    · obtain ⟨I', w', r, a, b, c⟩ := wx_l (nm := nm) hp hu hl d (v + 1) I w (by omega) hN
      refine ⟨I', w', ?_, ?_, fun i hi => b i (by omega), c⟩
      · rw [mi_126_2]
        by_cases hvu : v = u
        · simp (disch := omega) only [↓mi_126_3, ↓mi_126_5, ↓mi_126_8, ↓mi_126_9, ↓mi_126_10, ↓mi_126_48, ↓mi_126_51, na_le, na_eq, na_up, if_neg, if_pos hvu]
          exact r
        · have hc := hskip.resolve_left hvu
          simp (disch := omega) only [↓mi_126_3, ↓mi_126_5, ↓mi_126_8, ↓mi_126_9, ↓mi_126_10, ↓mi_126_13, ↓mi_126_14, ↓mi_126_17, ↓mi_126_18, ↓mi_126_19, ↓mi_126_20, ↓mi_126_23, ↓mi_126_48, ↓mi_126_51, cond_true, mz_clv, mz_cln, Bool.false_or, Bool.true_or, Bool.or_false, Bool.or_true, if_true, if_false, ite_self, o0_20, na_le, na_eq, na_up, if_neg, hN, sp_15, hc, if_pos b_f]
          exact r
      · intro v' a1 a2 j hj
        by_cases e : v' = v
        · subst e
          rw [b _ (by omega), if_neg (fun z => by
            rcases hskip with h | h
            · exact z.1 h
            · rw [h] at z; cases z.2)]
        · exact a v' (by omega) a2 j hj
    · have hvu : v ≠ u := fun z => hskip (Or.inl z)
      have hc : ms_bit nm v = true := by
        cases h : ms_bit nm v with
        | true => rfl
        | false => exact absurd (Or.inr h) hskip
      have hcp : mo_c q.1 24 v 18 p (8 * u) (1 + 8 * v) 8 = true := mo_c_ok rfl rfl (show v < 8 by omega) hp (show 8 * u + 8 ≤ 64 by omega) (show 1 + 8 * v + 8 ≤ ms_wl p by omega) (by omega) (by omega)
      obtain ⟨I1, e1⟩ : ∃ I1, I1 = ms_u I 18 p (va_cpy (I 24 v) (I 18 p) (8 * u) (1 + 8 * v) 8) := ⟨_, rfl⟩
      have g1 : ∀ r u', (r ≠ 18 ∨ u' ≠ p) → I1 r u' = I r u' := fun r u' hne => by
        rw [e1]
        exact if_neg fun z => by rcases hne with h | h <;> omega
      have o1 : ∀ i, i < 1 + 8 * v ∨ 1 + 8 * v + 8 ≤ i → I1 18 p i = I 18 p i := fun i hi => by rw [e1, ms_u_s, pk_cpy_out hi]
      obtain ⟨I', w', r, a, b, c⟩ := wx_l (nm := nm) hp hu hl d (v + 1) I1 true (by omega) (by rw [g1 20 0 (Or.inl (by decide))]; exact hN)
      refine ⟨I', w', ?_, ?_, ?_, ?_⟩
      · rw [mi_126_2]
        simp (disch := omega) only [↓mi_126_3, ↓mi_126_5, ↓mi_126_8, ↓mi_126_9, ↓mi_126_10, ↓mi_126_13, ↓mi_126_14, ↓mi_126_17, ↓mi_126_18, ↓mi_126_19, ↓mi_126_20, ↓mi_126_23, ↓mi_126_26, ↓mi_126_27, ↓mi_126_30, ↓mi_126_31, ↓mi_126_32, ↓mi_126_34, ↓mi_126_35, ↓mi_126_36, ↓mi_126_37, ↓mi_126_38, ↓mi_126_40, ↓mi_126_41, ↓mi_126_42, ↓mi_126_43, ↓mi_126_45, ↓mi_126_48, ↓mi_126_51, cond_true, mz_clv, mz_cln, Bool.false_or, Bool.true_or, Bool.or_false, Bool.or_true, if_true, if_false, ite_self, o0_20, o2_23, er_23, na_le, na_eq, na_up, pk_mul, if_neg, hN, sp_15, hc, if_neg b_t, hcp, ← e1]
        exact r
      · intro v' a1 a2 j hj
        by_cases e : v' = v
        · subst e
          rw [b _ (by omega), if_pos ⟨hvu, hc⟩, e1, ms_u_s, pk_cpy_in (by omega) (by omega), show 8 * u + (1 + 8 * v' + j - (1 + 8 * v')) = 8 * u + j by omega]
        · rw [a v' (by omega) a2 j hj, g1 24 v' (Or.inl (by decide)), o1 _ (by omega)]
      · intro i hi
        rw [b i (by omega), o1 i (by omega)]
      · intro r' u' hne
        rw [c r' u' hne, g1 r' u' hne]
/-- one answer's words -/
theorem aa_w {s u p : Nat} {nm : Int32} {ky bx : Nat → Nat → Int32} (hs : s < 3) (hu : u < 8) (ep : p = 7 * u + 4 + s) (hG : I 19 0 2 = nI s) (hN : I 20 0 s = nm) (hK : ∀ v, v < 8 → ∀ j, j < 4 → I 22 v j = ky v j) (hB : ∀ v, v < 8 → ∀ j, j < 64 → I 24 v j = bx v j) : ∃ I', (∀ x2 l4, ms_G 124 52 [.ref (ms_ad 19 0), .ref (ms_ad 14 0), .int x2, .int (nI u), l4] [.ref (ms_ad 18 p)] (ms_Z q true I J) = ms_G 124 104 [.ref (ms_ad 19 0), .ref (ms_ad 14 0), .int x2, .int (nI u), .ref (ms_ad 18 p)] [] (ms_Z q true I' J)) ∧ (∀ i, i < ms_wl p → I' 18 p i = ms_an s u nm ky bx i) ∧ (∀ r u', (r ≠ 18 ∨ u' ≠ p) → I' r u' = I r u') := by
  have lp : p < 56 := by omega
  have lw : 0 < ms_wl p := by rw [ep]; exact wl_pos hs
  have f := sp_148w (q := q) (I := I) (J := J) lp lw
  obtain ⟨I1, e1⟩ : ∃ I1, I1 = ms_u I 18 p (ms_fl (ms_wl p) (nI 0) (I 18 p)) := ⟨_, rfl⟩
  rw [← e1] at f
  have oo := o0_18 (q := q.1) (p := p) (i := 0) lp lw
  obtain ⟨I2, e2⟩ : ∃ I2, I2 = ms_u I1 18 p (upd (I1 18 p) 0 nm) := ⟨_, rfl⟩
  have g1 : ∀ r u', (r ≠ 18 ∨ u' ≠ p) → I1 r u' = I r u' := fun r u' hne => by
    rw [e1]
    exact if_neg fun z => by rcases hne with h | h <;> omega
  have g2 : ∀ r u', (r ≠ 18 ∨ u' ≠ p) → I2 r u' = I r u' := fun r u' hne => by
    rw [e2, show ms_u I1 18 p (upd (I1 18 p) 0 nm) r u' = I1 r u' from if_neg fun z => by rcases hne with h | h <;> omega, g1 r u' hne]
  have w0 : I2 18 p 0 = nm := by rw [e2, ms_u_s, pk_us]
  have wz : ∀ i, 0 < i → i < ms_wl p → I2 18 p i = nI 0 := fun i h1 h2 => by
    rw [e2, ms_u_s, pk_un (by omega), e1, ms_u_s]
    exact if_pos h2
  have n1 : I1 20 0 s = nm := by rw [g1 20 0 (Or.inl (by decide))]; exact hN
  have s1 : I1 19 0 2 = nI s := by rw [g1 19 0 (Or.inl (by decide))]; exact hG
  have s2 : I2 19 0 2 = nI s := by rw [g2 19 0 (Or.inl (by decide))]; exact hG
  have st : ∀ x2 l4, ms_G 124 52 [.ref (ms_ad 19 0), .ref (ms_ad 14 0), .int x2, .int (nI u), l4] [.ref (ms_ad 18 p)] (ms_Z q true I J) = ms_G 124 73 [.ref (ms_ad 19 0), .ref (ms_ad 14 0), .int x2, .int (nI u), .ref (ms_ad 18 p)] [] (ms_Z q true I2 J) := by
    intro x2 l4
    simp (disch := omega) only [↓mi_124_52, ↓mi_124_54, ↓mi_124_56, ↓mi_124_57, ↓mi_124_60, ↓mi_124_62, ↓mi_124_63, ↓mi_124_64, ↓mi_124_67, ↓mi_124_68, ↓mi_124_71, ↓mi_124_72, cond_true, mz_clv, mz_cln, Bool.false_or, Bool.true_or, Bool.or_false, Bool.or_true, if_true, if_false, ite_self, o0_20, f, s1, n1, oo, ← e2]
  have c3 : s = 0 ∨ s = 1 ∨ s = 2 := by omega
  rcases c3 with h | h | h
  · have hl : ms_wl p = 33 := by rw [ep, Nat.add_assoc]; exact wl_4 (by omega)
    subst h
    obtain ⟨I3, w3, r3, a3, b3, c3⟩ := wk_l (q := q) (J := J) (nm := nm) lp hl 8 0 I2 false rfl (by rw [g2 20 0 (Or.inl (by decide))]; exact hN)
    have r4 : ms_G 125 0 [.ref (ms_ad 19 0), .ref (ms_ad 18 p), .null] [] (ms_Z q false I2 J) = some (.inl none, ms_Z q w3 I3 J) := by
      simp (disch := omega) only [↓mi_125_0, ↓mi_125_1]
      exact r3
    refine ⟨I3, ?_, ?_, fun r u' hne => by rw [c3 r u' hne, g2 r u' hne]⟩
    · intro x2 l4
      rw [st]
      simp (disch := omega) only [↓mi_124_73, ↓mi_124_74, ↓mi_124_77, ↓mi_124_80, ↓mi_124_81, ↓mi_124_83, ↓mi_124_86, cond_true, mz_clv, mz_cln, Bool.false_or, Bool.true_or, Bool.or_false, Bool.or_true, if_true, if_false, ite_self, s2, na_eq, if_pos, r4]
    · intro i hi
      unfold ms_an
      by_cases h0 : i = 0
      · rw [if_pos h0, h0, b3 0 (by omega), w0]
      · rw [if_neg h0, if_pos rfl]
        have := a3 ((i - 1) / 4) (by omega) (by omega) ((i - 1) % 4) (by omega)
        rw [show 1 + 4 * ((i - 1) / 4) + (i - 1) % 4 = i by omega] at this
        rw [this, g2 22 _ (Or.inl (by decide)), hK _ (by omega) _ (by omega), wz i (by omega) hi]
  · have hl : ms_wl p = 65 := by rw [ep, Nat.add_assoc]; exact wl_5 (by omega)
    subst h
    obtain ⟨I3, w3, r3, a3, b3, c3⟩ := wx_l (q := q) (J := J) (nm := nm) lp hu hl 8 0 I2 false rfl (by rw [g2 20 0 (Or.inl (by decide))]; exact hN)
    have r4 : ms_G 126 0 [.ref (ms_ad 19 0), .ref (ms_ad 18 p), .int (nI u), .null] [] (ms_Z q false I2 J) = some (.inl none, ms_Z q w3 I3 J) := by
      simp (disch := omega) only [↓mi_126_0, ↓mi_126_1]
      exact r3
    refine ⟨I3, ?_, ?_, fun r u' hne => by rw [c3 r u' hne, g2 r u' hne]⟩
    · intro x2 l4
      rw [st]
      simp (disch := omega) only [↓mi_124_73, ↓mi_124_74, ↓mi_124_77, ↓mi_124_89, ↓mi_124_90, ↓mi_124_93, ↓mi_124_94, ↓mi_124_97, ↓mi_124_98, ↓mi_124_100, ↓mi_124_101, cond_true, mz_clv, mz_cln, Bool.false_or, Bool.true_or, Bool.or_false, Bool.or_true, if_true, if_false, ite_self, s2, na_eq, if_pos, if_neg, r4]
    · intro i hi
      unfold ms_an
      by_cases h0 : i = 0
      · rw [if_pos h0, h0, b3 0 (by omega), w0]
      · rw [if_neg h0, if_neg (by decide)]
        have := a3 ((i - 1) / 8) (by omega) (by omega) ((i - 1) % 8) (by omega)
        rw [show 1 + 8 * ((i - 1) / 8) + (i - 1) % 8 = i by omega] at this
        rw [this, g2 24 _ (Or.inl (by decide)), hB _ (by omega) _ (by omega), wz i (by omega) hi]
  · have hl : ms_wl p = 1 := by rw [ep, Nat.add_assoc]; exact wl_6 (by omega)
    subst h
    refine ⟨I2, ?_, ?_, g2⟩
    · intro x2 l4
      rw [st]
      simp (disch := omega) only [↓mi_124_73, ↓mi_124_74, ↓mi_124_77, ↓mi_124_89, ↓mi_124_90, ↓mi_124_93, ↓mi_124_94, cond_true, mz_clv, mz_cln, Bool.false_or, Bool.true_or, Bool.or_false, Bool.or_true, if_true, if_false, ite_self, s2, na_eq, if_neg]
    · intro i hi
      unfold ms_an
      rw [if_pos (by omega), show i = 0 by omega, w0]
theorem aa_l {s m : Nat} {nm x : Int32} {ky bx : Nat → Nat → Int32} (hs : s < 3) (hm : m ≤ 48) : ∀ d u I w, d + u = 8 → I 14 0 2 = nI (m + ms_ct x u) → I 19 0 2 = nI s → I 20 0 s = nm → (∀ v, v < 8 → ∀ j, j < 4 → I 22 v j = ky v j) → (∀ v, v < 8 → ∀ j, j < 64 → I 24 v j = bx v j) → ∃ I' w', (∀ l4, ms_G 124 29 [.ref (ms_ad 19 0), .ref (ms_ad 14 0), .int x, .int (nI u), l4] [] (ms_Z q w I J) = some (.inl none, ms_Z q w' I' J)) ∧ I' 14 0 2 = nI (m + ms_ct x 8) ∧ (∀ v, u ≤ v → v < 8 → ms_bit x v = true → I' 16 0 (m + ms_ct x v) = nI (7 * v + 4 + s) ∧ ∀ i, i < ms_wl (7 * v + 4 + s) → I' 18 (7 * v + 4 + s) i = ms_an s v nm ky bx i) ∧ (∀ k, k < m + ms_ct x u → I' 16 0 k = I 16 0 k) ∧ (∀ p, (∀ v, u ≤ v → v < 8 → ms_bit x v = true → p ≠ 7 * v + 4 + s) → I' 18 p = I 18 p) ∧ ms_fq [14, 16, 18] I I'
  | 0, u, I, w, hu, h14, hG, hN, hK, hB => by
    have : u = 8 := by omega
    subst this
    refine ⟨I, w, ?_, h14, fun v a b => absurd a (by omega), fun _ _ => rfl, fun _ _ => rfl, fr_rf⟩
    intro l4
    simp (disch := omega) only [↓mi_124_29, ↓mi_124_30, ↓mi_124_32, ↓mi_124_110, na_le, if_pos]
  | d + 1, u, I, w, hu, h14, hG, hN, hK, hB => by
    have eC : ms_ct x (u + 1) = if ms_bit x u = true then ms_ct x u + 1 else ms_ct x u := rfl
    have lc := ct_le x u
    cases hc : ms_bit x u with
    | false =>
      have eC2 : ms_ct x (u + 1) = ms_ct x u := by rw [eC, hc]; rfl
      obtain ⟨I', w', r, a, b, c, e, f⟩ := aa_l (nm := nm) (ky := ky) (bx := bx) hs hm d (u + 1) I w (by omega) (by rw [eC2]; exact h14) hG hN hK hB
      rw [eC2] at c
      refine ⟨I', w', ?_, a, fun v z1 z2 z3 => b v (by
        rcases Nat.lt_or_ge u v with z | z
        · exact z
        · have : v = u := by omega
          rw [this, hc] at z3
          cases z3) z2 z3, c, fun p hp => e p (fun v z1 z2 z3 => hp v (by omega) z2 z3), f⟩
      intro l4
      rw [mi_124_29]
      simp (disch := omega) only [↓mi_124_30, ↓mi_124_32, ↓mi_124_35, ↓mi_124_36, ↓mi_124_37, ↓mi_124_40, ↓mi_124_104, ↓mi_124_107, cond_true, mz_clv, mz_cln, Bool.false_or, Bool.true_or, Bool.or_false, Bool.or_true, if_true, if_false, ite_self, na_le, na_up, if_neg, sp_15, hc, if_pos b_f]
      exact r _
    | true =>
      have eC2 : ms_ct x (u + 1) = ms_ct x u + 1 := by rw [eC, hc]; rfl
      have po := sp_80 (q := q) (I := I) (J := J) (u := u) (s := s) (m := m + ms_ct x u) (by omega) (by omega) hs h14
      obtain ⟨I1, e1⟩ : ∃ I1, I1 = ms_u (ms_u I 16 0 (upd (I 16 0) (m + ms_ct x u) (nI (7 * u + 4 + s)))) 14 0 (upd (I 14 0) 2 (nI (m + ms_ct x u + 1))) := ⟨_, rfl⟩
      rw [← e1] at po
      have g1 : ∀ r v, r ≠ 14 → r ≠ 16 → I1 r v = I r v := fun r v a b => by rw [e1, ms_u_r _ _ _ _ a, ms_u_r _ _ _ _ b]
      obtain ⟨I2, r2, a2, b2⟩ := aa_w (q := q) (I := I1) (J := J) (s := s) (u := u) (p := 7 * u + 4 + s) (nm := nm) (ky := ky) (bx := bx) hs (by omega) rfl (by rw [g1 19 0 (by decide) (by decide)]; exact hG) (by rw [g1 20 0 (by decide) (by decide)]; exact hN) (fun v hv j hj => by rw [g1 22 v (by decide) (by decide)]; exact hK v hv j hj) (fun v hv j hj => by rw [g1 24 v (by decide) (by decide)]; exact hB v hv j hj)
      have g2 : ∀ r v, r ≠ 14 → r ≠ 16 → r ≠ 18 → I2 r v = I r v := fun r v a b c => by rw [b2 r v (Or.inl c), g1 r v a b]
      have h14' : I2 14 0 2 = nI (m + ms_ct x (u + 1)) := by rw [b2 14 0 (Or.inl (by decide)), e1, ms_u_s, pk_us, eC2, Nat.add_assoc]
      have h16 : I2 16 0 = upd (I 16 0) (m + ms_ct x u) (nI (7 * u + 4 + s)) := by rw [b2 16 0 (Or.inl (by decide)), e1, ms_u_r _ _ _ _ (by decide), ms_u_s]
      obtain ⟨I', w', r, a, b, c, e, f⟩ := aa_l (nm := nm) (ky := ky) (bx := bx) hs hm d (u + 1) I2 true (by omega) h14' (by rw [g2 19 0 (by decide) (by decide) (by decide)]; exact hG) (by rw [g2 20 0 (by decide) (by decide) (by decide)]; exact hN) (fun v hv j hj => by rw [g2 22 v (by decide) (by decide) (by decide)]; exact hK v hv j hj) (fun v hv j hj => by rw [g2 24 v (by decide) (by decide) (by decide)]; exact hB v hv j hj)
      refine ⟨I', w', ?_, a, ?_, ?_, ?_, ?_⟩
      · intro l4
        rw [mi_124_29]
        simp (disch := omega) only [↓mi_124_30, ↓mi_124_32, ↓mi_124_35, ↓mi_124_36, ↓mi_124_37, ↓mi_124_40, ↓mi_124_43, ↓mi_124_44, ↓mi_124_45, ↓mi_124_46, ↓mi_124_49, cond_true, mz_clv, mz_cln, Bool.false_or, Bool.true_or, Bool.or_false, Bool.or_true, if_true, if_false, ite_self, na_le, na_up, if_neg, sp_15, hc, if_neg b_t, hG, po]
        rw [r2]
        simp (disch := omega) only [↓mi_124_104, ↓mi_124_107, na_up]
        exact r _
      · intro v z1 z2 z3
        by_cases ev : v = u
        · subst ev
          rw [c _ (by omega), h16, pk_us]
          refine ⟨rfl, fun i hi => ?_⟩
          rw [e _ (fun v' y1 y2 y3 => by omega)]
          exact a2 i hi
        · exact b v (by omega) z2 z3
      · intro k hk
        rw [c k (by omega), h16, pk_un (by omega)]
      · intro p hp
        rw [e p (fun v z1 z2 z3 => hp v (by omega) z2 z3), b2 18 p (Or.inr (hp u (by omega) (by omega) hc)), g1 18 p (by decide) (by decide)]
      · refine fr_tr ?_ f
        intro r' hr
        funext v
        simp only [List.mem_cons, List.not_mem_nil, or_false, not_or] at hr
        exact g2 r' v (by omega) (by omega) (by omega)
end Awr
