/-! WHAT A PHONE SENDS. -/
def ms_t2 (a b i : Nat) : Int32 := if i = 0 then nI a else if i = 1 then nI (a / 4294967296) else if i = 2 then nI b else nI (b / 4294967296)
-- the boxes
def ms_bk (x1 : Nat) (ky : Nat → Int32) (v : Nat) : Nat := ms_pw (ms_num (ky (4 * v + 2)) (ky (4 * v + 3))) x1
def ms_wb1 (u t x0 x1 x2 : Nat) (nm0 : Int32) (ky : Nat → Int32) (v i : Nat) : Int32 := if v ≠ u ∧ ms_bit nm0 v = true then ms_box (ms_bk x1 ky v) (nI u) (nI v) (ms_t2 (ms_sh x2 (ms_cf x2 1 u) (v + 1) t) (ms_sh x0 (ms_cf x2 0 u) (v + 1) t)) i else nI 0
-- the masked words
def ms_w2 (u x0 x2 : Nat) (inp : Nat → Int32) (nm1 : Int32) (ky : Nat → Int32) (k : Nat) : Nat → Int32
  | 0 => inp k + ms_blk x2 (nI 0) (nI 0) (nI u) (nI 0) k
  | v + 1 => if v ≠ u ∧ ms_bit nm1 v = true then ms_w2 u x0 x2 inp nm1 ky k v + (if u < v then ms_blk (ms_pw (ms_num (ky (4 * v)) (ky (4 * v + 1))) x0) (nI 0) (nI 1) (nI 0) (nI 0) k else - ms_blk (ms_pw (ms_num (ky (4 * v)) (ky (4 * v + 1))) x0) (nI 0) (nI 1) (nI 0) (nI 0) k) else ms_w2 u x0 x2 inp nm1 ky k v
theorem w2_hi {u x0 x2 n k : Nat} {inp : Nat → Int32} {nm1 : Int32} {ky : Nat → Int32} (hn : ∀ v, n ≤ v → v < 8 → ms_bit nm1 v = false) : ∀ m, n ≤ m → m ≤ 8 → ms_w2 u x0 x2 inp nm1 ky k m = ms_w2 u x0 x2 inp nm1 ky k n
  | 0, h, _ => by rw [show n = 0 by omega]
  | m + 1, h, h8 => by
    by_cases e : n = m + 1
    · rw [e]
    · rw [← w2_hi hn m (by omega) (by omega)]
      exact if_neg (fun z => by rw [hn m (by omega) (by omega)] at z; cases z.2)
-- the shares
def ms_gv (u x1 : Nat) (nm1 : Int32) (ky bx : Nat → Int32) (v : Nat) : Bool := decide (v = u) || (ms_bit nm1 v && ms_ok4 (ms_tag (ms_bk x1 ky v) (nI v) (nI u) (bx (8 * v)) (bx (8 * v + 1)) (bx (8 * v + 2)) (bx (8 * v + 3))) (fun i => bx (8 * v + 4 + i)))
def ms_tx3 (u t x0 x1 x2 : Nat) (ky bx : Nat → Int32) (v i : Nat) : Int32 := if v = u then ms_t2 (ms_sh x2 (ms_cf x2 1 u) (v + 1) t) (ms_sh x0 (ms_cf x2 0 u) (v + 1) t) i else bx (8 * v + i) ^^^ ms_blk (ms_bk x1 ky v) (nI 1) (nI v) (nI u) (nI 1) i
def ms_w3 (u t x0 x1 x2 : Nat) (nm1 nm2 : Int32) (ky bx : Nat → Int32) (v i : Nat) : Int32 := if ms_gv u x1 nm1 ky bx v = true then ms_tx3 u t x0 x1 x2 ky bx v ((if ms_bit nm2 v = true then 0 else 2) + i) else nI 0
def ms_gs (G : Nat → Bool) : Nat → Nat
  | 0 => 0
  | v + 1 => if G v = true then ms_gs G v + 2 ^ v else ms_gs G v
theorem gs_lt (G : Nat → Bool) : ∀ k, ms_gs G k < 2 ^ k
  | 0 => Nat.zero_lt_one
  | k + 1 => by
    have ih := gs_lt G k
    have e : 2 ^ (k + 1) = 2 ^ k + 2 ^ k := by rw [Nat.pow_succ]; omega
    unfold ms_gs
    split <;> omega
theorem gs_hi {G : Nat → Bool} {n : Nat} (h : ∀ v, n ≤ v → v < 8 → G v = false) : ∀ m, n ≤ m → m ≤ 8 → ms_gs G m = ms_gs G n
  | 0, hm, _ => by rw [show n = 0 by omega]
  | m + 1, hm, h8 => by
    by_cases e : n = m + 1
    · rw [e]
    · rw [← gs_hi h m (by omega) (by omega)]
      exact if_neg (fun z => by rw [h m (by omega) (by omega)] at z; cases z)
theorem p2_or {a v : Nat} (h : a < 2 ^ v) : a + 2 ^ v = 2 ^ v ||| a := by
  have := Nat.two_pow_add_eq_or_of_lt h 1
  rw [Nat.mul_one] at this
  rw [Nat.add_comm, this]
theorem gs_or (G B : Nat → Bool) : ∀ k, ms_gs (fun v => G v && B v) k ||| ms_gs (fun v => G v && !B v) k = ms_gs G k
  | 0 => by
    show 0 ||| 0 = 0
    decide
  | k + 1 => by
    have ih := gs_or G B k
    have l1 := gs_lt (fun v => G v && B v) k
    have l2 := gs_lt (fun v => G v && !B v) k
    have l3 := gs_lt G k
    show (if (G k && B k) = true then ms_gs (fun v => G v && B v) k + 2 ^ k else ms_gs (fun v => G v && B v) k) ||| (if (G k && !B k) = true then ms_gs (fun v => G v && !B v) k + 2 ^ k else ms_gs (fun v => G v && !B v) k) = (if G k = true then ms_gs G k + 2 ^ k else ms_gs G k)
    cases hG : G k
    · simp only [Bool.false_and, if_neg Bool.false_ne_true]
      exact ih
    · cases hB : B k
      · simp only [Bool.true_and, Bool.not_false, if_neg Bool.false_ne_true, if_true]
        rw [p2_or l2, p2_or l3, ← ih, ← Nat.or_assoc, Nat.or_comm _ (2 ^ k), Nat.or_assoc]
      · simp only [Bool.true_and, Bool.not_true, if_neg Bool.false_ne_true, if_true]
        rw [p2_or l1, p2_or l3, ← ih, Nat.or_assoc]
section Snd
variable {q : Nat × Nat} {w : Bool} {I : ms_i} {J : ms_j} {σ : ms_M}
theorem sp_98 {u p x0 x1 : Nat} (hu : u < 8) (hp : p < 56) (hl : ms_wl p = 4) (h0 : x0 < 2305843009213693951) (h1 : x1 < 2305843009213693951) (hA : J 32 u 0 = lN x0) (hB : J 32 u 1 = lN x1) : ∃ I', ms_G 98 0 [.ref (ms_ad 31 u), .ref (ms_ad 18 p)] [] (ms_Z q false I J) = some (.inl none, ms_Z q true I' J) ∧ (∀ i, i < 4 → I' 18 p i = ms_t2 (ms_pw 37 x0) (ms_pw 37 x1) i) ∧ (∀ r' u', (r' ≠ 18 ∨ u' ≠ p) → I' r' u' = I r' u') := by
  have o0 := o0_18 (q := q.1) (p := p) (i := 0) hp (by omega)
  have o1 := o0_18 (q := q.1) (p := p) (i := 0 + 1) hp (by omega)
  have o2 := o0_18 (q := q.1) (p := p) (i := 2) hp (by omega)
  have o3 := o0_18 (q := q.1) (p := p) (i := 2 + 1) hp (by omega)
  have l0 := ms_pw_lt 37 x0
  have l1 := ms_pw_lt 37 x1
  refine ⟨ms_u I 18 p (upd (upd (upd (upd (I 18 p) 0 (nI (ms_pw 37 x0))) 1 (nI (ms_pw 37 x0 / 4294967296))) 2 (nI (ms_pw 37 x1))) 3 (nI (ms_pw 37 x1 / 4294967296))), ?_, ?_, ?_⟩
  · have w0 := fun I => sp_86 (q := q) (I := I) (J := J) (v := ms_pw 37 x0) (r := 18) (u := p) (k := 0) (by omega) o0 o1
    have w1 := fun I => sp_86 (q := q) (I := I) (J := J) (v := ms_pw 37 x1) (r := 18) (u := p) (k := 2) (by omega) o2 o3
    simp (disch := omega) only [↓mi_98_0, ↓mi_98_3, ↓mi_98_4, ↓mi_98_7, ↓mi_98_8, ↓mi_98_9, ↓mi_98_12, ↓mi_98_13, ↓mi_98_14, ↓mi_98_17, ↓mi_98_20, ↓mi_98_21, ↓mi_98_24, ↓mi_98_25, ↓mi_98_26, ↓mi_98_29, ↓mi_98_30, ↓mi_98_31, ↓mi_98_34, cond_true, mz_clv, mz_cln, Bool.false_or, Bool.true_or, Bool.or_false, Bool.or_true, if_true, if_false, ite_self, ms_u_s, ms_u_r, ms_u_i, ms_u_u, o1_32, hA, hB, sp_91w, w0, w1]
  · intro i hi
    rw [ms_u_s]
    unfold ms_t2 upd
    have : i = 0 ∨ i = 1 ∨ i = 2 ∨ i = 3 := by omega
    rcases this with h | h | h | h <;> subst h <;> rfl
  · intro r' u' h
    exact if_neg fun z => by rcases h with h | h <;> omega
theorem sp_148w {p : Nat} (hp : p < 56) (h0 : 0 < ms_wl p) : ms_G 148 0 [.ref (ms_ad 18 p), .int (nI 0), .null, .null] [] (ms_Z q false I J) = some (.inl none, ms_Z q true (ms_u I 18 p (ms_fl (ms_wl p) (nI 0) (I 18 p))) J) := by
  have := ms_wl_le p
  exact sp_148 (r := 18) (u := p) (x := nI 0) (o3_18 hp) (fun i hi => o0_18 hp hi) (show ms_wl p < 5000 by omega) h0
/-- one round of the loop over the boxes -/
theorem wb_1 {u p v t x0 x1 x2 : Nat} {nm0 : Int32} {ky : Nat → Int32} (hz : ms_Z6 I) (hu : u < 8) (hv : v < 8) (hp : p < 56) (hl : ms_wl p = 64) (h1 : x1 < 2305843009213693951) (hB : J 32 u 1 = lN x1) (hN : I 36 u 0 = nm0) (hK : ∀ k, k < 32 → I 37 u (1 + k) = ky k) (hS : J 34 u v = lN (ms_sh x2 (ms_cf x2 1 u) (v + 1) t)) (hM : J 35 u v = lN (ms_sh x0 (ms_cf x2 0 u) (v + 1) t)) (l4 : Value) : ∃ I' J' l4', ms_G 100 7 [.ref (ms_ad 31 u), .ref (ms_ad 18 p), .ref (ms_ad 4 0), .int (nI v), l4] [] (ms_Z q true I J) = ms_G 100 7 [.ref (ms_ad 31 u), .ref (ms_ad 18 p), .ref (ms_ad 4 0), .int (nI (v + 1)), l4'] [] (ms_Z q true I' J') ∧ (∀ i, i < 8 → I' 18 p (8 * v + i) = if v ≠ u ∧ ms_bit nm0 v = true then ms_wb1 u t x0 x1 x2 nm0 ky v i else I 18 p (8 * v + i)) ∧ (∀ i, i < 8 * v ∨ 8 * v + 8 ≤ i → I' 18 p i = I 18 p i) ∧ ms_fX I I' 18 p ∧ ms_fJ J J' ∧ ms_Z6 I' := by
  by_cases hvu : v = u
  · refine ⟨I, J, l4, ?_, fun i _ => (if_neg (fun z => z.1 hvu)).symm, fun _ _ => rfl, fun _ _ _ _ _ _ _ => rfl, fun _ _ _ _ _ => rfl, hz⟩
    subst hvu
    rw [mi_100_7]
    simp (disch := omega) only [↓mi_100_8, ↓mi_100_10, ↓mi_100_13, ↓mi_100_14, ↓mi_100_15, ↓mi_100_18, ↓mi_100_86, ↓mi_100_89, sv_3, na_le, na_up, if_neg, if_true]
  · cases hc : ms_bit nm0 v with
    | false =>
      refine ⟨I, J, l4, ?_, fun i _ => (if_neg (fun z => by cases z.2)).symm, fun _ _ => rfl, fun _ _ _ _ _ _ _ => rfl, fun _ _ _ _ _ => rfl, hz⟩
      rw [mi_100_7]
      simp (disch := omega) only [↓mi_100_8, ↓mi_100_10, ↓mi_100_13, ↓mi_100_14, ↓mi_100_15, ↓mi_100_18, ↓mi_100_21, ↓mi_100_22, ↓mi_100_25, ↓mi_100_26, ↓mi_100_27, ↓mi_100_28, ↓mi_100_31, ↓mi_100_86, ↓mi_100_89, cond_true, mz_clv, mz_cln, Bool.false_or, Bool.true_or, Bool.or_false, Bool.or_true, if_true, if_false, ite_self, o0_36, sv_3, na_le, na_eq, na_up, if_neg, hN, sp_15, hc, if_pos b_f]
    | true =>
      have g1 : ms_sh x2 (ms_cf x2 1 u) (v + 1) t < 2305843009213693951 := Nat.mod_lt _ (by decide)
      have g2 : ms_sh x0 (ms_cf x2 0 u) (v + 1) t < 2305843009213693951 := Nat.mod_lt _ (by decide)
      obtain ⟨s1, es1⟩ : ∃ s1, s1 = ms_sh x2 (ms_cf x2 1 u) (v + 1) t := ⟨_, rfl⟩
      obtain ⟨s2, es2⟩ : ∃ s2, s2 = ms_sh x0 (ms_cf x2 0 u) (v + 1) t := ⟨_, rfl⟩
      rw [← es1] at hS g1
      rw [← es2] at hM g2
      have oo : ∀ i, i < 8 → mo_0 q.1 18 p (8 * v + i) = true := fun i hi => o0_18 hp (by omega)
      obtain ⟨I1, eI1⟩ : ∃ I1, I1 = ms_u I 18 p (upd (upd (I 18 p) (8 * v + 0) (nI s1)) (8 * v + 0 + 1) (nI (s1 / 4294967296))) := ⟨_, rfl⟩
      obtain ⟨I2, eI2⟩ : ∃ I2, I2 = ms_u I1 18 p (upd (upd (I1 18 p) (8 * v + 2) (nI s2)) (8 * v + 2 + 1) (nI (s2 / 4294967296))) := ⟨_, rfl⟩
      have w1 := sp_86 (q := q) (I := I) (J := J) (v := s1) (r := 18) (u := p) (k := 8 * v + 0) (by omega) (oo 0 (by omega)) (oo 1 (by omega))
      have w2 := sp_86 (q := q) (I := I1) (J := J) (v := s2) (r := 18) (u := p) (k := 8 * v + 2) (by omega) (oo 2 (by omega)) (oo 3 (by omega))
      rw [← eI1] at w1
      rw [← eI2] at w2
      have k37 : I2 37 u = I 37 u := by rw [eI2, ms_u_r _ _ _ _ (by decide), eI1, ms_u_r _ _ _ _ (by decide)]
      have ag := sp_104 (q := q) (I := I2) (J := J) (u := u) (v := v) (k := 1) (s := x1) hu hv (by decide) h1 hB
      rw [k37, show 1 + 4 * v + 2 * 1 = 1 + (4 * v + 2) by omega, show 1 + (4 * v + 2) + 1 = 1 + (4 * v + 3) by omega, hK _ (by omega), hK _ (by omega)] at ag
      have z2 : ms_Z6 I2 := fun k a b => by rw [eI2, ms_u_r _ _ _ _ (by decide), eI1, ms_u_r _ _ _ _ (by decide)]; exact hz k a b
      have hbk : ms_bk x1 ky v < 2305843009213693951 := ms_pw_lt _ _
      obtain ⟨I3, J3, h3, hw3, ho3, hf3, hj3, hz3⟩ := sp_71 (q := q) (I := I2) (J := J) (v := ms_bk x1 ky v) (a := nI u) (b := nI v) (r := 18) (u := p) (k := 8 * v) hbk z2 (by decide) (by decide) (by decide) (by decide) oo (mo_c_ok rfl rfl (by decide) hp (show 0 + 4 ≤ 4 by decide) (show 8 * v + 4 + 4 ≤ ms_wl p by omega) (by decide) (by omega))
      refine ⟨I3, J3, .int (nI (8 * v)), ?_, ?_, ?_, ?_, hj3, hz3⟩
      · rw [mi_100_7]
        simp (disch := omega) only [↓mi_100_8, ↓mi_100_10, ↓mi_100_13, ↓mi_100_14, ↓mi_100_15, ↓mi_100_18, ↓mi_100_21, ↓mi_100_22, ↓mi_100_25, ↓mi_100_26, ↓mi_100_27, ↓mi_100_28, ↓mi_100_31, ↓mi_100_34, ↓mi_100_36, ↓mi_100_37, ↓mi_100_38, ↓mi_100_40, ↓mi_100_41, ↓mi_100_44, ↓mi_100_45, ↓mi_100_46, ↓mi_100_47, ↓mi_100_49, ↓mi_100_50, ↓mi_100_51, ↓mi_100_54, ↓mi_100_55, ↓mi_100_58, ↓mi_100_59, ↓mi_100_60, ↓mi_100_61, ↓mi_100_63, ↓mi_100_64, ↓mi_100_65, ↓mi_100_68, ↓mi_100_69, ↓mi_100_70, ↓mi_100_71, ↓mi_100_72, cond_true, mz_clv, mz_cln, Bool.false_or, Bool.true_or, Bool.or_false, Bool.or_true, if_true, if_false, ite_self, o0_36, o1_34, o1_35, sv_3, na_le, na_eq, na_up, pk_mul, if_neg, hN, sp_15, hc, if_neg b_t, hS, hM, w1, w2, ag]
        rw [show ms_pw (ms_num (ky (4 * v + 2)) (ky (4 * v + 3))) x1 = ms_bk x1 ky v from rfl]
        simp (disch := omega) only [↓mi_100_75, ↓mi_100_76, ↓mi_100_79, ↓mi_100_80, ↓mi_100_81, ↓mi_100_83, ↓mi_100_86, ↓mi_100_89, cond_true, mz_clv, mz_cln, Bool.false_or, Bool.true_or, Bool.or_false, Bool.or_true, if_true, if_false, ite_self, sv_3, na_up, h3]
      · intro i hi
        rw [if_pos ⟨hvu, rfl⟩, hw3 i hi]
        unfold ms_wb1
        rw [if_pos ⟨hvu, hc⟩, ← es1, ← es2]
        have ht : ∀ j, j < 4 → I2 18 p (8 * v + j) = ms_t2 s1 s2 j := by
          intro j hj
          rw [eI2, ms_u_s]
          have : j = 0 ∨ j = 1 ∨ j = 2 ∨ j = 3 := by omega
          rcases this with h | h | h | h
          · subst h
            rw [pk_un (by omega), pk_un (by omega), eI1, ms_u_s, pk_un (by omega), pk_us]
            rfl
          · subst h
            rw [pk_un (by omega), pk_un (by omega), eI1, ms_u_s, pk_us]
            rfl
          · subst h
            rw [pk_un (by omega), pk_us]
            rfl
          · subst h
            rw [pk_us]
            rfl
        unfold ms_box
        dsimp only
        by_cases hi4 : i < 4
        · rw [if_pos hi4, if_pos hi4, ht i hi4]
        · rw [if_neg hi4, if_neg hi4, ht 0 (by decide), ht 1 (by decide), ht 2 (by decide), ht 3 (by decide)]
      · intro i hi
        rw [ho3 i hi, eI2, ms_u_s, pk_un (by omega), pk_un (by omega), eI1, ms_u_s, pk_un (by omega), pk_un (by omega)]
      · intro r' u' a6 a7 a12 a13 hne
        rw [hf3 r' u' a6 a7 a12 a13 hne, eI2]
        have : ∀ (I : ms_i) f, ms_u I 18 p f r' u' = I r' u' := fun I f => if_neg fun z => by rcases hne with h | h <;> omega
        rw [this, eI1, this]
theorem wb_l {u p t x0 x1 x2 : Nat} {nm0 : Int32} {ky : Nat → Int32} (hu : u < 8) (hp : p < 56) (hl : ms_wl p = 64) (h1 : x1 < 2305843009213693951) : ∀ m v I J l4, m + v = 8 → ms_Z6 I → J 32 u 1 = lN x1 → I 36 u 0 = nm0 → (∀ k, k < 32 → I 37 u (1 + k) = ky k) → (∀ v, v < 8 → J 34 u v = lN (ms_sh x2 (ms_cf x2 1 u) (v + 1) t)) → (∀ v, v < 8 → J 35 u v = lN (ms_sh x0 (ms_cf x2 0 u) (v + 1) t)) → (∀ i, 8 * v ≤ i → i < 64 → I 18 p i = nI 0) → ∃ I' J', ms_G 100 7 [.ref (ms_ad 31 u), .ref (ms_ad 18 p), .ref (ms_ad 4 0), .int (nI v), l4] [] (ms_Z q true I J) = some (.inl none, ms_Z q true I' J') ∧ (∀ v', v ≤ v' → v' < 8 → ∀ i, i < 8 → I' 18 p (8 * v' + i) = ms_wb1 u t x0 x1 x2 nm0 ky v' i) ∧ (∀ i, i < 8 * v → I' 18 p i = I 18 p i) ∧ ms_fX I I' 18 p ∧ ms_fJ J J' ∧ ms_Z6 I'
  | 0, v, I, J, l4, hv, hz, hB, hN, hK, hS, hM, h0 => by
    have : v = 8 := by omega
    subst this
    refine ⟨I, J, ?_, fun v' a b => absurd a (by omega), fun _ _ => rfl, fun _ _ _ _ _ _ _ => rfl, fun _ _ _ _ _ => rfl, hz⟩
    simp (disch := omega) only [↓mi_100_7, ↓mi_100_8, ↓mi_100_10, ↓mi_100_92, na_le, if_pos]
  | m + 1, v, I, J, l4, hv, hz, hB, hN, hK, hS, hM, h0 => by
    obtain ⟨I1, J1, l4', r1, w1, o1, f1, j1, z1⟩ := wb_1 (q := q) (nm0 := nm0) (ky := ky) (t := t) (x0 := x0) (x2 := x2) hz hu (show v < 8 by omega) hp hl h1 hB hN hK (hS v (by omega)) (hM v (by omega)) l4
    have f36 : I1 36 u = I 36 u := f1 36 u (by decide) (by decide) (by decide) (by decide) (Or.inl (by decide))
    have f37 : I1 37 u = I 37 u := f1 37 u (by decide) (by decide) (by decide) (by decide) (Or.inl (by decide))
    have f32 : J1 32 u = J 32 u := j1 32 u (by decide) (by decide) (by decide)
    have f34 : J1 34 u = J 34 u := j1 34 u (by decide) (by decide) (by decide)
    have f35 : J1 35 u = J 35 u := j1 35 u (by decide) (by decide) (by decide)
    obtain ⟨I2, J2, r2, w2, o2, f2, j2, z2⟩ := wb_l (nm0 := nm0) (ky := ky) (t := t) (x0 := x0) (x2 := x2) hu hp hl h1 m (v + 1) I1 J1 l4' (by omega) z1 (by rw [f32]; exact hB) (by rw [f36]; exact hN) (by rw [f37]; exact hK) (by rw [f34]; exact hS) (by rw [f35]; exact hM) (fun i a b => by rw [o1 i (by omega)]; exact h0 i (by omega) b)
    refine ⟨I2, J2, r1.trans r2, ?_, ?_, ?_, ?_, z2⟩
    · intro v' a b i hi
      by_cases e : v' = v
      · subst e
        rw [o2 _ (by omega), w1 i hi]
        by_cases hc : v' ≠ u ∧ ms_bit nm0 v' = true
        · rw [if_pos hc]
        · rw [if_neg hc, h0 _ (by omega) (by omega)]
          exact (if_neg hc).symm
      · exact w2 v' (by omega) b i hi
    · intro i hi
      rw [o2 i (by omega), o1 i (by omega)]
    · intro r' u' a6 a7 a12 a13 hne
      rw [f2 r' u' a6 a7 a12 a13 hne, f1 r' u' a6 a7 a12 a13 hne]
    · intro r' u' a b c
      rw [j2 r' u' a b c, j1 r' u' a b c]
theorem sp_100 {u p t x0 x1 x2 : Nat} {nm0 : Int32} {ky : Nat → Int32} (hu : u < 8) (hp : p < 56) (hl : ms_wl p = 64) (h1 : x1 < 2305843009213693951) (hz : ms_Z6 I) (hB : J 32 u 1 = lN x1) (hN : I 36 u 0 = nm0) (hK : ∀ k, k < 32 → I 37 u (1 + k) = ky k) (hS : ∀ v, v < 8 → J 34 u v = lN (ms_sh x2 (ms_cf x2 1 u) (v + 1) t)) (hM : ∀ v, v < 8 → J 35 u v = lN (ms_sh x0 (ms_cf x2 0 u) (v + 1) t)) : ∃ I' J', ms_G 100 0 [.ref (ms_ad 31 u), .ref (ms_ad 18 p), .ref (ms_ad 4 0), .null, .null] [] (ms_Z q false I J) = some (.inl none, ms_Z q true I' J') ∧ (∀ v, v < 8 → ∀ i, i < 8 → I' 18 p (8 * v + i) = ms_wb1 u t x0 x1 x2 nm0 ky v i) ∧ ms_fX I I' 18 p ∧ ms_fJ J J' ∧ ms_Z6 I' := by
  obtain ⟨I1, eI1⟩ : ∃ I1, I1 = ms_u I 18 p (ms_fl (ms_wl p) (nI 0) (I 18 p)) := ⟨_, rfl⟩
  have f := sp_148w (q := q) (I := I) (J := J) hp (by omega)
  rw [← eI1] at f
  have fr : ∀ r u', r ≠ 18 → I1 r u' = I r u' := fun r u' h => by rw [eI1, ms_u_r _ _ _ _ h]
  obtain ⟨I2, J2, r2, w2, o2, f2, j2, z2⟩ := wb_l (q := q) (nm0 := nm0) (ky := ky) (t := t) (x0 := x0) (x2 := x2) hu hp hl h1 8 0 I1 J .null rfl (fun k a b => by rw [fr 6 0 (by decide)]; exact hz k a b) hB (by rw [fr 36 u (by decide)]; exact hN) (by rw [fr 37 u (by decide)]; exact hK) hS hM (fun i a b => by rw [eI1, ms_u_s, hl]; exact if_pos b)
  refine ⟨I2, J2, ?_, fun v hv i hi => w2 v (by omega) hv i hi, ?_, j2, z2⟩
  · simp (disch := omega) only [↓mi_100_0, ↓mi_100_1, ↓mi_100_2, ↓mi_100_5, ↓mi_100_6, cond_true, mz_clv, mz_cln, Bool.false_or, Bool.true_or, Bool.or_false, Bool.or_true, if_true, if_false, ite_self, f]
    exact r2
  · intro r' u' a6 a7 a12 a13 hne
    rw [f2 r' u' a6 a7 a12 a13 hne, eI1]
    exact if_neg fun z => by rcases hne with h | h <;> omega
end Snd
