/-! THE SUM IS MADE, on both sides. -/
-- the holders of a share of phone v
def ms_hc (hd : Int32) (shr : Nat → Nat → Int32) (v w : Nat) : Bool := ms_bit hd w && ms_bit (shr w 0) v
def ms_jv (t : Nat) (hd : Int32) (shr : Nat → Nat → Int32) (v : Nat) : Nat := ms_jn (ms_ho (ms_hc hd shr v) t 8) (fun w => ms_num (shr w (1 + 2 * v)) (shr w (1 + 2 * v + 1)))
def ms_okv (t : Nat) (n1 hd : Int32) (shr : Nat → Nat → Int32) (v : Nat) : Bool := !ms_bit n1 v || decide (t ≤ ms_pc (ms_ho (ms_hc hd shr v) t 8))
def ms_ao (ok : Nat → Bool) : Nat → Nat → Bool
  | 0, _ => true
  | m + 1, v => ok v && ms_ao ok m (v + 1)
-- what the phones whose words came had put on them for phone v
def ms_pr (n2 : Int32) (ky : Nat → Nat → Int32) (x v k : Nat) (s : Int32) : Nat → Int32
  | 0 => s
  | u + 1 => if ms_bit n2 u = true then ms_pr n2 ky x v k s u + (if v < u then ms_blk (ms_pw (ms_num (ky u 0) (ky u 1)) x) (nI 0) (nI 1) (nI 0) (nI 0) k else - ms_blk (ms_pw (ms_num (ky u 0) (ky u 1)) x) (nI 0) (nI 1) (nI 0) (nI 0) k) else ms_pr n2 ky x v k s u
def ms_sm (t : Nat) (n1 n2 hd : Int32) (shr msk ky : Nat → Nat → Int32) (k : Nat) : Nat → Int32
  | 0 => nI 0
  | v + 1 => if ms_bit n1 v = true then (if ms_bit n2 v = true then (ms_sm t n1 n2 hd shr msk ky k v + msk v k) + - ms_blk (ms_jv t hd shr v) (nI 0) (nI 0) (nI v) (nI 0) k else ms_pr n2 ky (ms_jv t hd shr v) v k (ms_sm t n1 n2 hd shr msk ky k v) 8) else ms_sm t n1 n2 hd shr msk ky k v
theorem pr_hi {n2 : Int32} {ky : Nat → Nat → Int32} {x v k n : Nat} {s : Int32} (h : ∀ u, n ≤ u → u < 8 → ms_bit n2 u = false) : ∀ m, n ≤ m → m ≤ 8 → ms_pr n2 ky x v k s m = ms_pr n2 ky x v k s n
  | 0, hm, _ => by rw [show n = 0 by omega]
  | m + 1, hm, h8 => by
    by_cases e : n = m + 1
    · rw [e]
    · rw [← pr_hi h m (by omega) (by omega)]
      exact if_neg (fun z => by rw [h m (by omega) (by omega)] at z; cases z)
theorem sm_hi {t : Nat} {n1 n2 hd : Int32} {shr msk ky : Nat → Nat → Int32} {k n : Nat} (h : ∀ u, n ≤ u → u < 8 → ms_bit n1 u = false) : ∀ m, n ≤ m → m ≤ 8 → ms_sm t n1 n2 hd shr msk ky k m = ms_sm t n1 n2 hd shr msk ky k n
  | 0, hm, _ => by rw [show n = 0 by omega]
  | m + 1, hm, h8 => by
    by_cases e : n = m + 1
    · rw [e]
    · rw [← sm_hi h m (by omega) (by omega)]
      exact if_neg (fun z => by rw [h m (by omega) (by omega)] at z; cases z)
theorem ao_hi {ok : Nat → Bool} : ∀ m v, (∀ u, v ≤ u → u < v + m → ok u = true) → ms_ao ok m v = true
  | 0, v, _ => rfl
  | m + 1, v, h => by
    show (ok v && ms_ao ok m (v + 1)) = true
    rw [h v (by omega) (by omega), ao_hi m (v + 1) (fun u a b => h u (by omega) (by omega))]
    rfl
theorem ao_cut {ok : Nat → Bool} : ∀ d m v, (∀ u, v + d ≤ u → u < v + d + m → ok u = true) → ms_ao ok (d + m) v = ms_ao ok d v
  | 0, m, v, h => by
    rw [Nat.zero_add]
    exact ao_hi m v (fun u a b => h u (by omega) (by omega))
  | d + 1, m, v, h => by
    rw [show d + 1 + m = (d + m) + 1 by omega]
    show (ok v && ms_ao ok (d + m) (v + 1)) = (ok v && ms_ao ok d (v + 1))
    rw [ao_cut d m (v + 1) (fun u a b => h u (by omega) (by omega))]
theorem jv_lt (t : Nat) (hd : Int32) (shr : Nat → Nat → Int32) (v : Nat) : ms_jv t hd shr v < 2305843009213693951 := ms_jn_lt _ _
theorem pl_s (k : Nat) (f s : Nat → Int32) : upd (ms_plus k f s) k (ms_plus k f s k + s k) = ms_plus (k + 1) f s := by
  funext i
  unfold upd ms_plus
  by_cases h : i = k
  · subst h
    rw [if_pos rfl, if_neg (Nat.lt_irrefl i), if_pos (Nat.lt_succ_self i)]
  · rw [if_neg h]
    by_cases h2 : i < k
    · rw [if_pos h2, if_pos (by omega)]
    · rw [if_neg h2, if_neg (by omega)]
theorem pl_0 (f s : Nat → Int32) : ms_plus 0 f s = f := by
  funext i
  exact if_neg (Nat.not_lt_zero i)
section Unm
variable {q : Nat × Nat} {w : Bool} {I : ms_i} {J : ms_j} {σ : ms_M}
theorem ad_l {u : Nat} (hu : u < 8) {f : Nat → Int32} : ∀ d k w, d + k = 4 → ∃ w', ms_G 129 2 [.ref (ms_ad 19 0), .int (nI u), .int (nI k)] [] (ms_Z q w (ms_u I 29 0 (ms_plus k f (I 26 u))) J) = some (.inl none, ms_Z q w' (ms_u I 29 0 (ms_plus 4 f (I 26 u))) J)
  | 0, k, w, hk => by
    have : k = 4 := by omega
    subst this
    refine ⟨w, ?_⟩
    simp (disch := omega) only [↓mi_129_2, ↓mi_129_3, ↓mi_129_4, ↓mi_129_30, na_le, if_pos]
  | d + 1, k, w, hk => by
    obtain ⟨w', ih⟩ := ad_l hu (f := f) d (k + 1) true (by omega)
    refine ⟨w', ?_⟩
    have es := pl_s k f (I 26 u)
    rw [mi_129_2]
    simp (disch := omega) only [↓mi_129_3, ↓mi_129_4, ↓mi_129_7, ↓mi_129_8, ↓mi_129_11, ↓mi_129_12, ↓mi_129_13, ↓mi_129_14, ↓mi_129_15, ↓mi_129_18, ↓mi_129_19, ↓mi_129_20, ↓mi_129_21, ↓mi_129_22, ↓mi_129_23, ↓mi_129_24, ↓mi_129_27, cond_true, mz_clv, mz_cln, Bool.false_or, Bool.true_or, Bool.or_false, Bool.or_true, if_true, if_false, ite_self, ms_u_s, ms_u_r, ms_u_i, ms_u_u, o0_29, o0_26, o2_25, er_25, na_le, na_up, if_neg, es]
    exact ih
theorem sp_129 {u : Nat} (hu : u < 8) : ∃ w', ms_G 129 0 [.ref (ms_ad 19 0), .int (nI u), .null] [] (ms_Z q false I J) = some (.inl none, ms_Z q w' (ms_u I 29 0 (ms_plus 4 (I 29 0) (I 26 u))) J) := by
  obtain ⟨w', h⟩ := ad_l (q := q) (I := I) (J := J) hu (f := I 29 0) 4 0 false rfl
  rw [pl_0, ms_u_id] at h
  refine ⟨w', ?_⟩
  simp (disch := omega) only [↓mi_129_0, ↓mi_129_1]
  exact h
theorem tp_l {u x : Nat} {n2 : Int32} {ky : Nat → Nat → Int32} {s : Nat → Int32} (hu : u < 8) (hx : x < 2305843009213693951) : ∀ d v I w, d + v = 8 → ms_Z6 I → I 20 0 2 = n2 → (∀ v, v < 8 → ∀ i, i < 2 → I 22 v i = ky v i) → (∀ k, k < 4 → I 29 0 k = ms_pr n2 ky x u k (s k) v) → ∃ I' w', (∀ l6 l7, ms_G 130 3 [.ref (ms_ad 19 0), .int (nI u), .long (lN x), .null, .ref (ms_ad 4 0), .int (nI v), l6, l7] [] (ms_Z q w I J) = some (.inl none, ms_Z q w' I' J)) ∧ (∀ k, k < 4 → I' 29 0 k = ms_pr n2 ky x u k (s k) 8) ∧ ms_fX I I' 29 0 ∧ ms_Z6 I'
  | 0, v, I, w, hv, hz, hN, hK, hS => by
    have : v = 8 := by omega
    subst this
    refine ⟨I, w, ?_, hS, fun _ _ _ _ _ _ _ => rfl, hz⟩
    intro l6 l7
    simp (disch := omega) only [↓mi_130_3, ↓mi_130_5, ↓mi_130_7, ↓mi_130_71, na_le, if_pos]
  | d + 1, v, I, w, hv, hz, hN, hK, hS => by
    have eS : ∀ k, ms_pr n2 ky x u k (s k) (v + 1) = if ms_bit n2 v = true then ms_pr n2 ky x u k (s k) v + (if u < v then ms_blk (ms_pw (ms_num (ky v 0) (ky v 1)) x) (nI 0) (nI 1) (nI 0) (nI 0) k else - ms_blk (ms_pw (ms_num (ky v 0) (ky v 1)) x) (nI 0) (nI 1) (nI 0) (nI 0) k) else ms_pr n2 ky x u k (s k) v := fun _ => rfl
    cases hc : ms_bit n2 v with
    | false =>
      obtain ⟨I', w', r, a, b, c⟩ := tp_l (n2 := n2) (ky := ky) (s := s) hu hx d (v + 1) I w (by omega) hz hN hK (fun k hk => by rw [eS, if_neg (fun z => by rw [hc] at z; cases z)]; exact hS k hk)
      refine ⟨I', w', ?_, a, b, c⟩
      intro l6 l7
      rw [mi_130_3]
      simp (disch := omega) only [↓mi_130_5, ↓mi_130_7, ↓mi_130_10, ↓mi_130_11, ↓mi_130_14, ↓mi_130_15, ↓mi_130_16, ↓mi_130_18, ↓mi_130_21, ↓mi_130_65, ↓mi_130_68, cond_true, mz_clv, mz_cln, Bool.false_or, Bool.true_or, Bool.or_false, Bool.or_true, if_true, if_false, ite_self, o0_20, na_le, na_up, if_neg, hN, sp_15, hc, if_pos b_f]
      exact r _ _
    | true =>
      have k0 := hK v (by omega) 0 (by decide)
      have k1 := hK v (by omega) 1 (by decide)
      obtain ⟨y, ey⟩ : ∃ y, y = ms_pw (ms_num (ky v 0) (ky v 1)) x := ⟨_, rfl⟩
      have hy : y < 2305843009213693951 := by rw [ey]; exact ms_pw_lt _ _
      have rd := sp_85 (q := q) (I := I) (J := J) (r := 22) (u := v) (k := 0) (o0_22 (by omega) (by decide)) (o0_22 (by omega) (by decide))
      rw [k0, show I 22 v (0 + 1) = ky v 1 from k1] at rd
      have ln := ms_num_lt (ky v 0) (ky v 1)
      have am := sp_70 (q := q) (I := I) (J := J) (v := y) (a := nI 1) (b := nI 0) (r := 29) (u := 0) hy (by decide) (by decide) (fun i hi => o0_29 hi) (decide (u < v))
      obtain ⟨I1, e1⟩ : ∃ I1, I1 = ms_u (ms_bkI I y (nI 0) (nI 1) (nI 0) (nI 0)) 29 0 (ms_am (decide (u < v)) 4 (I 29 0) (ms_bkI I y (nI 0) (nI 1) (nI 0) (nI 0) 7 0)) := ⟨_, rfl⟩
      rw [← e1] at am
      have fr : ∀ r' u', r' ≠ 6 → r' ≠ 7 → (r' ≠ 29 ∨ u' ≠ 0) → I1 r' u' = I r' u' := fun r' u' a6 a7 hne => by
        rw [e1, show ms_u (ms_bkI I y (nI 0) (nI 1) (nI 0) (nI 0)) 29 0 (ms_am (decide (u < v)) 4 (I 29 0) (ms_bkI I y (nI 0) (nI 1) (nI 0) (nI 0) 7 0)) r' u' = ms_bkI I y (nI 0) (nI 1) (nI 0) (nI 0) r' u' from if_neg fun z => by rcases hne with h | h <;> omega, bk_else a6 a7]
      have z1 : ms_Z6 I1 := fun k a b => by
        rw [e1, ms_u_r _ _ _ _ (by decide)]
        exact bk_keep hz k a b
      obtain ⟨I', w', r, a, b, c⟩ := tp_l (n2 := n2) (ky := ky) (s := s) hu hx d (v + 1) I1 true (by omega) z1 (by rw [fr 20 0 (by decide) (by decide) (Or.inl (by decide))]; exact hN) (fun v' hv' i hi => by rw [fr 22 v' (by decide) (by decide) (Or.inl (by decide))]; exact hK v' hv' i hi) (fun k hk => by
        rw [eS, if_pos hc, e1, ms_u_s, am_v hk, bk_word hz (by omega), hS k hk, ← ey]
        by_cases h : u < v
        · rw [if_pos h, if_pos (decide_eq_true h)]
        · rw [if_neg h, if_neg (by rw [decide_eq_false h]; decide)])
      refine ⟨I', w', ?_, a, fun r' u' a6 a7 a12 a13 hne => by rw [b r' u' a6 a7 a12 a13 hne, fr r' u' a6 a7 hne], c⟩
      intro l6 l7
      rw [mi_130_3]
      by_cases h : u < v
      · rw [decide_eq_true h, show ms_b true = nI 1 from rfl] at am
        simp (disch := omega) only [↓mi_130_5, ↓mi_130_7, ↓mi_130_10, ↓mi_130_11, ↓mi_130_14, ↓mi_130_15, ↓mi_130_16, ↓mi_130_18, ↓mi_130_21, ↓mi_130_24, ↓mi_130_25, ↓mi_130_28, ↓mi_130_30, ↓mi_130_31, ↓mi_130_32, ↓mi_130_35, ↓mi_130_36, ↓mi_130_39, ↓mi_130_41, ↓mi_130_43, ↓mi_130_44, ↓mi_130_47, ↓mi_130_48, ↓mi_130_50, ↓mi_130_53, ↓mi_130_54, ↓mi_130_57, ↓mi_130_58, ↓mi_130_60, ↓mi_130_61, ↓mi_130_62, ↓mi_130_65, ↓mi_130_68, cond_true, mz_clv, mz_cln, Bool.false_or, Bool.true_or, Bool.or_false, Bool.or_true, if_true, if_false, ite_self, o0_20, o2_21, er_21, na_le, na_up, if_neg, hN, sp_15, hc, if_neg b_t, rd, sp_91w, ← ey, am]
        exact r _ _
      · rw [decide_eq_false h, show ms_b false = nI 0 from rfl] at am
        simp (disch := omega) only [↓mi_130_5, ↓mi_130_7, ↓mi_130_10, ↓mi_130_11, ↓mi_130_14, ↓mi_130_15, ↓mi_130_16, ↓mi_130_18, ↓mi_130_21, ↓mi_130_24, ↓mi_130_25, ↓mi_130_28, ↓mi_130_30, ↓mi_130_31, ↓mi_130_32, ↓mi_130_35, ↓mi_130_36, ↓mi_130_39, ↓mi_130_41, ↓mi_130_43, ↓mi_130_44, ↓mi_130_47, ↓mi_130_48, ↓mi_130_50, ↓mi_130_53, ↓mi_130_54, ↓mi_130_57, ↓mi_130_58, ↓mi_130_60, ↓mi_130_61, ↓mi_130_62, ↓mi_130_65, ↓mi_130_68, cond_true, mz_clv, mz_cln, Bool.false_or, Bool.true_or, Bool.or_false, Bool.or_true, if_true, if_false, ite_self, o0_20, o2_21, er_21, na_le, na_up, if_neg, if_pos, hN, sp_15, hc, if_neg b_t, rd, sp_91w, ← ey, am]
        exact r _ _
theorem un_l {t : Nat} {n1 n2 hd : Int32} {shr msk ky : Nat → Nat → Int32} (ht : t ≤ 8) : ∀ d v I, d + v = 8 → ms_Z6 I → I 19 0 1 = nI t → I 19 0 4 = hd → I 20 0 1 = n1 → I 20 0 2 = n2 → (∀ v, v < 8 → ∀ i, i < 2 → I 22 v i = ky v i) → (∀ v, v < 8 → ∀ i, i < 4 → I 26 v i = msk v i) → (∀ v, v < 8 → ∀ i, i < 17 → I 28 v i = shr v i) → (∀ k, k < 4 → I 29 0 k = ms_sm t n1 n2 hd shr msk ky k v) → ∃ I', (∀ w l3 l4 l5, w = true → ms_G 127 10 [.ref (ms_ad 19 0), .ref (ms_ad 4 0), .int (nI v), l3, l4, l5] [] (ms_Z q w I J) = some (.inl (some (.int (ms_b (ms_ao (ms_okv t n1 hd shr) d v)))), ms_Z q true I' J)) ∧ (ms_ao (ms_okv t n1 hd shr) d v = true → ∀ k, k < 4 → I' 29 0 k = ms_sm t n1 n2 hd shr msk ky k 8) ∧ ms_fX I I' 29 0 ∧ ms_Z6 I'
  | 0, v, I, hv, hz, hT, hH, hN1, hN2, hK, hM, hR, hS => by
    have : v = 8 := by omega
    subst this
    refine ⟨I, ?_, fun _ => hS, fun _ _ _ _ _ _ _ => rfl, hz⟩
    intro w l3 l4 l5 hw
    subst hw
    simp (disch := omega) only [↓mi_127_10, ↓mi_127_11, ↓mi_127_13, ↓mi_127_111, ↓mi_127_112, ↓mi_127_112_1, ↓mi_127_112_b, na_le, if_pos]
    rfl
  | d + 1, v, I, hv, hz, hT, hH, hN1, hN2, hK, hM, hR, hS => by
    have eS : ∀ k, ms_sm t n1 n2 hd shr msk ky k (v + 1) = if ms_bit n1 v = true then (if ms_bit n2 v = true then (ms_sm t n1 n2 hd shr msk ky k v + msk v k) + - ms_blk (ms_jv t hd shr v) (nI 0) (nI 0) (nI v) (nI 0) k else ms_pr n2 ky (ms_jv t hd shr v) v k (ms_sm t n1 n2 hd shr msk ky k v) 8) else ms_sm t n1 n2 hd shr msk ky k v := fun _ => rfl
    have eA : ms_ao (ms_okv t n1 hd shr) (d + 1) v = (ms_okv t n1 hd shr v && ms_ao (ms_okv t n1 hd shr) d (v + 1)) := rfl
    cases hc : ms_bit n1 v with
    | false =>
      have eo : ms_okv t n1 hd shr v = true := by unfold ms_okv; rw [hc]; rfl
      rw [eA, eo, Bool.true_and]
      obtain ⟨I', r, a, b, c⟩ := un_l (n1 := n1) (n2 := n2) (hd := hd) (shr := shr) (msk := msk) (ky := ky) ht d (v + 1) I (by omega) hz hT hH hN1 hN2 hK hM hR (fun k hk => by rw [eS, if_neg (fun z => by rw [hc] at z; cases z)]; exact hS k hk)
      refine ⟨I', ?_, a, b, c⟩
      intro w l3 l4 l5 hw
      subst hw
      rw [mi_127_10]
      simp (disch := omega) only [↓mi_127_11, ↓mi_127_13, ↓mi_127_16, ↓mi_127_17, ↓mi_127_20, ↓mi_127_21, ↓mi_127_22, ↓mi_127_23, ↓mi_127_26, ↓mi_127_105, ↓mi_127_108, cond_true, mz_clv, mz_cln, Bool.false_or, Bool.true_or, Bool.or_false, Bool.or_true, if_true, if_false, ite_self, o0_20, na_le, na_up, if_neg, hN1, sp_15, hc, if_pos b_f]
      exact r _ _ _ _ rfl
    | true =>
      obtain ⟨h, eh⟩ : ∃ h, h = ms_ho (ms_hc hd shr v) t 8 := ⟨_, rfl⟩
      have lh : h < 256 := by rw [eh]; exact ho_lt _ _ 8
      have pl := pc_le h
      have eo : ms_okv t n1 hd shr v = decide (t ≤ ms_pc h) := by unfold ms_okv; rw [hc, ← eh]; rfl
      have hol := sp_128 (q := q) (I := I) (J := J) (u := v) (t := t) (by omega) ht hT (fun w' => ms_bit (I 19 0 4) w' && ms_bit (I 28 w' 0) v) (fun _ => rfl)
      rw [ho_cg (c' := ms_hc hd shr v) t 8 (fun w' hw' => by
        show (ms_bit (I 19 0 4) w' && ms_bit (I 28 w' 0) v) = (ms_bit hd w' && ms_bit (shr w' 0) v)
        rw [hH, hR w' hw' 0 (by decide)]), ← eh] at hol
      rw [eA, eo]
      by_cases hp : t ≤ ms_pc h
      · rw [decide_eq_true hp, Bool.true_and]
        have jo := sp_132 (q := q) (I := I) (J := J) (at' := 1 + 2 * v) (h := h) (by omega) lh
        obtain ⟨x, ex⟩ : ∃ x, x = ms_jv t hd shr v := ⟨_, rfl⟩
        have lx : x < 2305843009213693951 := by rw [ex]; exact jv_lt _ _ _ _
        have ejx : ms_jn h (fun w' => ms_num (I 28 w' (1 + 2 * v)) (I 28 w' (1 + 2 * v + 1))) = x := by
          rw [ex]
          unfold ms_jv ms_jn
          rw [← eh, T_cg 8 (fun w' hw' => by rw [hR w' hw' _ (by omega), hR w' hw' _ (by omega)])]
        rw [ejx] at jo
        -- the rest of the round
        have go : ∀ I1, ms_Z6 I1 → ms_fX I I1 29 0 → (∀ k, k < 4 → I1 29 0 k = ms_sm t n1 n2 hd shr msk ky k (v + 1)) → (∀ l3, ms_G 127 63 [.ref (ms_ad 19 0), .ref (ms_ad 4 0), .int (nI v), .int l3, .long (lN x), .null] [] (ms_Z q true I J) = ms_G 127 105 [.ref (ms_ad 19 0), .ref (ms_ad 4 0), .int (nI v), .int l3, .long (lN x), .null] [] (ms_Z q true I1 J)) → ∃ I', (∀ w l3 l4 l5, w = true → ms_G 127 10 [.ref (ms_ad 19 0), .ref (ms_ad 4 0), .int (nI v), l3, l4, l5] [] (ms_Z q w I J) = some (.inl (some (.int (ms_b (ms_ao (ms_okv t n1 hd shr) d (v + 1))))), ms_Z q true I' J)) ∧ (ms_ao (ms_okv t n1 hd shr) d (v + 1) = true → ∀ k, k < 4 → I' 29 0 k = ms_sm t n1 n2 hd shr msk ky k 8) ∧ ms_fX I I' 29 0 ∧ ms_Z6 I' := by
          intro I1 z1 f1 s1 r1
          have g : ∀ r u', r ≠ 6 → r ≠ 7 → r ≠ 12 → r ≠ 13 → r ≠ 29 → I1 r u' = I r u' := fun r u' a b c d e => f1 r u' a b c d (Or.inl e)
          obtain ⟨I', r, a, b, c⟩ := un_l (n1 := n1) (n2 := n2) (hd := hd) (shr := shr) (msk := msk) (ky := ky) ht d (v + 1) I1 (by omega) z1 (by rw [g 19 0 (by decide) (by decide) (by decide) (by decide) (by decide)]; exact hT) (by rw [g 19 0 (by decide) (by decide) (by decide) (by decide) (by decide)]; exact hH) (by rw [g 20 0 (by decide) (by decide) (by decide) (by decide) (by decide)]; exact hN1) (by rw [g 20 0 (by decide) (by decide) (by decide) (by decide) (by decide)]; exact hN2) (fun v' hv' i hi => by rw [g 22 v' (by decide) (by decide) (by decide) (by decide) (by decide)]; exact hK v' hv' i hi) (fun v' hv' i hi => by rw [g 26 v' (by decide) (by decide) (by decide) (by decide) (by decide)]; exact hM v' hv' i hi) (fun v' hv' i hi => by rw [g 28 v' (by decide) (by decide) (by decide) (by decide) (by decide)]; exact hR v' hv' i hi) s1
          refine ⟨I', ?_, a, fun r' u' a6 a7 a12 a13 hne => by rw [b r' u' a6 a7 a12 a13 hne, f1 r' u' a6 a7 a12 a13 hne], c⟩
          intro w l3 l4 l5 hw
          subst hw
          rw [mi_127_10]
          simp (disch := omega) only [↓mi_127_11, ↓mi_127_13, ↓mi_127_16, ↓mi_127_17, ↓mi_127_20, ↓mi_127_21, ↓mi_127_22, ↓mi_127_23, ↓mi_127_26, ↓mi_127_29, ↓mi_127_30, ↓mi_127_31, ↓mi_127_34, ↓mi_127_35, ↓mi_127_36, ↓mi_127_39, ↓mi_127_40, ↓mi_127_43, ↓mi_127_48, ↓mi_127_49, ↓mi_127_52, ↓mi_127_53, ↓mi_127_54, ↓mi_127_55, ↓mi_127_56, ↓mi_127_57, ↓mi_127_58, ↓mi_127_61, cond_true, mz_clv, mz_cln, Bool.false_or, Bool.true_or, Bool.or_false, Bool.or_true, if_true, if_false, ite_self, o0_20, na_le, na_up, pk_mul, if_neg, if_pos, hN1, sp_15, hc, if_neg b_t, hol, sp_146, hT, jo]
          rw [r1]
          simp (disch := omega) only [↓mi_127_105, ↓mi_127_108, na_up]
          exact r _ _ _ _ rfl
        cases hc2 : ms_bit n2 v with
        | true =>
          obtain ⟨w1, a1⟩ := sp_129 (q := q) (I := I) (J := J) (u := v) (by omega)
          obtain ⟨I1, e1⟩ : ∃ I1, I1 = ms_u I 29 0 (ms_plus 4 (I 29 0) (I 26 v)) := ⟨_, rfl⟩
          rw [← e1] at a1
          have g1 : ∀ r u', (r ≠ 29 ∨ u' ≠ 0) → I1 r u' = I r u' := fun r u' hne => by
            rw [e1]
            exact if_neg fun z => by rcases hne with h | h <;> omega
          have z1 : ms_Z6 I1 := fun k a b => by rw [g1 6 0 (Or.inl (by decide))]; exact hz k a b
          have a2 := sp_70 (q := q) (I := I1) (J := J) (v := x) (a := nI 0) (b := nI v) (r := 29) (u := 0) lx (by decide) (by decide) (fun i hi => o0_29 hi) false
          obtain ⟨I2, e2⟩ : ∃ I2, I2 = ms_u (ms_bkI I1 x (nI 0) (nI 0) (nI v) (nI 0)) 29 0 (ms_am false 4 (I1 29 0) (ms_bkI I1 x (nI 0) (nI 0) (nI v) (nI 0) 7 0)) := ⟨_, rfl⟩
          rw [← e2, show ms_b false = nI 0 from rfl] at a2
          refine go I2 ?_ ?_ ?_ ?_
          · intro k k1 k2
            rw [e2, ms_u_r _ _ _ _ (by decide)]
            exact bk_keep z1 k k1 k2
          · intro r' u' a6 a7 a12 a13 hne
            rw [e2, show ms_u (ms_bkI I1 x (nI 0) (nI 0) (nI v) (nI 0)) 29 0 (ms_am false 4 (I1 29 0) (ms_bkI I1 x (nI 0) (nI 0) (nI v) (nI 0) 7 0)) r' u' = ms_bkI I1 x (nI 0) (nI 0) (nI v) (nI 0) r' u' from if_neg fun z => by rcases hne with h | h <;> omega, bk_else a6 a7, g1 r' u' hne]
          · intro k hk
            rw [eS, if_pos hc, if_pos hc2, e2, ms_u_s, am_v hk, bk_word z1 (by omega), if_neg Bool.false_ne_true, e1, ms_u_s, ← ex]
            unfold ms_plus
            rw [if_pos hk, hS k hk, hM v (by omega) k hk]
          · intro l3
            simp (disch := omega) only [↓mi_127_63, ↓mi_127_64, ↓mi_127_67, ↓mi_127_68, ↓mi_127_69, ↓mi_127_70, ↓mi_127_73, ↓mi_127_76, ↓mi_127_77, ↓mi_127_78, ↓mi_127_81, ↓mi_127_82, ↓mi_127_83, ↓mi_127_86, ↓mi_127_87, ↓mi_127_89, ↓mi_127_90, ↓mi_127_91, ↓mi_127_94, cond_true, mz_clv, mz_cln, Bool.false_or, Bool.true_or, Bool.or_false, Bool.or_true, if_true, if_false, ite_self, o0_20, hN2, sp_15, hc2, if_neg b_t, a1, a2]
        | false =>
          obtain ⟨I1, w1, r1, s1, f1, z1⟩ := tp_l (q := q) (J := J) (u := v) (x := x) (n2 := n2) (ky := ky) (s := fun k => ms_sm t n1 n2 hd shr msk ky k v) (by omega) lx 8 0 I false rfl hz hN2 hK (fun k hk => hS k hk)
          have a1 : ms_G 130 0 [.ref (ms_ad 19 0), .int (nI v), .long (lN x), .null, .ref (ms_ad 4 0), .null, .null, .null] [] (ms_Z q false I J) = some (.inl none, ms_Z q w1 I1 J) := by
            simp (disch := omega) only [↓mi_130_0, ↓mi_130_1]
            exact r1 _ _
          refine go I1 z1 f1 ?_ ?_
          · intro k hk
            rw [eS, if_pos hc, if_neg (by rw [hc2]; exact Bool.false_ne_true), s1 k hk, ← ex]
          · intro l3
            simp (disch := omega) only [↓mi_127_63, ↓mi_127_64, ↓mi_127_67, ↓mi_127_68, ↓mi_127_69, ↓mi_127_70, ↓mi_127_73, ↓mi_127_97, ↓mi_127_98, ↓mi_127_99, ↓mi_127_101, ↓mi_127_102, cond_true, mz_clv, mz_cln, Bool.false_or, Bool.true_or, Bool.or_false, Bool.or_true, if_true, if_false, ite_self, o0_20, hN2, sp_15, hc2, if_pos b_f, a1]
      · rw [decide_eq_false hp, Bool.false_and]
        refine ⟨I, ?_, fun z => absurd z Bool.false_ne_true, fun _ _ _ _ _ _ _ => rfl, hz⟩
        intro w l3 l4 l5 hw
        subst hw
        rw [mi_127_10]
        simp (disch := omega) only [↓mi_127_11, ↓mi_127_13, ↓mi_127_16, ↓mi_127_17, ↓mi_127_20, ↓mi_127_21, ↓mi_127_22, ↓mi_127_23, ↓mi_127_26, ↓mi_127_29, ↓mi_127_30, ↓mi_127_31, ↓mi_127_34, ↓mi_127_35, ↓mi_127_36, ↓mi_127_39, ↓mi_127_40, ↓mi_127_43, ↓mi_127_46, ↓mi_127_47, ↓mi_127_47_1, ↓mi_127_47_b, cond_true, mz_clv, mz_cln, Bool.false_or, Bool.true_or, Bool.or_false, Bool.or_true, if_true, if_false, ite_self, o0_20, na_le, na_up, if_neg, hN1, sp_15, hc, if_neg b_t, hol, sp_146, hT]
        rfl
theorem sp_127 {t : Nat} {n1 n2 hd : Int32} {shr msk ky : Nat → Nat → Int32} (ht : t ≤ 8) (hz : ms_Z6 I) (hT : I 19 0 1 = nI t) (hH : I 19 0 4 = hd) (hN1 : I 20 0 1 = n1) (hN2 : I 20 0 2 = n2) (hK : ∀ v, v < 8 → ∀ i, i < 2 → I 22 v i = ky v i) (hM : ∀ v, v < 8 → ∀ i, i < 4 → I 26 v i = msk v i) (hR : ∀ v, v < 8 → ∀ i, i < 17 → I 28 v i = shr v i) : ∃ I', ms_G 127 0 [.ref (ms_ad 19 0), .ref (ms_ad 4 0), .null, .null, .null, .null] [] (ms_Z q false I J) = some (.inl (some (.int (ms_b (ms_ao (ms_okv t n1 hd shr) 8 0)))), ms_Z q true I' J) ∧ (ms_ao (ms_okv t n1 hd shr) 8 0 = true → ∀ k, k < 4 → I' 29 0 k = ms_sm t n1 n2 hd shr msk ky k 8) ∧ ms_fX I I' 29 0 ∧ ms_Z6 I' := by
  have h := sp_148 (q := q) (I := I) (J := J) (r := 29) (u := 0) (x := nI 0) o3_29 (fun i hi => o0_29 hi) (show 4 < 5000 by decide) (show 0 < 4 by decide)
  rw [nr_29] at h
  obtain ⟨I1, e1⟩ : ∃ I1, I1 = ms_u I 29 0 (ms_fl 4 (nI 0) (I 29 0)) := ⟨_, rfl⟩
  rw [← e1] at h
  have g : ∀ r u', r ≠ 29 → I1 r u' = I r u' := fun r u' z => by rw [e1, ms_u_r _ _ _ _ z]
  obtain ⟨I', r, a, b, c⟩ := un_l (q := q) (J := J) (n1 := n1) (n2 := n2) (hd := hd) (shr := shr) (msk := msk) (ky := ky) ht 8 0 I1 rfl (fun k k1 k2 => by rw [g 6 0 (by decide)]; exact hz k k1 k2) (by rw [g 19 0 (by decide)]; exact hT) (by rw [g 19 0 (by decide)]; exact hH) (by rw [g 20 0 (by decide)]; exact hN1) (by rw [g 20 0 (by decide)]; exact hN2) (fun v hv i hi => by rw [g 22 v (by decide)]; exact hK v hv i hi) (fun v hv i hi => by rw [g 26 v (by decide)]; exact hM v hv i hi) (fun v hv i hi => by rw [g 28 v (by decide)]; exact hR v hv i hi) (fun k hk => by rw [e1, ms_u_s]; exact if_pos hk)
  refine ⟨I', ?_, a, fun r' u' a6 a7 a12 a13 hne => ?_, c⟩
  · simp (disch := omega) only [↓mi_127_0, ↓mi_127_1, ↓mi_127_4, ↓mi_127_5, ↓mi_127_8, ↓mi_127_9, cond_true, mz_clv, mz_cln, Bool.false_or, Bool.true_or, Bool.or_false, Bool.or_true, if_true, if_false, ite_self, h]
    exact r _ _ _ _ rfl
  · rw [b r' u' a6 a7 a12 a13 hne, e1]
    exact if_neg fun z => by rcases hne with h | h <;> omega
end Unm
