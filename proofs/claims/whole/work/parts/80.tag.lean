/-! TAGS AND BOXES, THE CLASS'S. -/
def ms_rk (f : Nat → Int32) : Nat := mU (f 0 &&& nI 268435455) + mU (f 1 &&& nI 268435452) * 4294967296 + mU (f 2 &&& nI 268435452) * 18446744073709551616 + mU (f 3 &&& nI 268435452) * 79228162514264337593543950336
def ms_m1 (c0 c1 c2 c3 : Int32) : Nat := mU c0 + mU c1 * 4294967296 + mU c2 * 18446744073709551616 + mU c3 * 79228162514264337593543950336 + 340282366920938463463374607431768211456
def ms_tag (v : Nat) (a b c0 c1 c2 c3 : Int32) (k : Nat) : Int32 := ms_tw ((ms_m1 c0 c1 c2 c3 * ms_rk (ms_blk v (nI 0) a b (nI 1)) + 340282366920938463758522512611121037312) * ms_rk (ms_blk v (nI 0) a b (nI 1)) % 1361129467683753853853498429727072845819) (ms_pd (fun i => ms_blk v (nI 0) a b (nI 1) (4 + i))) k
def ms_Z6 (I : ms_i) : Prop := ∀ k, 6 ≤ k → k < 12 → I 6 0 k = 0
def ms_fI (I I' : ms_i) : Prop := ∀ r u, r ≠ 6 → r ≠ 7 → r ≠ 12 → r ≠ 13 → I' r u = I r u
def ms_fJ (J J' : ms_j) : Prop := ∀ r u, r ≠ 9 → r ≠ 10 → r ≠ 11 → J' r u = J r u
theorem md_h {a b p : Nat} (m r : Nat) (h : a % p = b % p) : (a + m) * r % p = (b + m) * r % p := by
  rw [Nat.mul_mod, Nat.add_mod, h, ← Nat.add_mod, ← Nat.mul_mod]
section Tag
variable {q : Nat × Nat} {w : Bool} {I : ms_i} {J : ms_j} {σ : ms_M} {v : Nat} {a b : Int32}
theorem sp_106 : ∃ F Zf, ms_G 106 0 [.ref (ms_ad 8 0), .ref (ms_ad 7 0)] [] (ms_Z q false I J) = some (.inl none, ms_Z q true (ms_u I 12 0 (va_cpy (I 7 0) (I 12 0) 4 0 4)) (ms_u (ms_u J 9 0 (ms_mL F)) 10 0 (ms_mL Zf))) ∧ (∀ i, i < 5 → F i < 67108864) ∧ ms_v5 F = ms_rk (I 7 0) ∧ ∀ i, i < 5 → Zf i = 0 := by
  obtain ⟨g9, e9⟩ := mL_of (J 9 0)
  obtain ⟨g10, e10⟩ := mL_of (J 10 0)
  have h1 := sp_149 (q := q) (I := I) (J := J) e9 rfl rfl (fun i hi => o1_9 hi)
  have h2 := sp_108U (q := q) (I := I) (J := ms_u J 9 0 (ms_mL (fun i => if i < 5 then 0 else g9 i))) (ms_u_s _ _ _ _) (fun i hi => o1_9 hi) (I 7 0 0 &&& nI 268435455) (I 7 0 1 &&& nI 268435452) (I 7 0 2 &&& nI 268435452) (I 7 0 3 &&& nI 268435452)
  have hl := mU2_lt (I 7 0 1 &&& nI 268435452) (I 7 0 0 &&& nI 268435455)
  have hh := mU2_lt (I 7 0 3 &&& nI 268435452) (I 7 0 2 &&& nI 268435452)
  have ev : ms_rk (I 7 0) = (mU (I 7 0 1 &&& nI 268435452) * 4294967296 + mU (I 7 0 0 &&& nI 268435455)) + (mU (I 7 0 3 &&& nI 268435452) * 4294967296 + mU (I 7 0 2 &&& nI 268435452)) * 18446744073709551616 := by
    unfold ms_rk
    omega
  obtain ⟨lo, elo⟩ : ∃ lo, lo = mU (I 7 0 1 &&& nI 268435452) * 4294967296 + mU (I 7 0 0 &&& nI 268435455) := ⟨_, rfl⟩
  obtain ⟨hi, ehi⟩ : ∃ hi, hi = mU (I 7 0 3 &&& nI 268435452) * 4294967296 + mU (I 7 0 2 &&& nI 268435452) := ⟨_, rfl⟩
  rw [← elo, ← ehi] at ev h2
  rw [← elo] at hl
  rw [← ehi] at hh
  have h3 := sp_149 (q := q) (I := I) (J := ms_u J 9 0 (ms_mL (ms_al (fun i => if i < 5 then 0 else g9 i) lo hi))) (r := 10) (g := g10) (by rw [ms_u_r _ _ _ _ (by decide)]; exact e10) rfl rfl (fun i hi => o1_10 hi)
  have hc : mo_c q.1 7 0 12 0 4 0 4 = true := mo_c_ok rfl rfl (by decide) (by decide) (show 4 + 4 ≤ 16 by decide) (show 0 + 4 ≤ 4 by decide) (by decide) (by decide)
  refine ⟨ms_al (fun i => if i < 5 then 0 else g9 i) lo hi, fun i => if i < 5 then 0 else g10 i, ?_, ?_, ?_, fun i hi => if_pos hi⟩
  · simp (disch := omega) only [↓mi_106_0, ↓mi_106_1, ↓mi_106_4, ↓mi_106_5, ↓mi_106_8, ↓mi_106_9, ↓mi_106_12, ↓mi_106_13, ↓mi_106_14, ↓mi_106_15, ↓mi_106_17, ↓mi_106_18, ↓mi_106_19, ↓mi_106_20, ↓mi_106_21, ↓mi_106_23, ↓mi_106_24, ↓mi_106_25, ↓mi_106_26, ↓mi_106_27, ↓mi_106_29, ↓mi_106_30, ↓mi_106_31, ↓mi_106_32, ↓mi_106_33, ↓mi_106_35, ↓mi_106_36, ↓mi_106_39, ↓mi_106_40, ↓mi_106_43, ↓mi_106_44, ↓mi_106_47, ↓mi_106_48, ↓mi_106_49, ↓mi_106_50, ↓mi_106_53, ↓mi_106_54, ↓mi_106_55, ↓mi_106_58, cond_true, mz_clv, mz_cln, Bool.false_or, Bool.true_or, Bool.or_false, Bool.or_true, if_true, if_false, ite_self, o0_7, h1, h2, h3, ms_u_u, hc]
  · intro i hi5
    unfold ms_al ms_uN
    match i, hi5 with
    | 0, _ => simp; omega
    | 1, _ => simp; omega
    | 2, _ => simp; omega
    | 3, _ => simp; omega
    | 4, _ => simp; omega
  · rw [al_v5 _ hl hh, ev]
    unfold ms_v5
    simp
theorem sp_73 {r u k : Nat} (hv : v < 2305843009213693951) (hz : ms_Z6 I) (h6 : r ≠ 6) (h7 : r ≠ 7) (h12 : r ≠ 12) (h13 : r ≠ 13) (ho : ∀ i, i < 4 → mo_0 q.1 r u (k + i) = true) : ∃ I' J', ms_G 73 0 [.ref (ms_ad 4 0), .long (lN v), .null, .int a, .int b, .ref (ms_ad r u), .int (nI k)] [] (ms_Z q false I J) = some (.inl none, ms_Z q true I' J') ∧ (∀ i, i < 4 → I' 13 0 i = ms_tag v a b (I r u k) (I r u (k + 1)) (I r u (k + 2)) (I r u (k + 3)) i) ∧ ms_fI I I' ∧ ms_fJ J J' ∧ ms_Z6 I' := by
  obtain ⟨F, Zf, h1, hF, hFv, hZ⟩ := sp_106 (q := q) (I := ms_bkI I v (nI 0) a b (nI 1)) (J := J)
  have hr : ms_rk (ms_bkI I v (nI 0) a b (nI 1) 7 0) = ms_rk (ms_blk v (nI 0) a b (nI 1)) := by
    unfold ms_rk
    rw [bk_word hz (by decide), bk_word hz (by decide), bk_word hz (by decide), bk_word hz (by decide)]
  rw [hr] at hFv
  have hI : ∀ i, ms_u (ms_bkI I v (nI 0) a b (nI 1)) 12 0 (va_cpy (ms_bkI I v (nI 0) a b (nI 1) 7 0) (ms_bkI I v (nI 0) a b (nI 1) 12 0) 4 0 4) r u i = I r u i := fun i => by
    rw [ms_u_r _ _ _ _ h12, bk_else h6 h7]
  obtain ⟨I1, eI1⟩ : ∃ I1, I1 = ms_u (ms_bkI I v (nI 0) a b (nI 1)) 12 0 (va_cpy (ms_bkI I v (nI 0) a b (nI 1) 7 0) (ms_bkI I v (nI 0) a b (nI 1) 12 0) 4 0 4) := ⟨_, rfl⟩
  rw [← eI1] at h1
  rw [← eI1] at hI
  have hn0 : ms_Nm Zf := by
    unfold ms_Nm
    rw [hZ 0 (by decide), hZ 1 (by decide), hZ 2 (by decide), hZ 3 (by decide), hZ 4 (by decide)]
    decide
  obtain ⟨W1, h2⟩ := sp_107 (q := q) (I := I1) (J := ms_u (ms_u J 9 0 (ms_mL F)) 10 0 (ms_mL Zf)) (h := Zf) (f := F) (ms_u_s _ _ _ _) (by rw [ms_u_r _ _ _ _ (by decide), ms_u_s]) hn0 hF (I r u k) (I r u (k + 1)) (I r u (k + 2)) (I r u (k + 3))
  have n1 := ab_Nm (f := F) hn0 hF (mU2_lt (I r u (k + 1)) (I r u k)) (mU2_lt (I r u (k + 3)) (I r u (k + 2)))
  have v1 := ab_v5 (h := Zf) (f := F) (mU2_lt (I r u (k + 1)) (I r u k)) (mU2_lt (I r u (k + 3)) (I r u (k + 2)))
  obtain ⟨H1, eH1⟩ : ∃ H1, H1 = ms_ab Zf F (mU (I r u (k + 1)) * 4294967296 + mU (I r u k)) (mU (I r u (k + 3)) * 4294967296 + mU (I r u (k + 2))) := ⟨_, rfl⟩
  rw [← eH1] at h2 n1 v1
  obtain ⟨W2, h3⟩ := sp_107 (q := q) (I := I1) (J := ms_u (ms_u (ms_u (ms_u J 9 0 (ms_mL F)) 10 0 (ms_mL Zf)) 11 0 W1) 10 0 (ms_mL H1)) (h := H1) (f := F) (ms_u_s _ _ _ _) (by rw [ms_u_r _ _ _ _ (by decide), ms_u_r _ _ _ _ (by decide), ms_u_r _ _ _ _ (by decide), ms_u_s]) n1 hF (nI 0) (nI 0) (nI 16) (nI 0)
  have n2 := ab_Nm (f := F) n1 hF (mU2_lt (nI 0) (nI 0)) (mU2_lt (nI 0) (nI 16))
  have v2 := ab_v5 (h := H1) (f := F) (mU2_lt (nI 0) (nI 0)) (mU2_lt (nI 0) (nI 16))
  obtain ⟨H2, eH2⟩ : ∃ H2, H2 = ms_ab H1 F (mU (nI 0) * 4294967296 + mU (nI 0)) (mU (nI 0) * 4294967296 + mU (nI 16)) := ⟨_, rfl⟩
  rw [← eH2] at h3 n2 v2
  obtain ⟨J2, eJ2⟩ : ∃ J2, J2 = ms_u (ms_u (ms_u (ms_u (ms_u (ms_u J 9 0 (ms_mL F)) 10 0 (ms_mL Zf)) 11 0 W1) 10 0 (ms_mL H1)) 11 0 W2) 10 0 (ms_mL H2) := ⟨_, rfl⟩
  rw [← eJ2] at h3
  obtain ⟨X, T, h4, hT⟩ := sp_112 (q := q) (I := I1) (J := J2) (h := H2) (by rw [eJ2, ms_u_s]) n2
  refine ⟨ms_u I1 13 0 T, ms_u J2 10 0 X, ?_, fun i hi => ?_, ?_, ?_, ?_⟩
  · have o0 := ho 0 (by decide)
    have o1 := ho 1 (by decide)
    have o2 := ho 2 (by decide)
    have o3 := ho 3 (by decide)
    rw [Nat.add_zero] at o0
    simp (disch := omega) only [↓mi_73_0, ↓mi_73_1, ↓mi_73_4, ↓mi_73_5, ↓mi_73_8, ↓mi_73_9, ↓mi_73_10, ↓mi_73_11, ↓mi_73_13, ↓mi_73_14, ↓mi_73_17, ↓mi_73_20, ↓mi_73_21, ↓mi_73_24, ↓mi_73_26, ↓mi_73_28, ↓mi_73_29, ↓mi_73_31, ↓mi_73_33, ↓mi_73_34, ↓mi_73_35, ↓mi_73_36, ↓mi_73_38, ↓mi_73_40, ↓mi_73_41, ↓mi_73_42, ↓mi_73_43, ↓mi_73_45, ↓mi_73_47, ↓mi_73_48, ↓mi_73_49, ↓mi_73_50, ↓mi_73_53, ↓mi_73_54, ↓mi_73_57, ↓mi_73_58, ↓mi_73_59, ↓mi_73_61, ↓mi_73_62, ↓mi_73_65, ↓mi_73_66, ↓mi_73_69, ↓mi_73_72, cond_true, mz_clv, mz_cln, Bool.false_or, Bool.true_or, Bool.or_false, Bool.or_true, if_true, if_false, ite_self, sp_66, h1, o0, o1, o2, o3, na_up, hI, h2, h3, h4]
  · rw [ms_u_s, hT i hi]
    have ep : ms_pd (I1 12 0) = ms_pd (fun i => ms_blk v (nI 0) a b (nI 1) (4 + i)) := by
      have e4 : ∀ i, i < 4 → I1 12 0 i = ms_blk v (nI 0) a b (nI 1) (4 + i) := by
        intro i hi
        rw [eI1, ms_u_s, pk_cpy_in (Nat.zero_le _) (by omega), Nat.sub_zero, bk_word hz (by omega)]
      unfold ms_pd
      rw [e4 0 (by decide), e4 1 (by decide), e4 2 (by decide), e4 3 (by decide)]
    have e0 : mU (nI 0) = 0 := by decide
    have e16 : mU (nI 16) = 16 := by decide
    have z5 : ms_v5 Zf = 0 := by
      unfold ms_v5
      rw [hZ 0 (by decide), hZ 1 (by decide), hZ 2 (by decide), hZ 3 (by decide), hZ 4 (by decide)]
    have v2' : ms_v5 H2 % 1361129467683753853853498429727072845819 = (ms_v5 H1 + 340282366920938463758522512611121037312) * ms_v5 F % 1361129467683753853853498429727072845819 := by
      have e2 : ms_v5 H1 + (mU (nI 0) * 4294967296 + mU (nI 0)) + (mU (nI 0) * 4294967296 + mU (nI 16)) * 18446744073709551616 + 340282366920938463463374607431768211456 = ms_v5 H1 + 340282366920938463758522512611121037312 := by omega
      rw [v2, e2]
    have v1' : ms_v5 H1 % 1361129467683753853853498429727072845819 = ms_m1 (I r u k) (I r u (k + 1)) (I r u (k + 2)) (I r u (k + 3)) * ms_v5 F % 1361129467683753853853498429727072845819 := by
      have e1 : ms_v5 Zf + (mU (I r u (k + 1)) * 4294967296 + mU (I r u k)) + (mU (I r u (k + 3)) * 4294967296 + mU (I r u (k + 2))) * 18446744073709551616 + 340282366920938463463374607431768211456 = ms_m1 (I r u k) (I r u (k + 1)) (I r u (k + 2)) (I r u (k + 3)) := by
        rw [z5]
        unfold ms_m1
        omega
      rw [v1, e1]
    rw [ep, v2', md_h _ _ v1', hFv]
    rfl
  · intro r' u' k6 k7 k12 k13
    rw [ms_u_r _ _ _ _ k13, eI1, ms_u_r _ _ _ _ k12, bk_else k6 k7]
  · intro r' u' k9 k10 k11
    rw [ms_u_r _ _ _ _ k10, eJ2, ms_u_r _ _ _ _ k10, ms_u_r _ _ _ _ k11, ms_u_r _ _ _ _ k10, ms_u_r _ _ _ _ k11, ms_u_r _ _ _ _ k10, ms_u_r _ _ _ _ k9]
  · intro i i1 i2
    rw [ms_u_r _ _ _ _ (by decide), eI1, ms_u_r _ _ _ _ (by decide)]
    exact bk_keep hz i i1 i2
end Tag
