/-! POLY1305: the arithmetic modulo 2^130 - 5. -/
def ms_v5 (h : Nat → Nat) : Nat := h 0 + h 1 * 67108864 + h 2 * 4503599627370496 + h 3 * 302231454903657293676544 + h 4 * 20282409603651670423947251286016
def mU (x : Int32) : Nat := x.toBitVec.toNat
theorem mU_lt (x : Int32) : mU x < 4294967296 := x.toBitVec.isLt
theorem nI_mU (x : Int32) : nI (mU x) = x := na_U x
theorem md_ring (x s0 s1 s2 s3 s4 f0 f1 f2 f3 f4 : Nat) : (s0 + s1 * x + s2 * x ^ 2 + s3 * x ^ 3 + s4 * x ^ 4) * (f0 + f1 * x + f2 * x ^ 2 + f3 * x ^ 3 + f4 * x ^ 4) + 5 * ((s1 * f4 + s2 * f3 + s3 * f2 + s4 * f1) + (s2 * f4 + s3 * f3 + s4 * f2) * x + (s3 * f4 + s4 * f3) * x ^ 2 + s4 * f4 * x ^ 3)
    = ((s0 * f0 + 5 * (s1 * f4 + s2 * f3 + s3 * f2 + s4 * f1)) + (s0 * f1 + s1 * f0 + 5 * (s2 * f4 + s3 * f3 + s4 * f2)) * x + (s0 * f2 + s1 * f1 + s2 * f0 + 5 * (s3 * f4 + s4 * f3)) * x ^ 2 + (s0 * f3 + s1 * f2 + s2 * f1 + s3 * f0 + 5 * (s4 * f4)) * x ^ 3 + (s0 * f4 + s1 * f3 + s2 * f2 + s3 * f1 + s4 * f0) * x ^ 4)
      + x ^ 5 * ((s1 * f4 + s2 * f3 + s3 * f2 + s4 * f1) + (s2 * f4 + s3 * f3 + s4 * f2) * x + (s3 * f4 + s4 * f3) * x ^ 2 + s4 * f4 * x ^ 3) := by
  grind
theorem ps_0 (s f : Nat → Nat) : ms_ps s f 0 5 = s 0 * f 0 + 5 * (s 1 * f 4 + s 2 * f 3 + s 3 * f 2 + s 4 * f 1) := by
  simp [ms_ps, ms_pt]
  grind
theorem ps_1 (s f : Nat → Nat) : ms_ps s f 1 5 = s 0 * f 1 + s 1 * f 0 + 5 * (s 2 * f 4 + s 3 * f 3 + s 4 * f 2) := by
  simp [ms_ps, ms_pt]
  grind
theorem ps_2 (s f : Nat → Nat) : ms_ps s f 2 5 = s 0 * f 2 + s 1 * f 1 + s 2 * f 0 + 5 * (s 3 * f 4 + s 4 * f 3) := by
  simp [ms_ps, ms_pt]
  grind
theorem ps_3 (s f : Nat → Nat) : ms_ps s f 3 5 = s 0 * f 3 + s 1 * f 2 + s 2 * f 1 + s 3 * f 0 + 5 * (s 4 * f 4) := by
  simp [ms_ps, ms_pt]
  grind
theorem ps_4 (s f : Nat → Nat) : ms_ps s f 4 5 = s 0 * f 4 + s 1 * f 3 + s 2 * f 2 + s 3 * f 1 + s 4 * f 0 := by
  simp [ms_ps, ms_pt]
/-- the product of two sums of limbs -/
theorem v5_mul (s f g : Nat → Nat) : ∃ K, ms_v5 s * ms_v5 f = ms_v5 (ms_wk 5 s f g) + 1361129467683753853853498429727072845819 * K := by
  have h := md_ring 67108864 (s 0) (s 1) (s 2) (s 3) (s 4) (f 0) (f 1) (f 2) (f 3) (f 4)
  simp only [Nat.reducePow] at h
  obtain ⟨K, hK⟩ : ∃ K, K = s 1 * f 4 + s 2 * f 3 + s 3 * f 2 + s 4 * f 1 + (s 2 * f 4 + s 3 * f 3 + s 4 * f 2) * 67108864 + (s 3 * f 4 + s 4 * f 3) * 4503599627370496 + s 4 * f 4 * 302231454903657293676544 := ⟨_, rfl⟩
  rw [← hK] at h
  refine ⟨K, ?_⟩
  have e : ms_v5 (ms_wk 5 s f g) = ms_ps s f 0 5 + ms_ps s f 1 5 * 67108864 + ms_ps s f 2 5 * 4503599627370496 + ms_ps s f 3 5 * 302231454903657293676544 + ms_ps s f 4 5 * 20282409603651670423947251286016 := rfl
  rw [ps_0, ps_1, ps_2, ps_3, ps_4] at e
  rw [← e] at h
  have h2 : ms_v5 s * ms_v5 f + 5 * K = ms_v5 (ms_wk 5 s f g) + 1361129467683753853853498429727072845824 * K := h
  omega
theorem al_v5 (h : Nat → Nat) {lo hi : Nat} (hl : lo < 18446744073709551616) (hh : hi < 18446744073709551616) : ms_v5 (ms_al h lo hi) = ms_v5 h + lo + hi * 18446744073709551616 := by
  unfold ms_v5 ms_al ms_uN
  simp
  omega
theorem cu_v5 (h : Nat → Nat) : ms_v5 (ms_cu 5 h) + 1361129467683753853853498429727072845824 * ms_ov h 5 = ms_v5 h := by
  unfold ms_v5 ms_cu
  simp
  simp only [ms_ov]
  omega
theorem ca_v5 (h : Nat → Nat) : ms_v5 (ms_ca h) + 1361129467683753853853498429727072845819 * ms_ov h 5 = ms_v5 h := by
  rw [← cu_v5 h]
  unfold ms_v5 ms_ca ms_uN
  simp
  omega
-- bounds
def ms_Nm (h : Nat → Nat) : Prop := h 0 < 67108864 ∧ h 1 < 67141632 ∧ h 2 < 67108864 ∧ h 3 < 67108864 ∧ h 4 < 67108864
theorem ca_Nm {h : Nat → Nat} (hb : ∀ i, i < 5 → h i < 9223372036854775808) : ms_Nm (ms_ca h) := by
  have h1 := ms_ov_lt hb 5 (by decide)
  have c0 : ms_cu 5 h 0 < 67108864 := Nat.mod_lt _ (by decide)
  have c1 : ms_cu 5 h 1 < 67108864 := Nat.mod_lt _ (by decide)
  have c2 : ms_cu 5 h 2 < 67108864 := Nat.mod_lt _ (by decide)
  have c3 : ms_cu 5 h 3 < 67108864 := Nat.mod_lt _ (by decide)
  have c4 : ms_cu 5 h 4 < 67108864 := Nat.mod_lt _ (by decide)
  unfold ms_Nm ms_ca ms_uN
  simp
  omega
theorem ps_lt {s f : Nat → Nat} (hs : ∀ i, i < 5 → s i < 268435456) (hf : ∀ i, i < 5 → f i < 67108864) : ∀ i, i < 5 → ∀ k, k ≤ 5 → ms_ps s f i k ≤ k * 90071992547409920
  | i, _, 0, _ => by show 0 ≤ _; exact Nat.zero_le _
  | i, hi, k + 1, hk => by
    have h1 := ps_lt hs hf i hi k (by omega)
    have h2 : ms_pt s f i k ≤ 90071992547409920 := by
      unfold ms_pt
      have a1 := hs k (by omega)
      split
      · have a2 := hf (i - k) (by omega)
        have := Nat.mul_le_mul (show s k ≤ 268435456 by omega) (show f (i - k) ≤ 67108864 by omega)
        omega
      · have a2 := hf (5 + i - k) (by omega)
        have := Nat.mul_le_mul (show 5 * s k ≤ 1342177280 by omega) (show f (5 + i - k) ≤ 67108864 by omega)
        omega
    show ms_ps s f i k + ms_pt s f i k ≤ (k + 1) * _
    rw [Nat.succ_mul]
    omega
theorem wk_lt {s f g : Nat → Nat} (hs : ∀ i, i < 5 → s i < 268435456) (hf : ∀ i, i < 5 → f i < 67108864) : ∀ i, i < 5 → ms_wk 5 s f g i < 9223372036854775808 := by
  intro i hi
  have := ps_lt hs hf i hi 5 (Nat.le_refl _)
  unfold ms_wk
  rw [if_pos hi]
  omega
-- one block: words are added, 2^128, the product, the carries
def ms_ab (h f : Nat → Nat) (lo hi : Nat) : Nat → Nat := ms_ca (ms_wk 5 (ms_uN (ms_al h lo hi) 4 (ms_al h lo hi 4 + 16777216)) f (ms_uN (ms_al h lo hi) 4 (ms_al h lo hi 4 + 16777216)))
theorem ab_s {h : Nat → Nat} (hn : ms_Nm h) {lo hi : Nat} (hl : lo < 18446744073709551616) (hh : hi < 18446744073709551616) : ∀ i, i < 5 → ms_uN (ms_al h lo hi) 4 (ms_al h lo hi 4 + 16777216) i < 268435456 := by
  obtain ⟨n0, n1, n2, n3, n4⟩ := hn
  intro i hi5
  unfold ms_al ms_uN
  match i, hi5 with
  | 0, _ => simp; omega
  | 1, _ => simp; omega
  | 2, _ => simp; omega
  | 3, _ => simp; omega
  | 4, _ => simp; omega
theorem ab_v5 {h f : Nat → Nat} {lo hi : Nat} (hl : lo < 18446744073709551616) (hh : hi < 18446744073709551616) : ms_v5 (ms_ab h f lo hi) % 1361129467683753853853498429727072845819 = (ms_v5 h + lo + hi * 18446744073709551616 + 340282366920938463463374607431768211456) * ms_v5 f % 1361129467683753853853498429727072845819 := by
  obtain ⟨K, hK⟩ := v5_mul (ms_uN (ms_al h lo hi) 4 (ms_al h lo hi 4 + 16777216)) f (ms_uN (ms_al h lo hi) 4 (ms_al h lo hi 4 + 16777216))
  have e1 : ms_v5 (ms_uN (ms_al h lo hi) 4 (ms_al h lo hi 4 + 16777216)) = ms_v5 (ms_al h lo hi) + 340282366920938463463374607431768211456 := by
    show ms_al h lo hi 0 + ms_al h lo hi 1 * _ + ms_al h lo hi 2 * _ + ms_al h lo hi 3 * _ + (ms_al h lo hi 4 + 16777216) * _ = ms_al h lo hi 0 + ms_al h lo hi 1 * _ + ms_al h lo hi 2 * _ + ms_al h lo hi 3 * _ + ms_al h lo hi 4 * _ + _
    omega
  rw [e1, al_v5 h hl hh] at hK
  have e2 := ca_v5 (ms_wk 5 (ms_uN (ms_al h lo hi) 4 (ms_al h lo hi 4 + 16777216)) f (ms_uN (ms_al h lo hi) 4 (ms_al h lo hi 4 + 16777216)))
  unfold ms_ab
  rw [hK, ← e2, Nat.add_mul_mod_self_left, Nat.add_mul_mod_self_left]
theorem ab_Nm {h f : Nat → Nat} (hn : ms_Nm h) (hf : ∀ i, i < 5 → f i < 67108864) {lo hi : Nat} (hl : lo < 18446744073709551616) (hh : hi < 18446744073709551616) : ms_Nm (ms_ab h f lo hi) := ca_Nm (wk_lt (ab_s hn hl hh) hf)
-- the end: below 2^130 - 5
theorem fi_ca {h : Nat → Nat} (hn : ms_Nm h) : (∀ i, i < 5 → ms_ca h i < 67108864) ∧ ms_v5 (ms_ca h) % 1361129467683753853853498429727072845819 = ms_v5 h % 1361129467683753853853498429727072845819 := by
  have hv := ca_v5 h
  have hcv := cu_v5 h
  have c0 : ms_cu 5 h 0 < 67108864 := Nat.mod_lt _ (by decide)
  have c1 : ms_cu 5 h 1 < 67108864 := Nat.mod_lt _ (by decide)
  have c2 : ms_cu 5 h 2 < 67108864 := Nat.mod_lt _ (by decide)
  have c3 : ms_cu 5 h 3 < 67108864 := Nat.mod_lt _ (by decide)
  have c4 : ms_cu 5 h 4 < 67108864 := Nat.mod_lt _ (by decide)
  obtain ⟨n0, n1, n2, n3, n4⟩ := hn
  refine ⟨?_, by rw [← hv, Nat.add_mul_mod_self_left]⟩
  unfold ms_v5 at hcv
  have k1 : ms_ca h 1 = ms_cu 5 h 1 + (ms_cu 5 h 0 + 5 * ms_ov h 5) / 67108864 := rfl
  have k0 : ms_ca h 0 = (ms_cu 5 h 0 + 5 * ms_ov h 5) % 67108864 := rfl
  have k2 : ms_ca h 2 = ms_cu 5 h 2 := rfl
  have k3 : ms_ca h 3 = ms_cu 5 h 3 := rfl
  have k4 : ms_ca h 4 = ms_cu 5 h 4 := rfl
  intro i hi
  match i, hi with
  | 0, _ => omega
  | 1, _ =>
    have ho : ms_ov h 5 ≤ 1 := by omega
    omega
  | 2, _ => omega
  | 3, _ => omega
  | 4, _ => omega
theorem fi_big {h : Nat → Nat} (hb : ∀ i, i < 5 → h i < 67108864) : (67108859 ≤ h 0 ∧ h 1 = 67108863 ∧ h 2 = 67108863 ∧ h 3 = 67108863 ∧ h 4 = 67108863) ↔ 1361129467683753853853498429727072845819 ≤ ms_v5 h := by
  have b0 := hb 0 (by decide)
  have b1 := hb 1 (by decide)
  have b2 := hb 2 (by decide)
  have b3 := hb 3 (by decide)
  have b4 := hb 4 (by decide)
  unfold ms_v5
  omega
theorem fi_lt {h : Nat → Nat} (hb : ∀ i, i < 5 → h i < 67108864) : ms_v5 h < 1361129467683753853853498429727072845824 := by
  have b0 := hb 0 (by decide)
  have b1 := hb 1 (by decide)
  have b2 := hb 2 (by decide)
  have b3 := hb 3 (by decide)
  have b4 := hb 4 (by decide)
  unfold ms_v5
  omega
theorem fi_sub {h : Nat → Nat} (hb : ∀ i, i < 5 → h i < 67108864) (hp : 1361129467683753853853498429727072845819 ≤ ms_v5 h) : ms_v5 (ms_cu 5 (ms_uN h 0 (h 0 + 5))) = ms_v5 h - 1361129467683753853853498429727072845819 := by
  have h1 := cu_v5 (ms_uN h 0 (h 0 + 5))
  have h2 : ms_v5 (ms_uN h 0 (h 0 + 5)) = ms_v5 h + 5 := by
    show (h 0 + 5) + h 1 * _ + h 2 * _ + h 3 * _ + h 4 * _ = h 0 + h 1 * _ + h 2 * _ + h 3 * _ + h 4 * _ + 5
    omega
  have h3 := fi_lt hb
  have h4 : ms_v5 (ms_cu 5 (ms_uN h 0 (h 0 + 5))) < 1361129467683753853853498429727072845824 := fi_lt (fun i hi => by
    unfold ms_cu
    rw [if_pos hi]
    exact Nat.mod_lt _ (by decide))
  omega
