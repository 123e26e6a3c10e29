/-! POLY1305, THE MODEL'S: ten limbs of 13 bits, as numbers. -/
def ms_vs : Nat → (Nat → Nat) → Nat
  | 0, _ => 0
  | m + 1, h => h 0 + 8192 * ms_vs m (fun n => h (n + 1))
theorem vs_congr : ∀ (m : Nat) {g h : Nat → Nat}, (∀ n, n < m → g n = h n) → ms_vs m g = ms_vs m h
  | 0, _, _, _ => rfl
  | m + 1, g, h, e => by
    show g 0 + 8192 * _ = h 0 + 8192 * _
    rw [e 0 (by omega), vs_congr m (fun n hn => e (n + 1) (by omega))]
theorem vs_add : ∀ (m : Nat) (g d : Nat → Nat), ms_vs m (fun n => g n + d n) = ms_vs m g + ms_vs m d
  | 0, _, _ => rfl
  | m + 1, g, d => by
    have h := vs_add m (fun n => g (n + 1)) (fun n => d (n + 1))
    show g 0 + d 0 + 8192 * ms_vs m (fun n => g (n + 1) + d (n + 1)) = g 0 + 8192 * _ + (d 0 + 8192 * _)
    rw [h]
    omega
theorem vs_zero : ∀ (m : Nat), ms_vs m (fun _ => 0) = 0
  | 0 => rfl
  | m + 1 => by
    show 0 + 8192 * ms_vs m (fun _ => 0) = 0
    rw [vs_zero m]
theorem vs_mul (a : Nat) : ∀ (k m : Nat) (f : Nat → Nat), k ≤ m → ms_vs m (fun n => if n < k then a * f n else 0) = a * ms_vs k f
  | 0, m, f, _ => by
    rw [vs_congr m (h := fun _ => 0) (fun n _ => if_neg (Nat.not_lt_zero n)), vs_zero]
    rfl
  | k + 1, m + 1, f, hk => by
    have h := vs_mul a k m (fun n => f (n + 1)) (by omega)
    show (if 0 < k + 1 then a * f 0 else 0) + 8192 * ms_vs m (fun n => if n + 1 < k + 1 then a * f (n + 1) else 0) = a * (f 0 + 8192 * ms_vs k (fun n => f (n + 1)))
    rw [if_pos (by omega), vs_congr m (h := fun n => if n < k then a * f (n + 1) else 0) (fun n _ => by
      by_cases hn : n < k
      · rw [if_pos hn, if_pos (by omega)]
      · rw [if_neg hn, if_neg (by omega)]), h]
    grind
theorem vs_row (a k : Nat) (f : Nat → Nat) : ∀ (i m : Nat), i + k ≤ m → ms_vs m (fun n => if i ≤ n ∧ n < i + k then a * f (n - i) else 0) = 8192 ^ i * (a * ms_vs k f)
  | 0, m, h => by
    rw [vs_congr m (h := fun n => if n < k then a * f n else 0) (fun n _ => by
      by_cases hn : n < k
      · rw [if_pos hn, if_pos (by omega), Nat.sub_zero]
      · rw [if_neg hn, if_neg (by omega)]), vs_mul a k m f (by omega)]
    omega
  | i + 1, 0, h => by omega
  | i + 1, m + 1, h => by
    have ih := vs_row a k f i m (by omega)
    show (if i + 1 ≤ 0 ∧ 0 < i + 1 + k then a * f (0 - (i + 1)) else 0) + 8192 * ms_vs m (fun n => if i + 1 ≤ n + 1 ∧ n + 1 < i + 1 + k then a * f (n + 1 - (i + 1)) else 0) = _
    rw [if_neg (by omega), vs_congr m (h := fun n => if i ≤ n ∧ n < i + k then a * f (n - i) else 0) (fun n _ => by
      by_cases hn : i ≤ n ∧ n < i + k
      · rw [if_pos hn, if_pos (by omega), show n + 1 - (i + 1) = n - i by omega]
      · rw [if_neg hn, if_neg (by omega)]), ih, Nat.pow_succ]
    grind
theorem vs_split : ∀ (a b : Nat) (P : Nat → Nat), ms_vs (a + b) P = ms_vs a P + 8192 ^ a * ms_vs b (fun n => P (n + a))
  | 0, b, P => by
    rw [Nat.zero_add, Nat.pow_zero, Nat.one_mul]
    show _ = 0 + _
    rw [Nat.zero_add]
    rfl
  | a + 1, b, P => by
    rw [show a + 1 + b = (a + b) + 1 by omega]
    have h := vs_split a b (fun n => P (n + 1))
    show P 0 + 8192 * ms_vs (a + b) (fun n => P (n + 1)) = P 0 + 8192 * ms_vs a (fun n => P (n + 1)) + _
    rw [h, Nat.pow_succ]
    have e : (fun n => (fun n => P (n + 1)) (n + a)) = (fun n => P (n + (a + 1))) := by
      funext n
      show P (n + a + 1) = P (n + (a + 1))
      rw [Nat.add_assoc]
    rw [e]
    grind
theorem vs_digit : ∀ (j m : Nat) (h : Nat → Nat), (∀ n, n < m → h n < 8192) → j < m → ms_vs m h / 8192 ^ j % 8192 = h j
  | 0, m + 1, h, hb, _ => by
    have := hb 0 (by omega)
    show (h 0 + 8192 * _) / 8192 ^ 0 % 8192 = h 0
    rw [Nat.pow_zero, Nat.div_one]
    omega
  | j + 1, m + 1, h, hb, hj => by
    have h0 := hb 0 (by omega)
    have ih := vs_digit j m (fun n => h (n + 1)) (fun n hn => hb (n + 1) (by omega)) (by omega)
    show (h 0 + 8192 * ms_vs m (fun n => h (n + 1))) / 8192 ^ (j + 1) % 8192 = h (j + 1)
    rw [Nat.pow_succ, Nat.mul_comm (8192 ^ j), ← Nat.div_div_eq_div_mul, show (h 0 + 8192 * ms_vs m (fun n => h (n + 1))) / 8192 = ms_vs m (fun n => h (n + 1)) by omega]
    exact ih
theorem vs_lt : ∀ (m : Nat) (h : Nat → Nat), (∀ n, n < m → h n < 8192) → ms_vs m h < 8192 ^ m
  | 0, _, _ => by show 0 < 1; decide
  | m + 1, h, hb => by
    have h0 := hb 0 (by omega)
    have ih := vs_lt m (fun n => h (n + 1)) (fun n hn => hb (n + 1) (by omega))
    show h 0 + 8192 * ms_vs m _ < _
    rw [Nat.pow_succ]
    omega
-- carries
def mp_o3 (h : Nat → Nat) (c : Nat) : Nat → Nat
  | 0 => c
  | k + 1 => (h k + mp_o3 h c k) / 8192
def mp_c3 (k : Nat) (h : Nat → Nat) (c : Nat) : Nat → Nat := fun i => if i < k then (h i + mp_o3 h c i) % 8192 else h i
theorem o3_shift (h : Nat → Nat) (c : Nat) : ∀ m, mp_o3 h c (m + 1) = mp_o3 (fun n => h (n + 1)) ((h 0 + c) / 8192) m
  | 0 => rfl
  | m + 1 => by
    show (h (m + 1) + mp_o3 h c (m + 1)) / 8192 = (h (m + 1) + mp_o3 (fun n => h (n + 1)) ((h 0 + c) / 8192) m) / 8192
    rw [o3_shift h c m]
theorem c3_vs : ∀ (m : Nat) (h : Nat → Nat) (c : Nat), ms_vs m (mp_c3 m h c) + 8192 ^ m * mp_o3 h c m = ms_vs m h + c
  | 0, h, c => by
    show 0 + 1 * c = 0 + c
    omega
  | m + 1, h, c => by
    have ih := c3_vs m (fun n => h (n + 1)) ((h 0 + c) / 8192)
    have e : ms_vs m (fun n => mp_c3 (m + 1) h c (n + 1)) = ms_vs m (mp_c3 m (fun n => h (n + 1)) ((h 0 + c) / 8192)) := by
      refine vs_congr m fun n hn => ?_
      unfold mp_c3
      rw [if_pos (by omega), if_pos hn, o3_shift]
    have e0 : mp_c3 (m + 1) h c 0 = (h 0 + c) % 8192 := by
      unfold mp_c3
      rw [if_pos (by omega)]
      rfl
    show mp_c3 (m + 1) h c 0 + 8192 * ms_vs m (fun n => mp_c3 (m + 1) h c (n + 1)) + 8192 ^ (m + 1) * mp_o3 h c (m + 1) = h 0 + 8192 * ms_vs m (fun n => h (n + 1)) + c
    rw [e, e0, o3_shift, Nat.pow_succ, Nat.mul_comm (8192 ^ m) 8192, Nat.mul_assoc]
    omega
theorem c3_s (k : Nat) (h : Nat → Nat) (c : Nat) : ms_uN (mp_c3 k h c) k ((h k + mp_o3 h c k) % 8192) = mp_c3 (k + 1) h c := by
  funext i
  unfold ms_uN mp_c3
  by_cases hk : i = k
  · subst hk
    simp
  · by_cases h2 : i < k
    · simp [hk, h2, Nat.lt_succ_of_lt h2]
    · simp [hk, h2, show ¬ i < k + 1 by omega]
theorem c3_k (k : Nat) (h : Nat → Nat) (c : Nat) : mp_c3 k h c k = h k := if_neg (Nat.lt_irrefl k)
theorem c3_0 (h : Nat → Nat) (c : Nat) : mp_c3 0 h c = h := by
  funext i
  exact if_neg (Nat.not_lt_zero i)
-- bits
theorem md_lowb (x i : Nat) : x % 2 ^ (i + 1) = x % 2 ^ i + x / 2 ^ i % 2 * 2 ^ i := by
  rw [Nat.pow_succ, Nat.mod_mul, Nat.mul_comm (2 ^ i)]
theorem md_bitl {b : Nat} (V k i : Nat) (hi : i < b) : V / 2 ^ (b * k) % 2 ^ b / 2 ^ i % 2 = V / 2 ^ (b * k + i) % 2 := by
  rw [Nat.pow_add, ← Nat.div_div_eq_div_mul]
  generalize V / 2 ^ (b * k) = x
  have h := Nat.testBit_mod_two_pow x b i
  rw [Nat.testBit_eq_decide_div_mod_eq, Nat.testBit_eq_decide_div_mod_eq, decide_eq_true hi, Bool.true_and] at h
  have h2 := decide_eq_decide.mp h
  have a1 := Nat.mod_two_eq_zero_or_one (x % 2 ^ b / 2 ^ i)
  have a2 := Nat.mod_two_eq_zero_or_one (x / 2 ^ i)
  omega
