/-! CHACHA20: the block function, the class's and the model's. -/
def ms_ap (r u : Nat) (g : (Nat → Int32) → Nat → Int32) (I : ms_i) : ms_i := ms_u I r u (g (I r u))
theorem ap_ap (r u : Nat) (g h : (Nat → Int32) → Nat → Int32) (I : ms_i) : ms_ap r u g (ms_ap r u h I) = ms_ap r u (fun f => g (h f)) I := by
  unfold ms_ap
  rw [ms_u_s, ms_u_u]
def ms_rl (k : Nat) (x : Int32) : Int32 := x <<< (nI k &&& 31) ||| (x.toUInt32 >>> ((nI (32 - k)).toUInt32 &&& Int32.toUInt32 31)).toInt32
def ms_ga (a b : Nat) (f : Nat → Int32) : Nat → Int32 := upd f a (f a + f b)
def ms_gr (k d a : Nat) (f : Nat → Int32) : Nat → Int32 := upd f d (ms_rl k (f d ^^^ f a))
def ms_hq (k1 k2 a b c d : Nat) (f : Nat → Int32) : Nat → Int32 := ms_gr k2 b c (ms_ga c d (ms_gr k1 d a (ms_ga a b f)))
def ms_qr (a b c d : Nat) (f : Nat → Int32) : Nat → Int32 := ms_hq 8 7 a b c d (ms_hq 16 12 a b c d f)
def ms_rd (t : Nat) (f : Nat → Int32) : Nat → Int32 := ms_qr 3 (4 + (3 + t) % 4) (8 + (3 + 2 * t) % 4) (12 + (3 + 3 * t) % 4) (ms_qr 2 (4 + (2 + t) % 4) (8 + (2 + 2 * t) % 4) (12 + (2 + 3 * t) % 4) (ms_qr 1 (4 + (1 + t) % 4) (8 + (1 + 2 * t) % 4) (12 + (1 + 3 * t) % 4) (ms_qr 0 (4 + (0 + t) % 4) (8 + (0 + 2 * t) % 4) (12 + (0 + 3 * t) % 4) f)))
def ms_its : Nat → (Nat → Int32) → Nat → Int32
  | 0, f => f
  | k + 1, f => ms_rd (k % 2) (ms_its k f)
def ms_plus (k : Nat) (f s : Nat → Int32) : Nat → Int32 := fun i => if i < k then f i + s i else f i
theorem ms_plus_s (k : Nat) (f s : Nat → Int32) : upd (ms_plus k f s) k (ms_plus k f s k + s k) = ms_plus (k + 1) f s := by
  funext i
  unfold ms_plus upd
  by_cases h : i = k
  · subst h
    simp
  · by_cases h2 : i < k
    · simp [h, h2, Nat.lt_succ_of_lt h2]
    · simp [h, h2, show ¬ i < k + 1 by omega]
section Cha
variable {q : Nat × Nat} {w : Bool} {I : ms_i} {J : ms_j} {σ : ms_M}
theorem rl_neg : ∀ k, k < 32 → 0 < k → ((-(nI k)).toUInt32 &&& Int32.toUInt32 31) = ((nI (32 - k)).toUInt32 &&& Int32.toUInt32 31) := by decide +kernel
theorem sp_147 {x : Int32} {k : Nat} (hk : k < 32) (h0 : 0 < k) : ms_G 147 0 [.int x, .int (nI k)] [] σ = some (.inl (some (.int (ms_rl k x))), σ) := by
  simp only [↓mi_147_0, ↓mi_147_1, ↓mi_147_2, ↓mi_147_3, ↓mi_147_4, ↓mi_147_5, ↓mi_147_6, ↓mi_147_7, ↓mi_147_8, rl_neg k hk h0]
  rfl
theorem sp_24 {x : Int32} {k : Nat} (hk : k < 32) : ms_G 24 0 [.int x, .int (nI k)] [] σ = some (.inl (some (.int (ms_rl k x))), σ) := by
  simp (disch := omega) only [↓mi_24_0, ↓mi_24_1, ↓mi_24_2, ↓mi_24_3, ↓mi_24_4, ↓mi_24_6, ↓mi_24_7, ↓mi_24_8, ↓mi_24_9, ↓mi_24_10, pk_sub]
  rfl
-- the class
theorem qa_1 {a b c d : Nat} (ha : a < 16) (hb : b < 16) : ms_G 67 0 [.ref (ms_ad 5 0), .int (nI a), .int (nI b), .int (nI c), .int (nI d)] [] (ms_Z q w I J) = ms_G 67 15 [.ref (ms_ad 5 0), .int (nI a), .int (nI b), .int (nI c), .int (nI d)] [] (ms_Z q true (ms_ap 7 0 (ms_ga a b) I) J) := by
  simp (disch := omega) only [↓mi_67_0, ↓mi_67_1, ↓mi_67_4, ↓mi_67_5, ↓mi_67_6, ↓mi_67_7, ↓mi_67_8, ↓mi_67_11, ↓mi_67_12, ↓mi_67_13, ↓mi_67_14, cond_true, mz_clv, mz_cln, Bool.false_or, Bool.true_or, Bool.or_false, Bool.or_true, if_true, if_false, ite_self, o0_7]
  rfl
theorem qa_2 {a b c d : Nat} (ha : a < 16) (hd : d < 16) : ms_G 67 15 [.ref (ms_ad 5 0), .int (nI a), .int (nI b), .int (nI c), .int (nI d)] [] (ms_Z q w I J) = ms_G 67 41 [.ref (ms_ad 5 0), .int (nI a), .int (nI b), .int (nI c), .int (nI d)] [] (ms_Z q true (ms_ap 7 0 (ms_gr 16 d a) I) J) := by
  simp (disch := omega) only [↓mi_67_15, ↓mi_67_16, ↓mi_67_19, ↓mi_67_21, ↓mi_67_22, ↓mi_67_25, ↓mi_67_27, ↓mi_67_28, ↓mi_67_29, ↓mi_67_32, ↓mi_67_33, ↓mi_67_34, ↓mi_67_35, ↓mi_67_37, ↓mi_67_40, cond_true, mz_clv, mz_cln, Bool.false_or, Bool.true_or, Bool.or_false, Bool.or_true, if_true, if_false, ite_self, o0_7, sp_147]
  rfl
theorem qa_3 {a b c d : Nat} (hc : c < 16) (hd : d < 16) : ms_G 67 41 [.ref (ms_ad 5 0), .int (nI a), .int (nI b), .int (nI c), .int (nI d)] [] (ms_Z q w I J) = ms_G 67 57 [.ref (ms_ad 5 0), .int (nI a), .int (nI b), .int (nI c), .int (nI d)] [] (ms_Z q true (ms_ap 7 0 (ms_ga c d) I) J) := by
  simp (disch := omega) only [↓mi_67_41, ↓mi_67_42, ↓mi_67_45, ↓mi_67_46, ↓mi_67_47, ↓mi_67_48, ↓mi_67_49, ↓mi_67_52, ↓mi_67_54, ↓mi_67_55, ↓mi_67_56, cond_true, mz_clv, mz_cln, Bool.false_or, Bool.true_or, Bool.or_false, Bool.or_true, if_true, if_false, ite_self, o0_7]
  rfl
theorem qa_4 {a b c d : Nat} (hb : b < 16) (hc : c < 16) : ms_G 67 57 [.ref (ms_ad 5 0), .int (nI a), .int (nI b), .int (nI c), .int (nI d)] [] (ms_Z q w I J) = ms_G 67 81 [.ref (ms_ad 5 0), .int (nI a), .int (nI b), .int (nI c), .int (nI d)] [] (ms_Z q true (ms_ap 7 0 (ms_gr 12 b c) I) J) := by
  simp (disch := omega) only [↓mi_67_57, ↓mi_67_58, ↓mi_67_61, ↓mi_67_62, ↓mi_67_63, ↓mi_67_66, ↓mi_67_67, ↓mi_67_68, ↓mi_67_69, ↓mi_67_72, ↓mi_67_73, ↓mi_67_74, ↓mi_67_75, ↓mi_67_77, ↓mi_67_80, cond_true, mz_clv, mz_cln, Bool.false_or, Bool.true_or, Bool.or_false, Bool.or_true, if_true, if_false, ite_self, o0_7, sp_147]
  rfl
theorem qa_5 {a b c d : Nat} (ha : a < 16) (hb : b < 16) : ms_G 67 81 [.ref (ms_ad 5 0), .int (nI a), .int (nI b), .int (nI c), .int (nI d)] [] (ms_Z q w I J) = ms_G 67 96 [.ref (ms_ad 5 0), .int (nI a), .int (nI b), .int (nI c), .int (nI d)] [] (ms_Z q true (ms_ap 7 0 (ms_ga a b) I) J) := by
  simp (disch := omega) only [↓mi_67_81, ↓mi_67_82, ↓mi_67_85, ↓mi_67_86, ↓mi_67_87, ↓mi_67_88, ↓mi_67_89, ↓mi_67_92, ↓mi_67_93, ↓mi_67_94, ↓mi_67_95, cond_true, mz_clv, mz_cln, Bool.false_or, Bool.true_or, Bool.or_false, Bool.or_true, if_true, if_false, ite_self, o0_7]
  rfl
theorem qa_6 {a b c d : Nat} (ha : a < 16) (hd : d < 16) : ms_G 67 96 [.ref (ms_ad 5 0), .int (nI a), .int (nI b), .int (nI c), .int (nI d)] [] (ms_Z q w I J) = ms_G 67 122 [.ref (ms_ad 5 0), .int (nI a), .int (nI b), .int (nI c), .int (nI d)] [] (ms_Z q true (ms_ap 7 0 (ms_gr 8 d a) I) J) := by
  simp (disch := omega) only [↓mi_67_96, ↓mi_67_97, ↓mi_67_100, ↓mi_67_102, ↓mi_67_103, ↓mi_67_106, ↓mi_67_108, ↓mi_67_109, ↓mi_67_110, ↓mi_67_113, ↓mi_67_114, ↓mi_67_115, ↓mi_67_116, ↓mi_67_118, ↓mi_67_121, cond_true, mz_clv, mz_cln, Bool.false_or, Bool.true_or, Bool.or_false, Bool.or_true, if_true, if_false, ite_self, o0_7, sp_147]
  rfl
theorem qa_7 {a b c d : Nat} (hc : c < 16) (hd : d < 16) : ms_G 67 122 [.ref (ms_ad 5 0), .int (nI a), .int (nI b), .int (nI c), .int (nI d)] [] (ms_Z q w I J) = ms_G 67 138 [.ref (ms_ad 5 0), .int (nI a), .int (nI b), .int (nI c), .int (nI d)] [] (ms_Z q true (ms_ap 7 0 (ms_ga c d) I) J) := by
  simp (disch := omega) only [↓mi_67_122, ↓mi_67_123, ↓mi_67_126, ↓mi_67_127, ↓mi_67_128, ↓mi_67_129, ↓mi_67_130, ↓mi_67_133, ↓mi_67_135, ↓mi_67_136, ↓mi_67_137, cond_true, mz_clv, mz_cln, Bool.false_or, Bool.true_or, Bool.or_false, Bool.or_true, if_true, if_false, ite_self, o0_7]
  rfl
theorem qa_8 {a b c d : Nat} (hb : b < 16) (hc : c < 16) : ms_G 67 138 [.ref (ms_ad 5 0), .int (nI a), .int (nI b), .int (nI c), .int (nI d)] [] (ms_Z q w I J) = some (.inl none, ms_Z q true (ms_ap 7 0 (ms_gr 7 b c) I) J) := by
  simp (disch := omega) only [↓mi_67_138, ↓mi_67_139, ↓mi_67_142, ↓mi_67_143, ↓mi_67_144, ↓mi_67_147, ↓mi_67_148, ↓mi_67_149, ↓mi_67_150, ↓mi_67_153, ↓mi_67_154, ↓mi_67_155, ↓mi_67_156, ↓mi_67_158, ↓mi_67_161, ↓mi_67_162, cond_true, mz_clv, mz_cln, Bool.false_or, Bool.true_or, Bool.or_false, Bool.or_true, if_true, if_false, ite_self, o0_7, sp_147]
  rfl
theorem sp_67 {a b c d : Nat} (ha : a < 16) (hb : b < 16) (hc : c < 16) (hd : d < 16) : ms_G 67 0 [.ref (ms_ad 5 0), .int (nI a), .int (nI b), .int (nI c), .int (nI d)] [] (ms_Z q false I J) = some (.inl none, ms_Z q true (ms_ap 7 0 (ms_qr a b c d) I) J) := by
  rw [qa_1 ha hb, qa_2 ha hd, qa_3 hc hd, qa_4 hb hc, qa_5 ha hb, qa_6 ha hd, qa_7 hc hd, qa_8 hb hc]
  simp only [ap_ap]
  rfl
-- the model
theorem qm_1 {a b c d : Nat} (ha : a < 16) (hb : b < 16) {k : Int32} : ms_G 25 9 [.ref (ms_ad 40 0), .int (nI a), .int (nI b), .int (nI c), .int (nI d), .int k] [] (ms_Z q w I J) = ms_G 25 24 [.ref (ms_ad 40 0), .int (nI a), .int (nI b), .int (nI c), .int (nI d), .int k] [] (ms_Z q true (ms_ap 59 0 (ms_ga a b) I) J) := by
  simp (disch := omega) only [↓mi_25_9, ↓mi_25_10, ↓mi_25_13, ↓mi_25_14, ↓mi_25_15, ↓mi_25_16, ↓mi_25_17, ↓mi_25_20, ↓mi_25_21, ↓mi_25_22, ↓mi_25_23, cond_true, mz_clv, mz_cln, Bool.false_or, Bool.true_or, Bool.or_false, Bool.or_true, if_true, if_false, ite_self, o0_59]
  rfl
theorem qm_2 {a b c d : Nat} (ha : a < 16) (hd : d < 16) : ms_G 25 24 [.ref (ms_ad 40 0), .int (nI a), .int (nI b), .int (nI c), .int (nI d), .int (nI 0)] [] (ms_Z q w I J) = ms_G 25 60 [.ref (ms_ad 40 0), .int (nI a), .int (nI b), .int (nI c), .int (nI d), .int (nI 0)] [] (ms_Z q true (ms_ap 59 0 (ms_gr 16 d a) I) J) := by
  simp (disch := omega) only [↓mi_25_24, ↓mi_25_25, ↓mi_25_28, ↓mi_25_30, ↓mi_25_31, ↓mi_25_34, ↓mi_25_36, ↓mi_25_37, ↓mi_25_38, ↓mi_25_41, ↓mi_25_42, ↓mi_25_43, ↓mi_25_44, ↓mi_25_46, ↓mi_25_49, ↓mi_25_51, ↓mi_25_54, ↓mi_25_56, ↓mi_25_59, cond_true, mz_clv, mz_cln, Bool.false_or, Bool.true_or, Bool.or_false, Bool.or_true, if_true, if_false, ite_self, o0_59, sp_24]
  rfl
theorem qm_2' {a b c d : Nat} (ha : a < 16) (hd : d < 16) : ms_G 25 24 [.ref (ms_ad 40 0), .int (nI a), .int (nI b), .int (nI c), .int (nI d), .int (nI 1)] [] (ms_Z q w I J) = ms_G 25 60 [.ref (ms_ad 40 0), .int (nI a), .int (nI b), .int (nI c), .int (nI d), .int (nI 1)] [] (ms_Z q true (ms_ap 59 0 (ms_gr 8 d a) I) J) := by
  simp (disch := omega) only [↓mi_25_24, ↓mi_25_25, ↓mi_25_28, ↓mi_25_30, ↓mi_25_31, ↓mi_25_34, ↓mi_25_36, ↓mi_25_37, ↓mi_25_38, ↓mi_25_41, ↓mi_25_42, ↓mi_25_43, ↓mi_25_44, ↓mi_25_46, ↓mi_25_49, ↓mi_25_51, ↓mi_25_54, ↓mi_25_56, ↓mi_25_59, cond_true, mz_clv, mz_cln, Bool.false_or, Bool.true_or, Bool.or_false, Bool.or_true, if_true, if_false, ite_self, o0_59, sp_24, na_eq, if_neg]
  rfl
theorem qm_3 {a b c d : Nat} (hc : c < 16) (hd : d < 16) {k : Int32} : ms_G 25 60 [.ref (ms_ad 40 0), .int (nI a), .int (nI b), .int (nI c), .int (nI d), .int k] [] (ms_Z q w I J) = ms_G 25 76 [.ref (ms_ad 40 0), .int (nI a), .int (nI b), .int (nI c), .int (nI d), .int k] [] (ms_Z q true (ms_ap 59 0 (ms_ga c d) I) J) := by
  simp (disch := omega) only [↓mi_25_60, ↓mi_25_61, ↓mi_25_64, ↓mi_25_65, ↓mi_25_66, ↓mi_25_67, ↓mi_25_68, ↓mi_25_71, ↓mi_25_73, ↓mi_25_74, ↓mi_25_75, cond_true, mz_clv, mz_cln, Bool.false_or, Bool.true_or, Bool.or_false, Bool.or_true, if_true, if_false, ite_self, o0_59]
  rfl
theorem qm_4 {a b c d : Nat} (hb : b < 16) (hc : c < 16) : ms_G 25 76 [.ref (ms_ad 40 0), .int (nI a), .int (nI b), .int (nI c), .int (nI d), .int (nI 0)] [] (ms_Z q w I J) = ms_G 25 110 [.ref (ms_ad 40 0), .int (nI a), .int (nI b), .int (nI c), .int (nI d), .int (nI 0)] [] (ms_Z q true (ms_ap 59 0 (ms_gr 12 b c) I) J) := by
  simp (disch := omega) only [↓mi_25_76, ↓mi_25_77, ↓mi_25_80, ↓mi_25_81, ↓mi_25_82, ↓mi_25_85, ↓mi_25_86, ↓mi_25_87, ↓mi_25_88, ↓mi_25_91, ↓mi_25_92, ↓mi_25_93, ↓mi_25_94, ↓mi_25_96, ↓mi_25_99, ↓mi_25_101, ↓mi_25_104, ↓mi_25_106, ↓mi_25_109, cond_true, mz_clv, mz_cln, Bool.false_or, Bool.true_or, Bool.or_false, Bool.or_true, if_true, if_false, ite_self, o0_59, sp_24]
  rfl
theorem qm_4' {a b c d : Nat} (hb : b < 16) (hc : c < 16) : ms_G 25 76 [.ref (ms_ad 40 0), .int (nI a), .int (nI b), .int (nI c), .int (nI d), .int (nI 1)] [] (ms_Z q w I J) = ms_G 25 110 [.ref (ms_ad 40 0), .int (nI a), .int (nI b), .int (nI c), .int (nI d), .int (nI 1)] [] (ms_Z q true (ms_ap 59 0 (ms_gr 7 b c) I) J) := by
  simp (disch := omega) only [↓mi_25_76, ↓mi_25_77, ↓mi_25_80, ↓mi_25_81, ↓mi_25_82, ↓mi_25_85, ↓mi_25_86, ↓mi_25_87, ↓mi_25_88, ↓mi_25_91, ↓mi_25_92, ↓mi_25_93, ↓mi_25_94, ↓mi_25_96, ↓mi_25_99, ↓mi_25_101, ↓mi_25_104, ↓mi_25_106, ↓mi_25_109, cond_true, mz_clv, mz_cln, Bool.false_or, Bool.true_or, Bool.or_false, Bool.or_true, if_true, if_false, ite_self, o0_59, sp_24, na_eq, if_neg]
  rfl
theorem sp_25 {a b c d : Nat} (ha : a < 16) (hb : b < 16) (hc : c < 16) (hd : d < 16) : ms_G 25 0 [.ref (ms_ad 40 0), .int (nI a), .int (nI b), .int (nI c), .int (nI d), .null] [] (ms_Z q false I J) = some (.inl none, ms_Z q true (ms_ap 59 0 (ms_qr a b c d) I) J) := by
  have e1 : ∀ (w : Bool) (I : ms_i), ms_G 25 3 [.ref (ms_ad 40 0), .int (nI a), .int (nI b), .int (nI c), .int (nI d), .int (nI 0)] [] (ms_Z q w I J) = ms_G 25 3 [.ref (ms_ad 40 0), .int (nI a), .int (nI b), .int (nI c), .int (nI d), .int (nI 1)] [] (ms_Z q true (ms_ap 59 0 (ms_hq 16 12 a b c d) I) J) := by
    intro w I
    simp (disch := omega) only [mi_25_3, mi_25_5, mi_25_6, na_le, if_neg]
    rw [qm_1 ha hb, qm_2 ha hd, qm_3 hc hd, qm_4 hb hc]
    simp only [mi_25_110, mi_25_113, na_up, ap_ap]
    simp (disch := omega) only [mi_25_3, mi_25_5, mi_25_6, na_le, if_neg]
    rfl
  have e2 : ∀ (w : Bool) (I : ms_i), ms_G 25 3 [.ref (ms_ad 40 0), .int (nI a), .int (nI b), .int (nI c), .int (nI d), .int (nI 1)] [] (ms_Z q w I J) = some (.inl none, ms_Z q true (ms_ap 59 0 (ms_hq 8 7 a b c d) I) J) := by
    intro w I
    simp (disch := omega) only [mi_25_3, mi_25_5, mi_25_6, na_le, if_neg]
    rw [qm_1 ha hb, qm_2' ha hd, qm_3 hc hd, qm_4' hb hc]
    simp (disch := omega) only [mi_25_110, mi_25_113, na_up, ap_ap, mi_25_3, mi_25_5, mi_25_6, na_le, if_pos, mi_25_116]
    rfl
  simp only [mi_25_0, mi_25_1]
  rw [e1, e2, ap_ap]
  rfl
end Cha
