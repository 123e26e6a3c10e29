/-! ACCESSES IN RANGE, region by region, by gen4.py. -/
theorem ms_wl_le (p : Nat) : ms_wl p ≤ 65 := by
  have key : ∀ k, k < 7 → [4, 64, 4, 17, 33, 65, 1].getD k 0 ≤ 65 := by decide
  exact key (p % 7) (Nat.mod_lt _ (by decide))
theorem mo_0_ok {q r u i : Nat} (h1 : ms_kr r = 0) (h2 : u < ms_cn r) (h3 : i < ms_nr q r u) (h4 : i < 5000) : mo_0 q r u i = true := by simp [mo_0, h1, h2, h3, h4]
theorem mo_1_ok {q r u i : Nat} (h1 : ms_kr r = 1) (h2 : u < ms_cn r) (h3 : i < ms_nr q r u) (h4 : i < 5000) : mo_1 q r u i = true := by simp [mo_1, h1, h2, h3, h4]
theorem mo_2_ok {q r u i : Nat} (h1 : ms_kr r = 2 ∨ ms_kr r = 3 ∨ ms_kr r = 4) (h2 : u < ms_cn r) (h3 : i < ms_nr q r u) (h4 : i < 5000) : mo_2 q r u i = true := by simp [mo_2, h1, h2, h3, h4]
theorem mo_c_ok {q r u r' u' sp dp n : Nat} (h1 : ms_kr r = 0) (h2 : ms_kr r' = 0) (h3 : u < ms_cn r) (h4 : u' < ms_cn r') (h5 : sp + n ≤ ms_nr q r u) (h6 : dp + n ≤ ms_nr q r' u') (h7 : sp + n < 5000) (h8 : dp + n < 5000) : mo_c q r u r' u' sp dp n = true := by simp [mo_c, h1, h2, h3, h4, h5, h6, h7, h8]
theorem mo_d_ok {q r u r' u' sp dp n : Nat} (h1 : ms_kr r = 1) (h2 : ms_kr r' = 1) (h3 : u < ms_cn r) (h4 : u' < ms_cn r') (h5 : sp + n ≤ ms_nr q r u) (h6 : dp + n ≤ ms_nr q r' u') (h7 : sp + n < 5000) (h8 : dp + n < 5000) : mo_d q r u r' u' sp dp n = true := by simp [mo_d, h1, h2, h3, h4, h5, h6, h7, h8]
theorem o0_6 {q i : Nat} (h : i < 16) : mo_0 q 6 0 i = true := mo_0_ok rfl (by decide) h (by omega)
theorem o3_6 : mo_3 6 0 = true := rfl
theorem o0_7 {q i : Nat} (h : i < 16) : mo_0 q 7 0 i = true := mo_0_ok rfl (by decide) h (by omega)
theorem o3_7 : mo_3 7 0 = true := rfl
theorem o1_9 {q i : Nat} (h : i < 5) : mo_1 q 9 0 i = true := mo_1_ok rfl (by decide) h (by omega)
theorem o3_9 : mo_3 9 0 = true := rfl
theorem o1_10 {q i : Nat} (h : i < 5) : mo_1 q 10 0 i = true := mo_1_ok rfl (by decide) h (by omega)
theorem o3_10 : mo_3 10 0 = true := rfl
theorem o1_11 {q i : Nat} (h : i < 5) : mo_1 q 11 0 i = true := mo_1_ok rfl (by decide) h (by omega)
theorem o3_11 : mo_3 11 0 = true := rfl
theorem o0_12 {q i : Nat} (h : i < 4) : mo_0 q 12 0 i = true := mo_0_ok rfl (by decide) h (by omega)
theorem o3_12 : mo_3 12 0 = true := rfl
theorem o0_13 {q i : Nat} (h : i < 4) : mo_0 q 13 0 i = true := mo_0_ok rfl (by decide) h (by omega)
theorem o3_13 : mo_3 13 0 = true := rfl
theorem o2_15 {q i : Nat} (h : i < 56) : mo_2 q 15 0 i = true := mo_2_ok (Or.inr (Or.inl rfl)) (by decide) h (by omega)
theorem o3_15 : mo_3 15 0 = true := rfl
theorem o0_16 {q i : Nat} (h : i < 56) : mo_0 q 16 0 i = true := mo_0_ok rfl (by decide) h (by omega)
theorem o3_16 : mo_3 16 0 = true := rfl
theorem o0_18 {q p i : Nat} (hp : p < 56) (h : i < ms_wl p) : mo_0 q 18 p i = true := mo_0_ok rfl hp h (by have := ms_wl_le p; omega)
theorem o3_18 {u : Nat} (hu : u < 56) : mo_3 18 u = true := by simp [mo_3, hu, kr_18, cn_18]
theorem o0_20 {q i : Nat} (h : i < 3) : mo_0 q 20 0 i = true := mo_0_ok rfl (by decide) h (by omega)
theorem o3_20 : mo_3 20 0 = true := rfl
theorem o2_21 {q i : Nat} (h : i < 8) : mo_2 q 21 0 i = true := mo_2_ok (Or.inl rfl) (by decide) h (by omega)
theorem o3_21 : mo_3 21 0 = true := rfl
theorem o0_22 {q u i : Nat} (hu : u < 8) (h : i < 4) : mo_0 q 22 u i = true := mo_0_ok rfl hu h (by omega)
theorem o3_22 {u : Nat} (hu : u < 8) : mo_3 22 u = true := by simp [mo_3, hu, kr_22, cn_22]
theorem o2_23 {q i : Nat} (h : i < 8) : mo_2 q 23 0 i = true := mo_2_ok (Or.inl rfl) (by decide) h (by omega)
theorem o3_23 : mo_3 23 0 = true := rfl
theorem o0_24 {q u i : Nat} (hu : u < 8) (h : i < 64) : mo_0 q 24 u i = true := mo_0_ok rfl hu h (by omega)
theorem o3_24 {u : Nat} (hu : u < 8) : mo_3 24 u = true := by simp [mo_3, hu, kr_24, cn_24]
theorem o2_25 {q i : Nat} (h : i < 8) : mo_2 q 25 0 i = true := mo_2_ok (Or.inl rfl) (by decide) h (by omega)
theorem o3_25 : mo_3 25 0 = true := rfl
theorem o0_26 {q u i : Nat} (hu : u < 8) (h : i < 4) : mo_0 q 26 u i = true := mo_0_ok rfl hu h (by omega)
theorem o3_26 {u : Nat} (hu : u < 8) : mo_3 26 u = true := by simp [mo_3, hu, kr_26, cn_26]
theorem o2_27 {q i : Nat} (h : i < 8) : mo_2 q 27 0 i = true := mo_2_ok (Or.inl rfl) (by decide) h (by omega)
theorem o3_27 : mo_3 27 0 = true := rfl
theorem o0_28 {q u i : Nat} (hu : u < 8) (h : i < 17) : mo_0 q 28 u i = true := mo_0_ok rfl hu h (by omega)
theorem o3_28 {u : Nat} (hu : u < 8) : mo_3 28 u = true := by simp [mo_3, hu, kr_28, cn_28]
theorem o0_29 {q i : Nat} (h : i < 4) : mo_0 q 29 0 i = true := mo_0_ok rfl (by decide) h (by omega)
theorem o3_29 : mo_3 29 0 = true := rfl
theorem o2_30 {q i : Nat} (h : i < 8) : mo_2 q 30 0 i = true := mo_2_ok (Or.inr (Or.inr rfl)) (by decide) h (by omega)
theorem o3_30 : mo_3 30 0 = true := rfl
theorem o1_32 {q u i : Nat} (hu : u < 8) (h : i < 3) : mo_1 q 32 u i = true := mo_1_ok rfl hu h (by omega)
theorem o3_32 {u : Nat} (hu : u < 8) : mo_3 32 u = true := by simp [mo_3, hu, kr_32, cn_32]
theorem o0_33 {q u i : Nat} (hu : u < 8) (h : i < 4) : mo_0 q 33 u i = true := mo_0_ok rfl hu h (by omega)
theorem o3_33 {u : Nat} (hu : u < 8) : mo_3 33 u = true := by simp [mo_3, hu, kr_33, cn_33]
theorem o1_34 {q u i : Nat} (hu : u < 8) (h : i < 8) : mo_1 q 34 u i = true := mo_1_ok rfl hu h (by omega)
theorem o3_34 {u : Nat} (hu : u < 8) : mo_3 34 u = true := by simp [mo_3, hu, kr_34, cn_34]
theorem o1_35 {q u i : Nat} (hu : u < 8) (h : i < 8) : mo_1 q 35 u i = true := mo_1_ok rfl hu h (by omega)
theorem o3_35 {u : Nat} (hu : u < 8) : mo_3 35 u = true := by simp [mo_3, hu, kr_35, cn_35]
theorem o0_36 {q u i : Nat} (hu : u < 8) (h : i < 3) : mo_0 q 36 u i = true := mo_0_ok rfl hu h (by omega)
theorem o3_36 {u : Nat} (hu : u < 8) : mo_3 36 u = true := by simp [mo_3, hu, kr_36, cn_36]
theorem o0_37 {q u i : Nat} (hu : u < 8) (h : i < 33) : mo_0 q 37 u i = true := mo_0_ok rfl hu h (by omega)
theorem o3_37 {u : Nat} (hu : u < 8) : mo_3 37 u = true := by simp [mo_3, hu, kr_37, cn_37]
theorem o0_38 {q u i : Nat} (hu : u < 8) (h : i < 65) : mo_0 q 38 u i = true := mo_0_ok rfl hu h (by omega)
theorem o3_38 {u : Nat} (hu : u < 8) : mo_3 38 u = true := by simp [mo_3, hu, kr_38, cn_38]
theorem o0_39 {q u i : Nat} (hu : u < 8) (h : i < 4) : mo_0 q 39 u i = true := mo_0_ok rfl hu h (by omega)
theorem o3_39 {u : Nat} (hu : u < 8) : mo_3 39 u = true := by simp [mo_3, hu, kr_39, cn_39]
theorem o1_41 {q i : Nat} (h : i < 24) : mo_1 q 41 0 i = true := mo_1_ok rfl (by decide) h (by omega)
theorem o3_41 : mo_3 41 0 = true := rfl
theorem o0_42 {q i : Nat} (h : i < 32) : mo_0 q 42 0 i = true := mo_0_ok rfl (by decide) h (by omega)
theorem o3_42 : mo_3 42 0 = true := rfl
theorem o0_43 {q i : Nat} (h : i < 8) : mo_0 q 43 0 i = true := mo_0_ok rfl (by decide) h (by omega)
theorem o3_43 : mo_3 43 0 = true := rfl
theorem o0_44 {q i : Nat} (h : i < 8) : mo_0 q 44 0 i = true := mo_0_ok rfl (by decide) h (by omega)
theorem o3_44 : mo_3 44 0 = true := rfl
theorem o0_45 {q i : Nat} (h : i < 8) : mo_0 q 45 0 i = true := mo_0_ok rfl (by decide) h (by omega)
theorem o3_45 : mo_3 45 0 = true := rfl
theorem o0_46 {q i : Nat} (h : i < 8) : mo_0 q 46 0 i = true := mo_0_ok rfl (by decide) h (by omega)
theorem o3_46 : mo_3 46 0 = true := rfl
theorem o0_47 {q i : Nat} (h : i < 24) : mo_0 q 47 0 i = true := mo_0_ok rfl (by decide) h (by omega)
theorem o3_47 : mo_3 47 0 = true := rfl
theorem o0_48 {q i : Nat} (h : i < 256) : mo_0 q 48 0 i = true := mo_0_ok rfl (by decide) h (by omega)
theorem o3_48 : mo_3 48 0 = true := rfl
theorem o0_49 {q i : Nat} (h : i < 512) : mo_0 q 49 0 i = true := mo_0_ok rfl (by decide) h (by omega)
theorem o3_49 : mo_3 49 0 = true := rfl
theorem o0_50 {q i : Nat} (h : i < 4) : mo_0 q 50 0 i = true := mo_0_ok rfl (by decide) h (by omega)
theorem o3_50 : mo_3 50 0 = true := rfl
theorem o0_51 {q i : Nat} (h : i < 4) : mo_0 q 51 0 i = true := mo_0_ok rfl (by decide) h (by omega)
theorem o3_51 : mo_3 51 0 = true := rfl
theorem o0_52 {q i : Nat} (h : i < 32) : mo_0 q 52 0 i = true := mo_0_ok rfl (by decide) h (by omega)
theorem o3_52 : mo_3 52 0 = true := rfl
theorem o0_53 {q i : Nat} (h : i < 512) : mo_0 q 53 0 i = true := mo_0_ok rfl (by decide) h (by omega)
theorem o3_53 : mo_3 53 0 = true := rfl
theorem o0_54 {q i : Nat} (h : i < 32) : mo_0 q 54 0 i = true := mo_0_ok rfl (by decide) h (by omega)
theorem o3_54 : mo_3 54 0 = true := rfl
theorem o0_55 {q i : Nat} (h : i < 136) : mo_0 q 55 0 i = true := mo_0_ok rfl (by decide) h (by omega)
theorem o3_55 : mo_3 55 0 = true := rfl
theorem o0_56 {q i : Nat} (h : i < 4480) : mo_0 q 56 0 i = true := mo_0_ok rfl (by decide) h (by omega)
theorem o3_56 : mo_3 56 0 = true := rfl
theorem o0_57 {q i : Nat} (h : i < 4) : mo_0 q 57 0 i = true := mo_0_ok rfl (by decide) h (by omega)
theorem o3_57 : mo_3 57 0 = true := rfl
theorem o0_58 {q i : Nat} (h : i < 16) : mo_0 q 58 0 i = true := mo_0_ok rfl (by decide) h (by omega)
theorem o3_58 : mo_3 58 0 = true := rfl
theorem o0_59 {q i : Nat} (h : i < 16) : mo_0 q 59 0 i = true := mo_0_ok rfl (by decide) h (by omega)
theorem o3_59 : mo_3 59 0 = true := rfl
theorem o1_60 {q i : Nat} (h : i < 10) : mo_1 q 60 0 i = true := mo_1_ok rfl (by decide) h (by omega)
theorem o3_60 : mo_3 60 0 = true := rfl
theorem o1_61 {q i : Nat} (h : i < 10) : mo_1 q 61 0 i = true := mo_1_ok rfl (by decide) h (by omega)
theorem o3_61 : mo_3 61 0 = true := rfl
theorem o1_62 {q i : Nat} (h : i < 20) : mo_1 q 62 0 i = true := mo_1_ok rfl (by decide) h (by omega)
theorem o3_62 : mo_3 62 0 = true := rfl
theorem o0_63 {q i : Nat} (h : i < 5) : mo_0 q 63 0 i = true := mo_0_ok rfl (by decide) h (by omega)
theorem o3_63 : mo_3 63 0 = true := rfl
theorem o0_64 {q i : Nat} (h : i < 4) : mo_0 q 64 0 i = true := mo_0_ok rfl (by decide) h (by omega)
theorem o3_64 : mo_3 64 0 = true := rfl
theorem o1_65 {q i : Nat} (h : i < 10) : mo_1 q 65 0 i = true := mo_1_ok rfl (by decide) h (by omega)
theorem o3_65 : mo_3 65 0 = true := rfl
theorem o1_66 {q i : Nat} (h : i < 1) : mo_1 q 66 0 i = true := mo_1_ok rfl (by decide) h (by omega)
theorem o3_66 : mo_3 66 0 = true := rfl
theorem o3_0 : mo_3 0 0 = true := rfl
