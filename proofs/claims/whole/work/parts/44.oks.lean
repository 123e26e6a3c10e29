/-! EVERY ROW OF THE CODE TABLES IS AS IT MUST BE. By gen.py. -/
theorem ms_k0 : ∀ e ∈ ms_c0, ms_ckA 0 e.1 e.2 = true := List.all_eq_true.mp (by decide +kernel)
theorem ms_k1 : ∀ e ∈ ms_c1, ms_ckA 1 e.1 e.2 = true := List.all_eq_true.mp (by decide +kernel)
theorem ms_k2 : ∀ e ∈ ms_c2, ms_ckA 2 e.1 e.2 = true := List.all_eq_true.mp (by decide +kernel)
theorem ms_k3 : ∀ e ∈ ms_c3, ms_ckA 3 e.1 e.2 = true := List.all_eq_true.mp (by decide +kernel)
theorem ms_k4 : ∀ e ∈ ms_c4, ms_ckA 4 e.1 e.2 = true := List.all_eq_true.mp (by decide +kernel)
theorem ms_k5 : ∀ e ∈ ms_c5, ms_ckA 5 e.1 e.2 = true := List.all_eq_true.mp (by decide +kernel)
theorem ms_k6 : ∀ e ∈ ms_c6, ms_ckA 6 e.1 e.2 = true := List.all_eq_true.mp (by decide +kernel)
theorem ms_k7 : ∀ e ∈ ms_c7, ms_ckA 7 e.1 e.2 = true := List.all_eq_true.mp (by decide +kernel)
theorem ms_k8 : ∀ e ∈ ms_c8, ms_ckA 8 e.1 e.2 = true := List.all_eq_true.mp (by decide +kernel)
theorem ms_k9 : ∀ e ∈ ms_c9, ms_ckA 9 e.1 e.2 = true := List.all_eq_true.mp (by decide +kernel)
theorem ms_k10 : ∀ e ∈ ms_c10, ms_ckA 10 e.1 e.2 = true := List.all_eq_true.mp (by decide +kernel)
theorem ms_k11 : ∀ e ∈ ms_c11, ms_ckA 11 e.1 e.2 = true := List.all_eq_true.mp (by decide +kernel)
theorem ms_k12 : ∀ e ∈ ms_c12, ms_ckA 12 e.1 e.2 = true := List.all_eq_true.mp (by decide +kernel)
theorem ms_k13 : ∀ e ∈ ms_c13, ms_ckA 13 e.1 e.2 = true := List.all_eq_true.mp (by decide +kernel)
theorem ms_k14 : ∀ e ∈ ms_c14, ms_ckA 14 e.1 e.2 = true := List.all_eq_true.mp (by decide +kernel)
theorem ms_k15 : ∀ e ∈ ms_c15, ms_ckA 15 e.1 e.2 = true := List.all_eq_true.mp (by decide +kernel)
theorem ms_k16_0 : ∀ e ∈ (ms_c16.drop 0).take 50, ms_ckA 16 e.1 e.2 = true := List.all_eq_true.mp (by decide +kernel)
theorem ms_k16_1 : ∀ e ∈ (ms_c16.drop 50).take 50, ms_ckA 16 e.1 e.2 = true := List.all_eq_true.mp (by decide +kernel)
theorem ms_k16_2 : ∀ e ∈ (ms_c16.drop 100).take 50, ms_ckA 16 e.1 e.2 = true := List.all_eq_true.mp (by decide +kernel)
set_option maxRecDepth 100000 in
theorem ms_k16 : ∀ e ∈ ms_c16, ms_ckA 16 e.1 e.2 = true := by
  intro e he
  have hs : ms_c16 = (ms_c16.drop 0).take 50 ++ (ms_c16.drop 50).take 50 ++ (ms_c16.drop 100).take 50 := by rfl
  rw [hs] at he
  simp only [List.mem_append] at he
  rcases he with (h0 | h1) | h2
  · exact ms_k16_0 e h0
  · exact ms_k16_1 e h1
  · exact ms_k16_2 e h2
theorem ms_k17 : ∀ e ∈ ms_c17, ms_ckA 17 e.1 e.2 = true := List.all_eq_true.mp (by decide +kernel)
theorem ms_k18 : ∀ e ∈ ms_c18, ms_ckA 18 e.1 e.2 = true := List.all_eq_true.mp (by decide +kernel)
theorem ms_k19 : ∀ e ∈ ms_c19, ms_ckA 19 e.1 e.2 = true := List.all_eq_true.mp (by decide +kernel)
theorem ms_k20 : ∀ e ∈ ms_c20, ms_ckA 20 e.1 e.2 = true := List.all_eq_true.mp (by decide +kernel)
theorem ms_k21 : ∀ e ∈ ms_c21, ms_ckA 21 e.1 e.2 = true := List.all_eq_true.mp (by decide +kernel)
theorem ms_k22 : ∀ e ∈ ms_c22, ms_ckA 22 e.1 e.2 = true := List.all_eq_true.mp (by decide +kernel)
theorem ms_k23 : ∀ e ∈ ms_c23, ms_ckA 23 e.1 e.2 = true := List.all_eq_true.mp (by decide +kernel)
theorem ms_k24 : ∀ e ∈ ms_c24, ms_ckA 24 e.1 e.2 = true := List.all_eq_true.mp (by decide +kernel)
theorem ms_k25_0 : ∀ e ∈ (ms_c25.drop 0).take 50, ms_ckA 25 e.1 e.2 = true := List.all_eq_true.mp (by decide +kernel)
theorem ms_k25_1 : ∀ e ∈ (ms_c25.drop 50).take 50, ms_ckA 25 e.1 e.2 = true := List.all_eq_true.mp (by decide +kernel)
set_option maxRecDepth 100000 in
theorem ms_k25 : ∀ e ∈ ms_c25, ms_ckA 25 e.1 e.2 = true := by
  intro e he
  have hs : ms_c25 = (ms_c25.drop 0).take 50 ++ (ms_c25.drop 50).take 50 := by rfl
  rw [hs] at he
  simp only [List.mem_append] at he
  rcases he with h0 | h1
  · exact ms_k25_0 e h0
  · exact ms_k25_1 e h1
theorem ms_k26_0 : ∀ e ∈ (ms_c26.drop 0).take 50, ms_ckA 26 e.1 e.2 = true := List.all_eq_true.mp (by decide +kernel)
theorem ms_k26_1 : ∀ e ∈ (ms_c26.drop 50).take 50, ms_ckA 26 e.1 e.2 = true := List.all_eq_true.mp (by decide +kernel)
theorem ms_k26_2 : ∀ e ∈ (ms_c26.drop 100).take 50, ms_ckA 26 e.1 e.2 = true := List.all_eq_true.mp (by decide +kernel)
theorem ms_k26_3 : ∀ e ∈ (ms_c26.drop 150).take 50, ms_ckA 26 e.1 e.2 = true := List.all_eq_true.mp (by decide +kernel)
set_option maxRecDepth 100000 in
theorem ms_k26 : ∀ e ∈ ms_c26, ms_ckA 26 e.1 e.2 = true := by
  intro e he
  have hs : ms_c26 = (ms_c26.drop 0).take 50 ++ (ms_c26.drop 50).take 50 ++ (ms_c26.drop 100).take 50 ++ (ms_c26.drop 150).take 50 := by rfl
  rw [hs] at he
  simp only [List.mem_append] at he
  rcases he with ((h0 | h1) | h2) | h3
  · exact ms_k26_0 e h0
  · exact ms_k26_1 e h1
  · exact ms_k26_2 e h2
  · exact ms_k26_3 e h3
theorem ms_k27 : ∀ e ∈ ms_c27, ms_ckA 27 e.1 e.2 = true := List.all_eq_true.mp (by decide +kernel)
theorem ms_k28 : ∀ e ∈ ms_c28, ms_ckA 28 e.1 e.2 = true := List.all_eq_true.mp (by decide +kernel)
theorem ms_k29_0 : ∀ e ∈ (ms_c29.drop 0).take 50, ms_ckA 29 e.1 e.2 = true := List.all_eq_true.mp (by decide +kernel)
theorem ms_k29_1 : ∀ e ∈ (ms_c29.drop 50).take 50, ms_ckA 29 e.1 e.2 = true := List.all_eq_true.mp (by decide +kernel)
set_option maxRecDepth 100000 in
theorem ms_k29 : ∀ e ∈ ms_c29, ms_ckA 29 e.1 e.2 = true := by
  intro e he
  have hs : ms_c29 = (ms_c29.drop 0).take 50 ++ (ms_c29.drop 50).take 50 := by rfl
  rw [hs] at he
  simp only [List.mem_append] at he
  rcases he with h0 | h1
  · exact ms_k29_0 e h0
  · exact ms_k29_1 e h1
theorem ms_k30 : ∀ e ∈ ms_c30, ms_ckA 30 e.1 e.2 = true := List.all_eq_true.mp (by decide +kernel)
theorem ms_k31_0 : ∀ e ∈ (ms_c31.drop 0).take 50, ms_ckA 31 e.1 e.2 = true := List.all_eq_true.mp (by decide +kernel)
theorem ms_k31_1 : ∀ e ∈ (ms_c31.drop 50).take 50, ms_ckA 31 e.1 e.2 = true := List.all_eq_true.mp (by decide +kernel)
theorem ms_k31_2 : ∀ e ∈ (ms_c31.drop 100).take 50, ms_ckA 31 e.1 e.2 = true := List.all_eq_true.mp (by decide +kernel)
theorem ms_k31_3 : ∀ e ∈ (ms_c31.drop 150).take 50, ms_ckA 31 e.1 e.2 = true := List.all_eq_true.mp (by decide +kernel)
theorem ms_k31_4 : ∀ e ∈ (ms_c31.drop 200).take 50, ms_ckA 31 e.1 e.2 = true := List.all_eq_true.mp (by decide +kernel)
set_option maxRecDepth 100000 in
theorem ms_k31 : ∀ e ∈ ms_c31, ms_ckA 31 e.1 e.2 = true := by
  intro e he
  have hs : ms_c31 = (ms_c31.drop 0).take 50 ++ (ms_c31.drop 50).take 50 ++ (ms_c31.drop 100).take 50 ++ (ms_c31.drop 150).take 50 ++ (ms_c31.drop 200).take 50 := by rfl
  rw [hs] at he
  simp only [List.mem_append] at he
  rcases he with (((h0 | h1) | h2) | h3) | h4
  · exact ms_k31_0 e h0
  · exact ms_k31_1 e h1
  · exact ms_k31_2 e h2
  · exact ms_k31_3 e h3
  · exact ms_k31_4 e h4
theorem ms_k32 : ∀ e ∈ ms_c32, ms_ckA 32 e.1 e.2 = true := List.all_eq_true.mp (by decide +kernel)
theorem ms_k33 : ∀ e ∈ ms_c33, ms_ckA 33 e.1 e.2 = true := List.all_eq_true.mp (by decide +kernel)
theorem ms_k34_0 : ∀ e ∈ (ms_c34.drop 0).take 50, ms_ckA 34 e.1 e.2 = true := List.all_eq_true.mp (by decide +kernel)
theorem ms_k34_1 : ∀ e ∈ (ms_c34.drop 50).take 50, ms_ckA 34 e.1 e.2 = true := List.all_eq_true.mp (by decide +kernel)
set_option maxRecDepth 100000 in
theorem ms_k34 : ∀ e ∈ ms_c34, ms_ckA 34 e.1 e.2 = true := by
  intro e he
  have hs : ms_c34 = (ms_c34.drop 0).take 50 ++ (ms_c34.drop 50).take 50 := by rfl
  rw [hs] at he
  simp only [List.mem_append] at he
  rcases he with h0 | h1
  · exact ms_k34_0 e h0
  · exact ms_k34_1 e h1
theorem ms_k35_0 : ∀ e ∈ (ms_c35.drop 0).take 50, ms_ckA 35 e.1 e.2 = true := List.all_eq_true.mp (by decide +kernel)
theorem ms_k35_1 : ∀ e ∈ (ms_c35.drop 50).take 50, ms_ckA 35 e.1 e.2 = true := List.all_eq_true.mp (by decide +kernel)
set_option maxRecDepth 100000 in
theorem ms_k35 : ∀ e ∈ ms_c35, ms_ckA 35 e.1 e.2 = true := by
  intro e he
  have hs : ms_c35 = (ms_c35.drop 0).take 50 ++ (ms_c35.drop 50).take 50 := by rfl
  rw [hs] at he
  simp only [List.mem_append] at he
  rcases he with h0 | h1
  · exact ms_k35_0 e h0
  · exact ms_k35_1 e h1
theorem ms_k36 : ∀ e ∈ ms_c36, ms_ckA 36 e.1 e.2 = true := List.all_eq_true.mp (by decide +kernel)
theorem ms_k37 : ∀ e ∈ ms_c37, ms_ckA 37 e.1 e.2 = true := List.all_eq_true.mp (by decide +kernel)
theorem ms_k38 : ∀ e ∈ ms_c38, ms_ckA 38 e.1 e.2 = true := List.all_eq_true.mp (by decide +kernel)
theorem ms_k39 : ∀ e ∈ ms_c39, ms_ckA 39 e.1 e.2 = true := List.all_eq_true.mp (by decide +kernel)
theorem ms_k40 : ∀ e ∈ ms_c40, ms_ckA 40 e.1 e.2 = true := List.all_eq_true.mp (by decide +kernel)
theorem ms_k41 : ∀ e ∈ ms_c41, ms_ckA 41 e.1 e.2 = true := List.all_eq_true.mp (by decide +kernel)
theorem ms_k42 : ∀ e ∈ ms_c42, ms_ckA 42 e.1 e.2 = true := List.all_eq_true.mp (by decide +kernel)
theorem ms_k43 : ∀ e ∈ ms_c43, ms_ckA 43 e.1 e.2 = true := List.all_eq_true.mp (by decide +kernel)
theorem ms_k44 : ∀ e ∈ ms_c44, ms_ckA 44 e.1 e.2 = true := List.all_eq_true.mp (by decide +kernel)
theorem ms_k45 : ∀ e ∈ ms_c45, ms_ckA 45 e.1 e.2 = true := List.all_eq_true.mp (by decide +kernel)
theorem ms_k46_0 : ∀ e ∈ (ms_c46.drop 0).take 50, ms_ckA 46 e.1 e.2 = true := List.all_eq_true.mp (by decide +kernel)
theorem ms_k46_1 : ∀ e ∈ (ms_c46.drop 50).take 50, ms_ckA 46 e.1 e.2 = true := List.all_eq_true.mp (by decide +kernel)
theorem ms_k46_2 : ∀ e ∈ (ms_c46.drop 100).take 50, ms_ckA 46 e.1 e.2 = true := List.all_eq_true.mp (by decide +kernel)
theorem ms_k46_3 : ∀ e ∈ (ms_c46.drop 150).take 50, ms_ckA 46 e.1 e.2 = true := List.all_eq_true.mp (by decide +kernel)
set_option maxRecDepth 100000 in
theorem ms_k46 : ∀ e ∈ ms_c46, ms_ckA 46 e.1 e.2 = true := by
  intro e he
  have hs : ms_c46 = (ms_c46.drop 0).take 50 ++ (ms_c46.drop 50).take 50 ++ (ms_c46.drop 100).take 50 ++ (ms_c46.drop 150).take 50 := by rfl
  rw [hs] at he
  simp only [List.mem_append] at he
  rcases he with ((h0 | h1) | h2) | h3
  · exact ms_k46_0 e h0
  · exact ms_k46_1 e h1
  · exact ms_k46_2 e h2
  · exact ms_k46_3 e h3
theorem ms_k47_0 : ∀ e ∈ (ms_c47.drop 0).take 50, ms_ckA 47 e.1 e.2 = true := List.all_eq_true.mp (by decide +kernel)
theorem ms_k47_1 : ∀ e ∈ (ms_c47.drop 50).take 50, ms_ckA 47 e.1 e.2 = true := List.all_eq_true.mp (by decide +kernel)
theorem ms_k47_2 : ∀ e ∈ (ms_c47.drop 100).take 50, ms_ckA 47 e.1 e.2 = true := List.all_eq_true.mp (by decide +kernel)
set_option maxRecDepth 100000 in
theorem ms_k47 : ∀ e ∈ ms_c47, ms_ckA 47 e.1 e.2 = true := by
  intro e he
  have hs : ms_c47 = (ms_c47.drop 0).take 50 ++ (ms_c47.drop 50).take 50 ++ (ms_c47.drop 100).take 50 := by rfl
  rw [hs] at he
  simp only [List.mem_append] at he
  rcases he with (h0 | h1) | h2
  · exact ms_k47_0 e h0
  · exact ms_k47_1 e h1
  · exact ms_k47_2 e h2
theorem ms_k48_0 : ∀ e ∈ (ms_c48.drop 0).take 50, ms_ckA 48 e.1 e.2 = true := List.all_eq_true.mp (by decide +kernel)
theorem ms_k48_1 : ∀ e ∈ (ms_c48.drop 50).take 50, ms_ckA 48 e.1 e.2 = true := List.all_eq_true.mp (by decide +kernel)
theorem ms_k48_2 : ∀ e ∈ (ms_c48.drop 100).take 50, ms_ckA 48 e.1 e.2 = true := List.all_eq_true.mp (by decide +kernel)
theorem ms_k48_3 : ∀ e ∈ (ms_c48.drop 150).take 50, ms_ckA 48 e.1 e.2 = true := List.all_eq_true.mp (by decide +kernel)
theorem ms_k48_4 : ∀ e ∈ (ms_c48.drop 200).take 50, ms_ckA 48 e.1 e.2 = true := List.all_eq_true.mp (by decide +kernel)
theorem ms_k48_5 : ∀ e ∈ (ms_c48.drop 250).take 50, ms_ckA 48 e.1 e.2 = true := List.all_eq_true.mp (by decide +kernel)
set_option maxRecDepth 100000 in
theorem ms_k48 : ∀ e ∈ ms_c48, ms_ckA 48 e.1 e.2 = true := by
  intro e he
  have hs : ms_c48 = (ms_c48.drop 0).take 50 ++ (ms_c48.drop 50).take 50 ++ (ms_c48.drop 100).take 50 ++ (ms_c48.drop 150).take 50 ++ (ms_c48.drop 200).take 50 ++ (ms_c48.drop 250).take 50 := by rfl
  rw [hs] at he
  simp only [List.mem_append] at he
  rcases he with ((((h0 | h1) | h2) | h3) | h4) | h5
  · exact ms_k48_0 e h0
  · exact ms_k48_1 e h1
  · exact ms_k48_2 e h2
  · exact ms_k48_3 e h3
  · exact ms_k48_4 e h4
  · exact ms_k48_5 e h5
theorem ms_k49_0 : ∀ e ∈ (ms_c49.drop 0).take 50, ms_ckA 49 e.1 e.2 = true := List.all_eq_true.mp (by decide +kernel)
theorem ms_k49_1 : ∀ e ∈ (ms_c49.drop 50).take 50, ms_ckA 49 e.1 e.2 = true := List.all_eq_true.mp (by decide +kernel)
set_option maxRecDepth 100000 in
theorem ms_k49 : ∀ e ∈ ms_c49, ms_ckA 49 e.1 e.2 = true := by
  intro e he
  have hs : ms_c49 = (ms_c49.drop 0).take 50 ++ (ms_c49.drop 50).take 50 := by rfl
  rw [hs] at he
  simp only [List.mem_append] at he
  rcases he with h0 | h1
  · exact ms_k49_0 e h0
  · exact ms_k49_1 e h1
theorem ms_k50_0 : ∀ e ∈ (ms_c50.drop 0).take 50, ms_ckA 50 e.1 e.2 = true := List.all_eq_true.mp (by decide +kernel)
theorem ms_k50_1 : ∀ e ∈ (ms_c50.drop 50).take 50, ms_ckA 50 e.1 e.2 = true := List.all_eq_true.mp (by decide +kernel)
theorem ms_k50_2 : ∀ e ∈ (ms_c50.drop 100).take 50, ms_ckA 50 e.1 e.2 = true := List.all_eq_true.mp (by decide +kernel)
theorem ms_k50_3 : ∀ e ∈ (ms_c50.drop 150).take 50, ms_ckA 50 e.1 e.2 = true := List.all_eq_true.mp (by decide +kernel)
set_option maxRecDepth 100000 in
theorem ms_k50 : ∀ e ∈ ms_c50, ms_ckA 50 e.1 e.2 = true := by
  intro e he
  have hs : ms_c50 = (ms_c50.drop 0).take 50 ++ (ms_c50.drop 50).take 50 ++ (ms_c50.drop 100).take 50 ++ (ms_c50.drop 150).take 50 := by rfl
  rw [hs] at he
  simp only [List.mem_append] at he
  rcases he with ((h0 | h1) | h2) | h3
  · exact ms_k50_0 e h0
  · exact ms_k50_1 e h1
  · exact ms_k50_2 e h2
  · exact ms_k50_3 e h3
theorem ms_k51_0 : ∀ e ∈ (ms_c51.drop 0).take 50, ms_ckA 51 e.1 e.2 = true := List.all_eq_true.mp (by decide +kernel)
theorem ms_k51_1 : ∀ e ∈ (ms_c51.drop 50).take 50, ms_ckA 51 e.1 e.2 = true := List.all_eq_true.mp (by decide +kernel)
theorem ms_k51_2 : ∀ e ∈ (ms_c51.drop 100).take 50, ms_ckA 51 e.1 e.2 = true := List.all_eq_true.mp (by decide +kernel)
set_option maxRecDepth 100000 in
theorem ms_k51 : ∀ e ∈ ms_c51, ms_ckA 51 e.1 e.2 = true := by
  intro e he
  have hs : ms_c51 = (ms_c51.drop 0).take 50 ++ (ms_c51.drop 50).take 50 ++ (ms_c51.drop 100).take 50 := by rfl
  rw [hs] at he
  simp only [List.mem_append] at he
  rcases he with (h0 | h1) | h2
  · exact ms_k51_0 e h0
  · exact ms_k51_1 e h1
  · exact ms_k51_2 e h2
theorem ms_k52 : ∀ e ∈ ms_c52, ms_ckA 52 e.1 e.2 = true := List.all_eq_true.mp (by decide +kernel)
theorem ms_k53 : ∀ e ∈ ms_c53, ms_ckA 53 e.1 e.2 = true := List.all_eq_true.mp (by decide +kernel)
theorem ms_k54 : ∀ e ∈ ms_c54, ms_ckA 54 e.1 e.2 = true := List.all_eq_true.mp (by decide +kernel)
theorem ms_k55 : ∀ e ∈ ms_c55, ms_ckA 55 e.1 e.2 = true := List.all_eq_true.mp (by decide +kernel)
theorem ms_k56 : ∀ e ∈ ms_c56, ms_ckA 56 e.1 e.2 = true := List.all_eq_true.mp (by decide +kernel)
theorem ms_k57_0 : ∀ e ∈ (ms_c57.drop 0).take 50, ms_ckA 57 e.1 e.2 = true := List.all_eq_true.mp (by decide +kernel)
theorem ms_k57_1 : ∀ e ∈ (ms_c57.drop 50).take 50, ms_ckA 57 e.1 e.2 = true := List.all_eq_true.mp (by decide +kernel)
theorem ms_k57_2 : ∀ e ∈ (ms_c57.drop 100).take 50, ms_ckA 57 e.1 e.2 = true := List.all_eq_true.mp (by decide +kernel)
set_option maxRecDepth 100000 in
theorem ms_k57 : ∀ e ∈ ms_c57, ms_ckA 57 e.1 e.2 = true := by
  intro e he
  have hs : ms_c57 = (ms_c57.drop 0).take 50 ++ (ms_c57.drop 50).take 50 ++ (ms_c57.drop 100).take 50 := by rfl
  rw [hs] at he
  simp only [List.mem_append] at he
  rcases he with (h0 | h1) | h2
  · exact ms_k57_0 e h0
  · exact ms_k57_1 e h1
  · exact ms_k57_2 e h2
theorem ms_k58_0 : ∀ e ∈ (ms_c58.drop 0).take 50, ms_ckA 58 e.1 e.2 = true := List.all_eq_true.mp (by decide +kernel)
theorem ms_k58_1 : ∀ e ∈ (ms_c58.drop 50).take 50, ms_ckA 58 e.1 e.2 = true := List.all_eq_true.mp (by decide +kernel)
theorem ms_k58_2 : ∀ e ∈ (ms_c58.drop 100).take 50, ms_ckA 58 e.1 e.2 = true := List.all_eq_true.mp (by decide +kernel)
set_option maxRecDepth 100000 in
theorem ms_k58 : ∀ e ∈ ms_c58, ms_ckA 58 e.1 e.2 = true := by
  intro e he
  have hs : ms_c58 = (ms_c58.drop 0).take 50 ++ (ms_c58.drop 50).take 50 ++ (ms_c58.drop 100).take 50 := by rfl
  rw [hs] at he
  simp only [List.mem_append] at he
  rcases he with (h0 | h1) | h2
  · exact ms_k58_0 e h0
  · exact ms_k58_1 e h1
  · exact ms_k58_2 e h2
theorem ms_k59_0 : ∀ e ∈ (ms_c59.drop 0).take 50, ms_ckA 59 e.1 e.2 = true := List.all_eq_true.mp (by decide +kernel)
theorem ms_k59_1 : ∀ e ∈ (ms_c59.drop 50).take 50, ms_ckA 59 e.1 e.2 = true := List.all_eq_true.mp (by decide +kernel)
theorem ms_k59_2 : ∀ e ∈ (ms_c59.drop 100).take 50, ms_ckA 59 e.1 e.2 = true := List.all_eq_true.mp (by decide +kernel)
set_option maxRecDepth 100000 in
theorem ms_k59 : ∀ e ∈ ms_c59, ms_ckA 59 e.1 e.2 = true := by
  intro e he
  have hs : ms_c59 = (ms_c59.drop 0).take 50 ++ (ms_c59.drop 50).take 50 ++ (ms_c59.drop 100).take 50 := by rfl
  rw [hs] at he
  simp only [List.mem_append] at he
  rcases he with (h0 | h1) | h2
  · exact ms_k59_0 e h0
  · exact ms_k59_1 e h1
  · exact ms_k59_2 e h2
theorem ms_k60_0 : ∀ e ∈ (ms_c60.drop 0).take 50, ms_ckA 60 e.1 e.2 = true := List.all_eq_true.mp (by decide +kernel)
theorem ms_k60_1 : ∀ e ∈ (ms_c60.drop 50).take 50, ms_ckA 60 e.1 e.2 = true := List.all_eq_true.mp (by decide +kernel)
theorem ms_k60_2 : ∀ e ∈ (ms_c60.drop 100).take 50, ms_ckA 60 e.1 e.2 = true := List.all_eq_true.mp (by decide +kernel)
set_option maxRecDepth 100000 in
theorem ms_k60 : ∀ e ∈ ms_c60, ms_ckA 60 e.1 e.2 = true := by
  intro e he
  have hs : ms_c60 = (ms_c60.drop 0).take 50 ++ (ms_c60.drop 50).take 50 ++ (ms_c60.drop 100).take 50 := by rfl
  rw [hs] at he
  simp only [List.mem_append] at he
  rcases he with (h0 | h1) | h2
  · exact ms_k60_0 e h0
  · exact ms_k60_1 e h1
  · exact ms_k60_2 e h2
theorem ms_k61 : ∀ e ∈ ms_c61, ms_ckA 61 e.1 e.2 = true := List.all_eq_true.mp (by decide +kernel)
theorem ms_k62 : ∀ e ∈ ms_c62, ms_ckA 62 e.1 e.2 = true := List.all_eq_true.mp (by decide +kernel)
theorem ms_k63 : ∀ e ∈ ms_c63, ms_ckA 63 e.1 e.2 = true := List.all_eq_true.mp (by decide +kernel)
theorem ms_k64 : ∀ e ∈ ms_c64, ms_ckA 64 e.1 e.2 = true := List.all_eq_true.mp (by decide +kernel)
theorem ms_k65 : ∀ e ∈ ms_c65, ms_ckA 65 e.1 e.2 = true := List.all_eq_true.mp (by decide +kernel)
theorem ms_k66_0 : ∀ e ∈ (ms_c66.drop 0).take 50, ms_ckA 66 e.1 e.2 = true := List.all_eq_true.mp (by decide +kernel)
theorem ms_k66_1 : ∀ e ∈ (ms_c66.drop 50).take 50, ms_ckA 66 e.1 e.2 = true := List.all_eq_true.mp (by decide +kernel)
theorem ms_k66_2 : ∀ e ∈ (ms_c66.drop 100).take 50, ms_ckA 66 e.1 e.2 = true := List.all_eq_true.mp (by decide +kernel)
set_option maxRecDepth 100000 in
theorem ms_k66 : ∀ e ∈ ms_c66, ms_ckA 66 e.1 e.2 = true := by
  intro e he
  have hs : ms_c66 = (ms_c66.drop 0).take 50 ++ (ms_c66.drop 50).take 50 ++ (ms_c66.drop 100).take 50 := by rfl
  rw [hs] at he
  simp only [List.mem_append] at he
  rcases he with (h0 | h1) | h2
  · exact ms_k66_0 e h0
  · exact ms_k66_1 e h1
  · exact ms_k66_2 e h2
theorem ms_k67_0 : ∀ e ∈ (ms_c67.drop 0).take 50, ms_ckA 67 e.1 e.2 = true := List.all_eq_true.mp (by decide +kernel)
theorem ms_k67_1 : ∀ e ∈ (ms_c67.drop 50).take 50, ms_ckA 67 e.1 e.2 = true := List.all_eq_true.mp (by decide +kernel)
theorem ms_k67_2 : ∀ e ∈ (ms_c67.drop 100).take 50, ms_ckA 67 e.1 e.2 = true := List.all_eq_true.mp (by decide +kernel)
set_option maxRecDepth 100000 in
theorem ms_k67 : ∀ e ∈ ms_c67, ms_ckA 67 e.1 e.2 = true := by
  intro e he
  have hs : ms_c67 = (ms_c67.drop 0).take 50 ++ (ms_c67.drop 50).take 50 ++ (ms_c67.drop 100).take 50 := by rfl
  rw [hs] at he
  simp only [List.mem_append] at he
  rcases he with (h0 | h1) | h2
  · exact ms_k67_0 e h0
  · exact ms_k67_1 e h1
  · exact ms_k67_2 e h2
theorem ms_k68 : ∀ e ∈ ms_c68, ms_ckA 68 e.1 e.2 = true := List.all_eq_true.mp (by decide +kernel)
theorem ms_k69 : ∀ e ∈ ms_c69, ms_ckA 69 e.1 e.2 = true := List.all_eq_true.mp (by decide +kernel)
theorem ms_k70 : ∀ e ∈ ms_c70, ms_ckA 70 e.1 e.2 = true := List.all_eq_true.mp (by decide +kernel)
theorem ms_k71 : ∀ e ∈ ms_c71, ms_ckA 71 e.1 e.2 = true := List.all_eq_true.mp (by decide +kernel)
theorem ms_k72 : ∀ e ∈ ms_c72, ms_ckA 72 e.1 e.2 = true := List.all_eq_true.mp (by decide +kernel)
theorem ms_k73 : ∀ e ∈ ms_c73, ms_ckA 73 e.1 e.2 = true := List.all_eq_true.mp (by decide +kernel)
theorem ms_k74_0 : ∀ e ∈ (ms_c74.drop 0).take 50, ms_ckA 74 e.1 e.2 = true := List.all_eq_true.mp (by decide +kernel)
theorem ms_k74_1 : ∀ e ∈ (ms_c74.drop 50).take 50, ms_ckA 74 e.1 e.2 = true := List.all_eq_true.mp (by decide +kernel)
set_option maxRecDepth 100000 in
theorem ms_k74 : ∀ e ∈ ms_c74, ms_ckA 74 e.1 e.2 = true := by
  intro e he
  have hs : ms_c74 = (ms_c74.drop 0).take 50 ++ (ms_c74.drop 50).take 50 := by rfl
  rw [hs] at he
  simp only [List.mem_append] at he
  rcases he with h0 | h1
  · exact ms_k74_0 e h0
  · exact ms_k74_1 e h1
theorem ms_k75 : ∀ e ∈ ms_c75, ms_ckA 75 e.1 e.2 = true := List.all_eq_true.mp (by decide +kernel)
theorem ms_k76 : ∀ e ∈ ms_c76, ms_ckA 76 e.1 e.2 = true := List.all_eq_true.mp (by decide +kernel)
theorem ms_k77 : ∀ e ∈ ms_c77, ms_ckA 77 e.1 e.2 = true := List.all_eq_true.mp (by decide +kernel)
theorem ms_k78 : ∀ e ∈ ms_c78, ms_ckA 78 e.1 e.2 = true := List.all_eq_true.mp (by decide +kernel)
theorem ms_k79 : ∀ e ∈ ms_c79, ms_ckA 79 e.1 e.2 = true := List.all_eq_true.mp (by decide +kernel)
theorem ms_k80 : ∀ e ∈ ms_c80, ms_ckA 80 e.1 e.2 = true := List.all_eq_true.mp (by decide +kernel)
theorem ms_k81 : ∀ e ∈ ms_c81, ms_ckA 81 e.1 e.2 = true := List.all_eq_true.mp (by decide +kernel)
theorem ms_k82 : ∀ e ∈ ms_c82, ms_ckA 82 e.1 e.2 = true := List.all_eq_true.mp (by decide +kernel)
theorem ms_k83 : ∀ e ∈ ms_c83, ms_ckA 83 e.1 e.2 = true := List.all_eq_true.mp (by decide +kernel)
theorem ms_k84 : ∀ e ∈ ms_c84, ms_ckA 84 e.1 e.2 = true := List.all_eq_true.mp (by decide +kernel)
theorem ms_k85 : ∀ e ∈ ms_c85, ms_ckA 85 e.1 e.2 = true := List.all_eq_true.mp (by decide +kernel)
theorem ms_k86 : ∀ e ∈ ms_c86, ms_ckA 86 e.1 e.2 = true := List.all_eq_true.mp (by decide +kernel)
theorem ms_k87 : ∀ e ∈ ms_c87, ms_ckA 87 e.1 e.2 = true := List.all_eq_true.mp (by decide +kernel)
theorem ms_k88 : ∀ e ∈ ms_c88, ms_ckA 88 e.1 e.2 = true := List.all_eq_true.mp (by decide +kernel)
theorem ms_k89 : ∀ e ∈ ms_c89, ms_ckA 89 e.1 e.2 = true := List.all_eq_true.mp (by decide +kernel)
theorem ms_k90 : ∀ e ∈ ms_c90, ms_ckA 90 e.1 e.2 = true := List.all_eq_true.mp (by decide +kernel)
theorem ms_k91 : ∀ e ∈ ms_c91, ms_ckA 91 e.1 e.2 = true := List.all_eq_true.mp (by decide +kernel)
theorem ms_k92 : ∀ e ∈ ms_c92, ms_ckA 92 e.1 e.2 = true := List.all_eq_true.mp (by decide +kernel)
theorem ms_k93 : ∀ e ∈ ms_c93, ms_ckA 93 e.1 e.2 = true := List.all_eq_true.mp (by decide +kernel)
theorem ms_k94 : ∀ e ∈ ms_c94, ms_ckA 94 e.1 e.2 = true := List.all_eq_true.mp (by decide +kernel)
theorem ms_k95_0 : ∀ e ∈ (ms_c95.drop 0).take 50, ms_ckA 95 e.1 e.2 = true := List.all_eq_true.mp (by decide +kernel)
theorem ms_k95_1 : ∀ e ∈ (ms_c95.drop 50).take 50, ms_ckA 95 e.1 e.2 = true := List.all_eq_true.mp (by decide +kernel)
set_option maxRecDepth 100000 in
theorem ms_k95 : ∀ e ∈ ms_c95, ms_ckA 95 e.1 e.2 = true := by
  intro e he
  have hs : ms_c95 = (ms_c95.drop 0).take 50 ++ (ms_c95.drop 50).take 50 := by rfl
  rw [hs] at he
  simp only [List.mem_append] at he
  rcases he with h0 | h1
  · exact ms_k95_0 e h0
  · exact ms_k95_1 e h1
theorem ms_k96 : ∀ e ∈ ms_c96, ms_ckA 96 e.1 e.2 = true := List.all_eq_true.mp (by decide +kernel)
theorem ms_k97 : ∀ e ∈ ms_c97, ms_ckA 97 e.1 e.2 = true := List.all_eq_true.mp (by decide +kernel)
theorem ms_k98 : ∀ e ∈ ms_c98, ms_ckA 98 e.1 e.2 = true := List.all_eq_true.mp (by decide +kernel)
theorem ms_k99_0 : ∀ e ∈ (ms_c99.drop 0).take 50, ms_ckA 99 e.1 e.2 = true := List.all_eq_true.mp (by decide +kernel)
theorem ms_k99_1 : ∀ e ∈ (ms_c99.drop 50).take 50, ms_ckA 99 e.1 e.2 = true := List.all_eq_true.mp (by decide +kernel)
set_option maxRecDepth 100000 in
theorem ms_k99 : ∀ e ∈ ms_c99, ms_ckA 99 e.1 e.2 = true := by
  intro e he
  have hs : ms_c99 = (ms_c99.drop 0).take 50 ++ (ms_c99.drop 50).take 50 := by rfl
  rw [hs] at he
  simp only [List.mem_append] at he
  rcases he with h0 | h1
  · exact ms_k99_0 e h0
  · exact ms_k99_1 e h1
theorem ms_k100 : ∀ e ∈ ms_c100, ms_ckA 100 e.1 e.2 = true := List.all_eq_true.mp (by decide +kernel)
theorem ms_k101 : ∀ e ∈ ms_c101, ms_ckA 101 e.1 e.2 = true := List.all_eq_true.mp (by decide +kernel)
theorem ms_k102_0 : ∀ e ∈ (ms_c102.drop 0).take 50, ms_ckA 102 e.1 e.2 = true := List.all_eq_true.mp (by decide +kernel)
theorem ms_k102_1 : ∀ e ∈ (ms_c102.drop 50).take 50, ms_ckA 102 e.1 e.2 = true := List.all_eq_true.mp (by decide +kernel)
set_option maxRecDepth 100000 in
theorem ms_k102 : ∀ e ∈ ms_c102, ms_ckA 102 e.1 e.2 = true := by
  intro e he
  have hs : ms_c102 = (ms_c102.drop 0).take 50 ++ (ms_c102.drop 50).take 50 := by rfl
  rw [hs] at he
  simp only [List.mem_append] at he
  rcases he with h0 | h1
  · exact ms_k102_0 e h0
  · exact ms_k102_1 e h1
theorem ms_k103 : ∀ e ∈ ms_c103, ms_ckA 103 e.1 e.2 = true := List.all_eq_true.mp (by decide +kernel)
theorem ms_k104 : ∀ e ∈ ms_c104, ms_ckA 104 e.1 e.2 = true := List.all_eq_true.mp (by decide +kernel)
theorem ms_k105 : ∀ e ∈ ms_c105, ms_ckA 105 e.1 e.2 = true := List.all_eq_true.mp (by decide +kernel)
theorem ms_k106 : ∀ e ∈ ms_c106, ms_ckA 106 e.1 e.2 = true := List.all_eq_true.mp (by decide +kernel)
theorem ms_k107 : ∀ e ∈ ms_c107, ms_ckA 107 e.1 e.2 = true := List.all_eq_true.mp (by decide +kernel)
theorem ms_k108_0 : ∀ e ∈ (ms_c108.drop 0).take 50, ms_ckA 108 e.1 e.2 = true := List.all_eq_true.mp (by decide +kernel)
theorem ms_k108_1 : ∀ e ∈ (ms_c108.drop 50).take 50, ms_ckA 108 e.1 e.2 = true := List.all_eq_true.mp (by decide +kernel)
set_option maxRecDepth 100000 in
theorem ms_k108 : ∀ e ∈ ms_c108, ms_ckA 108 e.1 e.2 = true := by
  intro e he
  have hs : ms_c108 = (ms_c108.drop 0).take 50 ++ (ms_c108.drop 50).take 50 := by rfl
  rw [hs] at he
  simp only [List.mem_append] at he
  rcases he with h0 | h1
  · exact ms_k108_0 e h0
  · exact ms_k108_1 e h1
theorem ms_k109_0 : ∀ e ∈ (ms_c109.drop 0).take 50, ms_ckA 109 e.1 e.2 = true := List.all_eq_true.mp (by decide +kernel)
theorem ms_k109_1 : ∀ e ∈ (ms_c109.drop 50).take 50, ms_ckA 109 e.1 e.2 = true := List.all_eq_true.mp (by decide +kernel)
set_option maxRecDepth 100000 in
theorem ms_k109 : ∀ e ∈ ms_c109, ms_ckA 109 e.1 e.2 = true := by
  intro e he
  have hs : ms_c109 = (ms_c109.drop 0).take 50 ++ (ms_c109.drop 50).take 50 := by rfl
  rw [hs] at he
  simp only [List.mem_append] at he
  rcases he with h0 | h1
  · exact ms_k109_0 e h0
  · exact ms_k109_1 e h1
theorem ms_k110 : ∀ e ∈ ms_c110, ms_ckA 110 e.1 e.2 = true := List.all_eq_true.mp (by decide +kernel)
theorem ms_k111 : ∀ e ∈ ms_c111, ms_ckA 111 e.1 e.2 = true := List.all_eq_true.mp (by decide +kernel)
theorem ms_k112 : ∀ e ∈ ms_c112, ms_ckA 112 e.1 e.2 = true := List.all_eq_true.mp (by decide +kernel)
theorem ms_k113 : ∀ e ∈ ms_c113, ms_ckA 113 e.1 e.2 = true := List.all_eq_true.mp (by decide +kernel)
theorem ms_k114 : ∀ e ∈ ms_c114, ms_ckA 114 e.1 e.2 = true := List.all_eq_true.mp (by decide +kernel)
theorem ms_k115 : ∀ e ∈ ms_c115, ms_ckA 115 e.1 e.2 = true := List.all_eq_true.mp (by decide +kernel)
theorem ms_k116 : ∀ e ∈ ms_c116, ms_ckA 116 e.1 e.2 = true := List.all_eq_true.mp (by decide +kernel)
theorem ms_k117 : ∀ e ∈ ms_c117, ms_ckA 117 e.1 e.2 = true := List.all_eq_true.mp (by decide +kernel)
theorem ms_k118 : ∀ e ∈ ms_c118, ms_ckA 118 e.1 e.2 = true := List.all_eq_true.mp (by decide +kernel)
theorem ms_k119 : ∀ e ∈ ms_c119, ms_ckA 119 e.1 e.2 = true := List.all_eq_true.mp (by decide +kernel)
theorem ms_k120 : ∀ e ∈ ms_c120, ms_ckA 120 e.1 e.2 = true := List.all_eq_true.mp (by decide +kernel)
theorem ms_k121 : ∀ e ∈ ms_c121, ms_ckA 121 e.1 e.2 = true := List.all_eq_true.mp (by decide +kernel)
theorem ms_k122 : ∀ e ∈ ms_c122, ms_ckA 122 e.1 e.2 = true := List.all_eq_true.mp (by decide +kernel)
theorem ms_k123 : ∀ e ∈ ms_c123, ms_ckA 123 e.1 e.2 = true := List.all_eq_true.mp (by decide +kernel)
theorem ms_k124 : ∀ e ∈ ms_c124, ms_ckA 124 e.1 e.2 = true := List.all_eq_true.mp (by decide +kernel)
theorem ms_k125 : ∀ e ∈ ms_c125, ms_ckA 125 e.1 e.2 = true := List.all_eq_true.mp (by decide +kernel)
theorem ms_k126 : ∀ e ∈ ms_c126, ms_ckA 126 e.1 e.2 = true := List.all_eq_true.mp (by decide +kernel)
theorem ms_k127_0 : ∀ e ∈ (ms_c127.drop 0).take 50, ms_ckA 127 e.1 e.2 = true := List.all_eq_true.mp (by decide +kernel)
theorem ms_k127_1 : ∀ e ∈ (ms_c127.drop 50).take 50, ms_ckA 127 e.1 e.2 = true := List.all_eq_true.mp (by decide +kernel)
set_option maxRecDepth 100000 in
theorem ms_k127 : ∀ e ∈ ms_c127, ms_ckA 127 e.1 e.2 = true := by
  intro e he
  have hs : ms_c127 = (ms_c127.drop 0).take 50 ++ (ms_c127.drop 50).take 50 := by rfl
  rw [hs] at he
  simp only [List.mem_append] at he
  rcases he with h0 | h1
  · exact ms_k127_0 e h0
  · exact ms_k127_1 e h1
theorem ms_k128 : ∀ e ∈ ms_c128, ms_ckA 128 e.1 e.2 = true := List.all_eq_true.mp (by decide +kernel)
theorem ms_k129 : ∀ e ∈ ms_c129, ms_ckA 129 e.1 e.2 = true := List.all_eq_true.mp (by decide +kernel)
theorem ms_k130 : ∀ e ∈ ms_c130, ms_ckA 130 e.1 e.2 = true := List.all_eq_true.mp (by decide +kernel)
theorem ms_k131 : ∀ e ∈ ms_c131, ms_ckA 131 e.1 e.2 = true := List.all_eq_true.mp (by decide +kernel)
theorem ms_k132_0 : ∀ e ∈ (ms_c132.drop 0).take 50, ms_ckA 132 e.1 e.2 = true := List.all_eq_true.mp (by decide +kernel)
theorem ms_k132_1 : ∀ e ∈ (ms_c132.drop 50).take 50, ms_ckA 132 e.1 e.2 = true := List.all_eq_true.mp (by decide +kernel)
set_option maxRecDepth 100000 in
theorem ms_k132 : ∀ e ∈ ms_c132, ms_ckA 132 e.1 e.2 = true := by
  intro e he
  have hs : ms_c132 = (ms_c132.drop 0).take 50 ++ (ms_c132.drop 50).take 50 := by rfl
  rw [hs] at he
  simp only [List.mem_append] at he
  rcases he with h0 | h1
  · exact ms_k132_0 e h0
  · exact ms_k132_1 e h1
theorem ms_k133 : ∀ e ∈ ms_c133, ms_ckA 133 e.1 e.2 = true := List.all_eq_true.mp (by decide +kernel)
theorem ms_k134 : ∀ e ∈ ms_c134, ms_ckA 134 e.1 e.2 = true := List.all_eq_true.mp (by decide +kernel)
theorem ms_k135 : ∀ e ∈ ms_c135, ms_ckA 135 e.1 e.2 = true := List.all_eq_true.mp (by decide +kernel)
theorem ms_k136 : ∀ e ∈ ms_c136, ms_ckA 136 e.1 e.2 = true := List.all_eq_true.mp (by decide +kernel)
theorem ms_k137 : ∀ e ∈ ms_c137, ms_ckA 137 e.1 e.2 = true := List.all_eq_true.mp (by decide +kernel)
theorem ms_k138 : ∀ e ∈ ms_c138, ms_ckA 138 e.1 e.2 = true := List.all_eq_true.mp (by decide +kernel)
theorem ms_k139 : ∀ e ∈ ms_c139, ms_ckA 139 e.1 e.2 = true := List.all_eq_true.mp (by decide +kernel)
theorem ms_k140 : ∀ e ∈ ms_c140, ms_ckA 140 e.1 e.2 = true := List.all_eq_true.mp (by decide +kernel)
theorem ms_k141 : ∀ e ∈ ms_c141, ms_ckA 141 e.1 e.2 = true := List.all_eq_true.mp (by decide +kernel)
theorem ms_k142 : ∀ e ∈ ms_c142, ms_ckA 142 e.1 e.2 = true := List.all_eq_true.mp (by decide +kernel)
theorem ms_k143 : ∀ e ∈ ms_c143, ms_ckA 143 e.1 e.2 = true := List.all_eq_true.mp (by decide +kernel)
theorem ms_k144 : ∀ e ∈ ms_c144, ms_ckA 144 e.1 e.2 = true := List.all_eq_true.mp (by decide +kernel)
theorem ms_k145_0 : ∀ e ∈ (ms_c145.drop 0).take 50, ms_ckA 145 e.1 e.2 = true := List.all_eq_true.mp (by decide +kernel)
theorem ms_k145_1 : ∀ e ∈ (ms_c145.drop 50).take 50, ms_ckA 145 e.1 e.2 = true := List.all_eq_true.mp (by decide +kernel)
theorem ms_k145_2 : ∀ e ∈ (ms_c145.drop 100).take 50, ms_ckA 145 e.1 e.2 = true := List.all_eq_true.mp (by decide +kernel)
theorem ms_k145_3 : ∀ e ∈ (ms_c145.drop 150).take 50, ms_ckA 145 e.1 e.2 = true := List.all_eq_true.mp (by decide +kernel)
theorem ms_k145_4 : ∀ e ∈ (ms_c145.drop 200).take 50, ms_ckA 145 e.1 e.2 = true := List.all_eq_true.mp (by decide +kernel)
theorem ms_k145_5 : ∀ e ∈ (ms_c145.drop 250).take 50, ms_ckA 145 e.1 e.2 = true := List.all_eq_true.mp (by decide +kernel)
theorem ms_k145_6 : ∀ e ∈ (ms_c145.drop 300).take 50, ms_ckA 145 e.1 e.2 = true := List.all_eq_true.mp (by decide +kernel)
theorem ms_k145_7 : ∀ e ∈ (ms_c145.drop 350).take 50, ms_ckA 145 e.1 e.2 = true := List.all_eq_true.mp (by decide +kernel)
theorem ms_k145_8 : ∀ e ∈ (ms_c145.drop 400).take 50, ms_ckA 145 e.1 e.2 = true := List.all_eq_true.mp (by decide +kernel)
theorem ms_k145_9 : ∀ e ∈ (ms_c145.drop 450).take 50, ms_ckA 145 e.1 e.2 = true := List.all_eq_true.mp (by decide +kernel)
theorem ms_k145_10 : ∀ e ∈ (ms_c145.drop 500).take 50, ms_ckA 145 e.1 e.2 = true := List.all_eq_true.mp (by decide +kernel)
set_option maxRecDepth 100000 in
theorem ms_k145 : ∀ e ∈ ms_c145, ms_ckA 145 e.1 e.2 = true := by
  intro e he
  have hs : ms_c145 = (ms_c145.drop 0).take 50 ++ (ms_c145.drop 50).take 50 ++ (ms_c145.drop 100).take 50 ++ (ms_c145.drop 150).take 50 ++ (ms_c145.drop 200).take 50 ++ (ms_c145.drop 250).take 50 ++ (ms_c145.drop 300).take 50 ++ (ms_c145.drop 350).take 50 ++ (ms_c145.drop 400).take 50 ++ (ms_c145.drop 450).take 50 ++ (ms_c145.drop 500).take 50 := by rfl
  rw [hs] at he
  simp only [List.mem_append] at he
  rcases he with (((((((((h0 | h1) | h2) | h3) | h4) | h5) | h6) | h7) | h8) | h9) | h10
  · exact ms_k145_0 e h0
  · exact ms_k145_1 e h1
  · exact ms_k145_2 e h2
  · exact ms_k145_3 e h3
  · exact ms_k145_4 e h4
  · exact ms_k145_5 e h5
  · exact ms_k145_6 e h6
  · exact ms_k145_7 e h7
  · exact ms_k145_8 e h8
  · exact ms_k145_9 e h9
  · exact ms_k145_10 e h10
theorem ms_k146 : ∀ e ∈ ms_c146, ms_ckA 146 e.1 e.2 = true := List.all_eq_true.mp (by decide +kernel)
theorem ms_k147 : ∀ e ∈ ms_c147, ms_ckA 147 e.1 e.2 = true := List.all_eq_true.mp (by decide +kernel)
theorem ms_k148 : ∀ e ∈ ms_c148, ms_ckA 148 e.1 e.2 = true := List.all_eq_true.mp (by decide +kernel)
theorem ms_k149 : ∀ e ∈ ms_c149, ms_ckA 149 e.1 e.2 = true := List.all_eq_true.mp (by decide +kernel)
theorem ms_oks : ∀ k, ∀ e ∈ ms_cd k, ms_ckA k e.1 e.2 = true := by
  intro k
  match k with
  | 0 => exact ms_k0
  | 1 => exact ms_k1
  | 2 => exact ms_k2
  | 3 => exact ms_k3
  | 4 => exact ms_k4
  | 5 => exact ms_k5
  | 6 => exact ms_k6
  | 7 => exact ms_k7
  | 8 => exact ms_k8
  | 9 => exact ms_k9
  | 10 => exact ms_k10
  | 11 => exact ms_k11
  | 12 => exact ms_k12
  | 13 => exact ms_k13
  | 14 => exact ms_k14
  | 15 => exact ms_k15
  | 16 => exact ms_k16
  | 17 => exact ms_k17
  | 18 => exact ms_k18
  | 19 => exact ms_k19
  | 20 => exact ms_k20
  | 21 => exact ms_k21
  | 22 => exact ms_k22
  | 23 => exact ms_k23
  | 24 => exact ms_k24
  | 25 => exact ms_k25
  | 26 => exact ms_k26
  | 27 => exact ms_k27
  | 28 => exact ms_k28
  | 29 => exact ms_k29
  | 30 => exact ms_k30
  | 31 => exact ms_k31
  | 32 => exact ms_k32
  | 33 => exact ms_k33
  | 34 => exact ms_k34
  | 35 => exact ms_k35
  | 36 => exact ms_k36
  | 37 => exact ms_k37
  | 38 => exact ms_k38
  | 39 => exact ms_k39
  | 40 => exact ms_k40
  | 41 => exact ms_k41
  | 42 => exact ms_k42
  | 43 => exact ms_k43
  | 44 => exact ms_k44
  | 45 => exact ms_k45
  | 46 => exact ms_k46
  | 47 => exact ms_k47
  | 48 => exact ms_k48
  | 49 => exact ms_k49
  | 50 => exact ms_k50
  | 51 => exact ms_k51
  | 52 => exact ms_k52
  | 53 => exact ms_k53
  | 54 => exact ms_k54
  | 55 => exact ms_k55
  | 56 => exact ms_k56
  | 57 => exact ms_k57
  | 58 => exact ms_k58
  | 59 => exact ms_k59
  | 60 => exact ms_k60
  | 61 => exact ms_k61
  | 62 => exact ms_k62
  | 63 => exact ms_k63
  | 64 => exact ms_k64
  | 65 => exact ms_k65
  | 66 => exact ms_k66
  | 67 => exact ms_k67
  | 68 => exact ms_k68
  | 69 => exact ms_k69
  | 70 => exact ms_k70
  | 71 => exact ms_k71
  | 72 => exact ms_k72
  | 73 => exact ms_k73
  | 74 => exact ms_k74
  | 75 => exact ms_k75
  | 76 => exact ms_k76
  | 77 => exact ms_k77
  | 78 => exact ms_k78
  | 79 => exact ms_k79
  | 80 => exact ms_k80
  | 81 => exact ms_k81
  | 82 => exact ms_k82
  | 83 => exact ms_k83
  | 84 => exact ms_k84
  | 85 => exact ms_k85
  | 86 => exact ms_k86
  | 87 => exact ms_k87
  | 88 => exact ms_k88
  | 89 => exact ms_k89
  | 90 => exact ms_k90
  | 91 => exact ms_k91
  | 92 => exact ms_k92
  | 93 => exact ms_k93
  | 94 => exact ms_k94
  | 95 => exact ms_k95
  | 96 => exact ms_k96
  | 97 => exact ms_k97
  | 98 => exact ms_k98
  | 99 => exact ms_k99
  | 100 => exact ms_k100
  | 101 => exact ms_k101
  | 102 => exact ms_k102
  | 103 => exact ms_k103
  | 104 => exact ms_k104
  | 105 => exact ms_k105
  | 106 => exact ms_k106
  | 107 => exact ms_k107
  | 108 => exact ms_k108
  | 109 => exact ms_k109
  | 110 => exact ms_k110
  | 111 => exact ms_k111
  | 112 => exact ms_k112
  | 113 => exact ms_k113
  | 114 => exact ms_k114
  | 115 => exact ms_k115
  | 116 => exact ms_k116
  | 117 => exact ms_k117
  | 118 => exact ms_k118
  | 119 => exact ms_k119
  | 120 => exact ms_k120
  | 121 => exact ms_k121
  | 122 => exact ms_k122
  | 123 => exact ms_k123
  | 124 => exact ms_k124
  | 125 => exact ms_k125
  | 126 => exact ms_k126
  | 127 => exact ms_k127
  | 128 => exact ms_k128
  | 129 => exact ms_k129
  | 130 => exact ms_k130
  | 131 => exact ms_k131
  | 132 => exact ms_k132
  | 133 => exact ms_k133
  | 134 => exact ms_k134
  | 135 => exact ms_k135
  | 136 => exact ms_k136
  | 137 => exact ms_k137
  | 138 => exact ms_k138
  | 139 => exact ms_k139
  | 140 => exact ms_k140
  | 141 => exact ms_k141
  | 142 => exact ms_k142
  | 143 => exact ms_k143
  | 144 => exact ms_k144
  | 145 => exact ms_k145
  | 146 => exact ms_k146
  | 147 => exact ms_k147
  | 148 => exact ms_k148
  | 149 => exact ms_k149
  | q + 150 => intro e he; exact absurd he (by simp [ms_cd, ms_cds])
