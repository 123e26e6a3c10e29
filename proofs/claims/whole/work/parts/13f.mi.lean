/-! ONE LEMMA AN INSTRUCTION, by gen3.py. -/
section MsI
variable {l0 l1 l2 l3 l4 l5 l6 l7 l8 l9 l10 l11 l12 l13 l14 l15 l16 l17 : Value} {L S : List Value} {σ : ms_M} {q : Nat × Nat} {w B : Bool} {I : ms_i} {J : ms_j} {r u r' u' i sp dp n a b a0 a1 a2 a3 a4 a5 a6 a7 g0 g1 g2 g3 g4 g5 g6 g7 : Nat}
variable {x y x0 x1 x2 x3 x4 x5 x6 x7 e0 e1 e2 e3 e4 e5 e6 e7 : Int32} {X Y X0 X1 X2 X3 X4 X5 X6 X7 f0 f1 f2 f3 f4 f5 f6 f7 : Int64}
-- MaskedSumLaw.start(LMaskedSum;II)I
theorem mi_133_0 : ms_G 133 0 [.ref a, l1, l2, l3] S σ = ms_G 133 1 [.ref a, l1, l2, l3] (.ref a :: S) σ := (ms_G_at rfl _ _ _).trans rfl
theorem mi_133_1 : ms_G 133 1 [l0, .int x, l2, l3] S σ = ms_G 133 2 [l0, .int x, l2, l3] (.int x :: S) σ := (ms_G_at rfl _ _ _).trans rfl
theorem mi_133_2 : ms_G 133 2 [l0, l1, .int x, l3] S σ = ms_G 133 3 [l0, l1, .int x, l3] (.int x :: S) σ := (ms_G_at rfl _ _ _).trans rfl
theorem mi_133_3 : ms_G 133 3 L [.int x1, .int x0, .ref (ms_ad 3 0)] (ms_Z q w I J) = mo_cl 133 3 6 (ms_G 1 0 [.ref (ms_ad 3 0), .int x0, .int x1, .null] [] (ms_Z q false I J)) w L [] := (mz_call rfl rfl (mz_can1 rfl rfl rfl rfl rfl (by decide) rfl (by decide))).trans rfl
theorem mi_133_3_t0 {w' : Bool} : mo_cl 133 3 6 (some (.inr 0, ms_Z q w' I J)) w L S = ms_G 133 9 L [.ref (267 + q.2)] (ms_Z q true I J) := mz_clt rfl 6 q w w' I J L S
theorem mi_133_6 : ms_G 133 6 L S σ = ms_G 133 12 L S σ := (ms_G_at rfl _ _ _).trans rfl
theorem mi_133_9 : ms_G 133 9 [l0, l1, .int y, l3] (.ref a :: S) σ = ms_G 133 10 [l0, l1, .int y, .ref a] S σ := (ms_G_at rfl _ _ _).trans rfl
theorem mi_133_10 : ms_G 133 10 L S σ = ms_G 133 11 L (.int (nI 1) :: S) σ := (ms_G_at rfl _ _ _).trans rfl
theorem mi_133_11 : ms_G 133 11 L [.int x] σ = some (.inl (some (.int x)), σ) := (ms_G_at rfl _ _ _).trans rfl
theorem mi_133_12 : ms_G 133 12 L S σ = ms_G 133 13 L (.int (nI 0) :: S) σ := (ms_G_at rfl _ _ _).trans rfl
theorem mi_133_13 : ms_G 133 13 L [.int x] σ = some (.inl (some (.int x)), σ) := (ms_G_at rfl _ _ _).trans rfl
-- MaskedSumLaw.secret(LMaskedSum;IIII)I
theorem mi_134_0 : ms_G 134 0 [.ref a, l1, l2, l3, l4, l5] S σ = ms_G 134 1 [.ref a, l1, l2, l3, l4, l5] (.ref a :: S) σ := (ms_G_at rfl _ _ _).trans rfl
theorem mi_134_1 : ms_G 134 1 [l0, .int x, l2, l3, l4, l5] S σ = ms_G 134 2 [l0, .int x, l2, l3, l4, l5] (.int x :: S) σ := (ms_G_at rfl _ _ _).trans rfl
theorem mi_134_2 : ms_G 134 2 [l0, l1, .int x, l3, l4, l5] S σ = ms_G 134 3 [l0, l1, .int x, l3, l4, l5] (.int x :: S) σ := (ms_G_at rfl _ _ _).trans rfl
theorem mi_134_3 : ms_G 134 3 [l0, l1, l2, .int x, l4, l5] S σ = ms_G 134 4 [l0, l1, l2, .int x, l4, l5] (.int x :: S) σ := (ms_G_at rfl _ _ _).trans rfl
theorem mi_134_4 : ms_G 134 4 [l0, l1, l2, l3, .int x, l5] S σ = ms_G 134 6 [l0, l1, l2, l3, .int x, l5] (.int x :: S) σ := (ms_G_at rfl _ _ _).trans rfl
theorem mi_134_6 : ms_G 134 6 L [.int x3, .int x2, .int x1, .int x0, .ref (ms_ad 3 0)] (ms_Z q w I J) = mo_cl 134 6 9 (ms_G 2 0 [.ref (ms_ad 3 0), .int x0, .int x1, .int x2, .int x3] [] (ms_Z q false I J)) w L [] := (mz_call rfl rfl (mz_can1 rfl rfl rfl rfl rfl (by decide) rfl (by decide))).trans rfl
theorem mi_134_6_t0 {w' : Bool} : mo_cl 134 6 9 (some (.inr 0, ms_Z q w' I J)) w L S = ms_G 134 12 L [.ref (267 + q.2)] (ms_Z q true I J) := mz_clt rfl 9 q w w' I J L S
theorem mi_134_6_t1 {w' : Bool} : mo_cl 134 6 9 (some (.inr 1, ms_Z q w' I J)) w L S = ms_G 134 16 L [.ref (267 + q.2)] (ms_Z q true I J) := mz_clt rfl 9 q w w' I J L S
theorem mi_134_9 : ms_G 134 9 L S σ = ms_G 134 20 L S σ := (ms_G_at rfl _ _ _).trans rfl
theorem mi_134_12 : ms_G 134 12 [l0, l1, l2, l3, .int y, l5] (.ref a :: S) σ = ms_G 134 14 [l0, l1, l2, l3, .int y, .ref a] S σ := (ms_G_at rfl _ _ _).trans rfl
theorem mi_134_14 : ms_G 134 14 L S σ = ms_G 134 15 L (.int (nI 1) :: S) σ := (ms_G_at rfl _ _ _).trans rfl
theorem mi_134_15 : ms_G 134 15 L [.int x] σ = some (.inl (some (.int x)), σ) := (ms_G_at rfl _ _ _).trans rfl
theorem mi_134_16 : ms_G 134 16 [l0, l1, l2, l3, .int y, l5] (.ref a :: S) σ = ms_G 134 18 [l0, l1, l2, l3, .int y, .ref a] S σ := (ms_G_at rfl _ _ _).trans rfl
theorem mi_134_18 : ms_G 134 18 L S σ = ms_G 134 19 L (.int (nI 2) :: S) σ := (ms_G_at rfl _ _ _).trans rfl
theorem mi_134_19 : ms_G 134 19 L [.int x] σ = some (.inl (some (.int x)), σ) := (ms_G_at rfl _ _ _).trans rfl
theorem mi_134_20 : ms_G 134 20 L S σ = ms_G 134 21 L (.int (nI 0) :: S) σ := (ms_G_at rfl _ _ _).trans rfl
theorem mi_134_21 : ms_G 134 21 L [.int x] σ = some (.inl (some (.int x)), σ) := (ms_G_at rfl _ _ _).trans rfl
-- MaskedSumLaw.input(LMaskedSum;III)I
theorem mi_135_0 : ms_G 135 0 [.ref a, l1, l2, l3, l4] S σ = ms_G 135 1 [.ref a, l1, l2, l3, l4] (.ref a :: S) σ := (ms_G_at rfl _ _ _).trans rfl
theorem mi_135_1 : ms_G 135 1 [l0, .int x, l2, l3, l4] S σ = ms_G 135 2 [l0, .int x, l2, l3, l4] (.int x :: S) σ := (ms_G_at rfl _ _ _).trans rfl
theorem mi_135_2 : ms_G 135 2 [l0, l1, .int x, l3, l4] S σ = ms_G 135 3 [l0, l1, .int x, l3, l4] (.int x :: S) σ := (ms_G_at rfl _ _ _).trans rfl
theorem mi_135_3 : ms_G 135 3 [l0, l1, l2, .int x, l4] S σ = ms_G 135 4 [l0, l1, l2, .int x, l4] (.int x :: S) σ := (ms_G_at rfl _ _ _).trans rfl
theorem mi_135_4 : ms_G 135 4 L [.int x2, .int x1, .int x0, .ref (ms_ad 3 0)] (ms_Z q w I J) = mo_cl 135 4 7 (ms_G 3 0 [.ref (ms_ad 3 0), .int x0, .int x1, .int x2] [] (ms_Z q false I J)) w L [] := (mz_call rfl rfl (mz_can1 rfl rfl rfl rfl rfl (by decide) rfl (by decide))).trans rfl
theorem mi_135_4_t0 {w' : Bool} : mo_cl 135 4 7 (some (.inr 0, ms_Z q w' I J)) w L S = ms_G 135 10 L [.ref (267 + q.2)] (ms_Z q true I J) := mz_clt rfl 7 q w w' I J L S
theorem mi_135_4_t1 {w' : Bool} : mo_cl 135 4 7 (some (.inr 1, ms_Z q w' I J)) w L S = ms_G 135 14 L [.ref (267 + q.2)] (ms_Z q true I J) := mz_clt rfl 7 q w w' I J L S
theorem mi_135_7 : ms_G 135 7 L S σ = ms_G 135 18 L S σ := (ms_G_at rfl _ _ _).trans rfl
theorem mi_135_10 : ms_G 135 10 [l0, l1, l2, .int y, l4] (.ref a :: S) σ = ms_G 135 12 [l0, l1, l2, .int y, .ref a] S σ := (ms_G_at rfl _ _ _).trans rfl
theorem mi_135_12 : ms_G 135 12 L S σ = ms_G 135 13 L (.int (nI 1) :: S) σ := (ms_G_at rfl _ _ _).trans rfl
theorem mi_135_13 : ms_G 135 13 L [.int x] σ = some (.inl (some (.int x)), σ) := (ms_G_at rfl _ _ _).trans rfl
theorem mi_135_14 : ms_G 135 14 [l0, l1, l2, .int y, l4] (.ref a :: S) σ = ms_G 135 16 [l0, l1, l2, .int y, .ref a] S σ := (ms_G_at rfl _ _ _).trans rfl
theorem mi_135_16 : ms_G 135 16 L S σ = ms_G 135 17 L (.int (nI 2) :: S) σ := (ms_G_at rfl _ _ _).trans rfl
theorem mi_135_17 : ms_G 135 17 L [.int x] σ = some (.inl (some (.int x)), σ) := (ms_G_at rfl _ _ _).trans rfl
theorem mi_135_18 : ms_G 135 18 L S σ = ms_G 135 19 L (.int (nI 0) :: S) σ := (ms_G_at rfl _ _ _).trans rfl
theorem mi_135_19 : ms_G 135 19 L [.int x] σ = some (.inl (some (.int x)), σ) := (ms_G_at rfl _ _ _).trans rfl
-- MaskedSumLaw.step(LMaskedSum;I[J)I
theorem mi_136_0 : ms_G 136 0 [l0, l1, .ref a, l3] S σ = ms_G 136 1 [l0, l1, .ref a, l3] (.ref a :: S) σ := (ms_G_at rfl _ _ _).trans rfl
theorem mi_136_1 : ms_G 136 1 L S σ = ms_G 136 2 L (.int (nI 0) :: S) σ := (ms_G_at rfl _ _ _).trans rfl
theorem mi_136_2 : ms_G 136 2 [.ref a, l1, l2, l3] S σ = ms_G 136 3 [.ref a, l1, l2, l3] (.ref a :: S) σ := (ms_G_at rfl _ _ _).trans rfl
theorem mi_136_3 : ms_G 136 3 [l0, .int x, l2, l3] S σ = ms_G 136 4 [l0, .int x, l2, l3] (.int x :: S) σ := (ms_G_at rfl _ _ _).trans rfl
theorem mi_136_4 : ms_G 136 4 L (.int x0 :: .ref (ms_ad 3 0) :: [.int e0, .ref g1]) (ms_Z q w I J) = mo_cl 136 4 7 (ms_G 4 0 [.ref (ms_ad 3 0), .int x0] [] (ms_Z q false I J)) w L [.int e0, .ref g1] := (mz_call rfl rfl (mz_can1 rfl rfl rfl rfl rfl (by decide) rfl (by decide))).trans rfl
theorem mi_136_4_t0 {w' : Bool} : mo_cl 136 4 7 (some (.inr 0, ms_Z q w' I J)) w L S = ms_G 136 19 L [.ref (267 + q.2)] (ms_Z q true I J) := mz_clt rfl 7 q w w' I J L S
theorem mi_136_4_t1 {w' : Bool} : mo_cl 136 4 7 (some (.inr 1, ms_Z q w' I J)) w L S = ms_G 136 22 L [.ref (267 + q.2)] (ms_Z q true I J) := mz_clt rfl 7 q w w' I J L S
theorem mi_136_7 : ms_G 136 7 L (.int x :: S) σ = if x = nI 0 then ms_G 136 14 L S σ else ms_G 136 10 L S σ := mz_bra rfl rfl rfl
theorem mi_136_10 : ms_G 136 10 L S σ = ms_G 136 11 L (.long (lN 1) :: S) σ := (ms_G_at rfl _ _ _).trans rfl
theorem mi_136_11 : ms_G 136 11 L S σ = ms_G 136 15 L S σ := (ms_G_at rfl _ _ _).trans rfl
theorem mi_136_14 : ms_G 136 14 L S σ = ms_G 136 15 L (.long (lN 0) :: S) σ := (ms_G_at rfl _ _ _).trans rfl
theorem mi_136_15 : ms_G 136 15 L (.long X :: .int (nI i) :: .ref (ms_ad r u) :: S) (ms_Z q w I J) = cond (mo_1 q.1 r u i) (ms_G 136 16 L S (ms_Z q true I (ms_u J r u (vp_updL (J r u) i X)))) (ms_raw 136 15 L (.long X :: .int (nI i) :: .ref (ms_ad r u) :: S) (ms_Z q w I J)) := mz_last rfl X
theorem mi_136_16 : ms_G 136 16 L S σ = ms_G 136 25 L S σ := (ms_G_at rfl _ _ _).trans rfl
theorem mi_136_19 : ms_G 136 19 [l0, l1, .ref b, l3] (.ref a :: S) σ = ms_G 136 20 [l0, l1, .ref b, .ref a] S σ := (ms_G_at rfl _ _ _).trans rfl
theorem mi_136_20 : ms_G 136 20 L S σ = ms_G 136 21 L (.int (nI 1) :: S) σ := (ms_G_at rfl _ _ _).trans rfl
theorem mi_136_21 : ms_G 136 21 L [.int x] σ = some (.inl (some (.int x)), σ) := (ms_G_at rfl _ _ _).trans rfl
theorem mi_136_22 : ms_G 136 22 [l0, l1, .ref b, l3] (.ref a :: S) σ = ms_G 136 23 [l0, l1, .ref b, .ref a] S σ := (ms_G_at rfl _ _ _).trans rfl
theorem mi_136_23 : ms_G 136 23 L S σ = ms_G 136 24 L (.int (nI 2) :: S) σ := (ms_G_at rfl _ _ _).trans rfl
theorem mi_136_24 : ms_G 136 24 L [.int x] σ = some (.inl (some (.int x)), σ) := (ms_G_at rfl _ _ _).trans rfl
theorem mi_136_25 : ms_G 136 25 L S σ = ms_G 136 26 L (.int (nI 0) :: S) σ := (ms_G_at rfl _ _ _).trans rfl
theorem mi_136_26 : ms_G 136 26 L [.int x] σ = some (.inl (some (.int x)), σ) := (ms_G_at rfl _ _ _).trans rfl
-- MaskedSumLaw.close(LMaskedSum;[J)I
theorem mi_137_0 : ms_G 137 0 [l0, .ref a, l2] S σ = ms_G 137 1 [l0, .ref a, l2] (.ref a :: S) σ := (ms_G_at rfl _ _ _).trans rfl
theorem mi_137_1 : ms_G 137 1 L S σ = ms_G 137 2 L (.int (nI 0) :: S) σ := (ms_G_at rfl _ _ _).trans rfl
theorem mi_137_2 : ms_G 137 2 [.ref a, l1, l2] S σ = ms_G 137 3 [.ref a, l1, l2] (.ref a :: S) σ := (ms_G_at rfl _ _ _).trans rfl
theorem mi_137_3 : ms_G 137 3 L (.ref (ms_ad 3 0) :: [.int e0, .ref g1]) (ms_Z q w I J) = mo_cl 137 3 6 (ms_G 5 0 [.ref (ms_ad 3 0)] [] (ms_Z q false I J)) w L [.int e0, .ref g1] := (mz_call rfl rfl (mz_can1 rfl rfl rfl rfl rfl (by decide) rfl (by decide))).trans rfl
theorem mi_137_3_t1 {w' : Bool} : mo_cl 137 3 6 (some (.inr 1, ms_Z q w' I J)) w L S = ms_G 137 11 L [.ref (267 + q.2)] (ms_Z q true I J) := mz_clt rfl 6 q w w' I J L S
theorem mi_137_6 : ms_G 137 6 L (.int x :: S) σ = ms_G 137 7 L (.long x.toInt64 :: S) σ := (ms_G_at rfl _ _ _).trans rfl
theorem mi_137_7 : ms_G 137 7 L (.long X :: .int (nI i) :: .ref (ms_ad r u) :: S) (ms_Z q w I J) = cond (mo_1 q.1 r u i) (ms_G 137 8 L S (ms_Z q true I (ms_u J r u (vp_updL (J r u) i X)))) (ms_raw 137 7 L (.long X :: .int (nI i) :: .ref (ms_ad r u) :: S) (ms_Z q w I J)) := mz_last rfl X
theorem mi_137_8 : ms_G 137 8 L S σ = ms_G 137 14 L S σ := (ms_G_at rfl _ _ _).trans rfl
theorem mi_137_11 : ms_G 137 11 [l0, .ref b, l2] (.ref a :: S) σ = ms_G 137 12 [l0, .ref b, .ref a] S σ := (ms_G_at rfl _ _ _).trans rfl
theorem mi_137_12 : ms_G 137 12 L S σ = ms_G 137 13 L (.int (nI 1) :: S) σ := (ms_G_at rfl _ _ _).trans rfl
theorem mi_137_13 : ms_G 137 13 L [.int x] σ = some (.inl (some (.int x)), σ) := (ms_G_at rfl _ _ _).trans rfl
theorem mi_137_14 : ms_G 137 14 L S σ = ms_G 137 15 L (.int (nI 0) :: S) σ := (ms_G_at rfl _ _ _).trans rfl
theorem mi_137_15 : ms_G 137 15 L [.int x] σ = some (.inl (some (.int x)), σ) := (ms_G_at rfl _ _ _).trans rfl
-- MaskedSumLaw.deliver(LMaskedSum;I[J)I
theorem mi_138_0 : ms_G 138 0 [l0, l1, .ref a, l3] S σ = ms_G 138 1 [l0, l1, .ref a, l3] (.ref a :: S) σ := (ms_G_at rfl _ _ _).trans rfl
theorem mi_138_1 : ms_G 138 1 L S σ = ms_G 138 2 L (.int (nI 0) :: S) σ := (ms_G_at rfl _ _ _).trans rfl
theorem mi_138_2 : ms_G 138 2 [.ref a, l1, l2, l3] S σ = ms_G 138 3 [.ref a, l1, l2, l3] (.ref a :: S) σ := (ms_G_at rfl _ _ _).trans rfl
theorem mi_138_3 : ms_G 138 3 [l0, .int x, l2, l3] S σ = ms_G 138 4 [l0, .int x, l2, l3] (.int x :: S) σ := (ms_G_at rfl _ _ _).trans rfl
theorem mi_138_4 : ms_G 138 4 L (.int x0 :: .ref (ms_ad 3 0) :: [.int e0, .ref g1]) (ms_Z q w I J) = mo_cl 138 4 7 (ms_G 6 0 [.ref (ms_ad 3 0), .int x0, .null] [] (ms_Z q false I J)) w L [.int e0, .ref g1] := (mz_call rfl rfl (mz_can1 rfl rfl rfl rfl rfl (by decide) rfl (by decide))).trans rfl
theorem mi_138_4_t0 {w' : Bool} : mo_cl 138 4 7 (some (.inr 0, ms_Z q w' I J)) w L S = ms_G 138 19 L [.ref (267 + q.2)] (ms_Z q true I J) := mz_clt rfl 7 q w w' I J L S
theorem mi_138_7 : ms_G 138 7 L (.int x :: S) σ = if x = nI 0 then ms_G 138 14 L S σ else ms_G 138 10 L S σ := mz_bra rfl rfl rfl
theorem mi_138_10 : ms_G 138 10 L S σ = ms_G 138 11 L (.long (lN 1) :: S) σ := (ms_G_at rfl _ _ _).trans rfl
theorem mi_138_11 : ms_G 138 11 L S σ = ms_G 138 15 L S σ := (ms_G_at rfl _ _ _).trans rfl
theorem mi_138_14 : ms_G 138 14 L S σ = ms_G 138 15 L (.long (lN 0) :: S) σ := (ms_G_at rfl _ _ _).trans rfl
theorem mi_138_15 : ms_G 138 15 L (.long X :: .int (nI i) :: .ref (ms_ad r u) :: S) (ms_Z q w I J) = cond (mo_1 q.1 r u i) (ms_G 138 16 L S (ms_Z q true I (ms_u J r u (vp_updL (J r u) i X)))) (ms_raw 138 15 L (.long X :: .int (nI i) :: .ref (ms_ad r u) :: S) (ms_Z q w I J)) := mz_last rfl X
theorem mi_138_16 : ms_G 138 16 L S σ = ms_G 138 22 L S σ := (ms_G_at rfl _ _ _).trans rfl
theorem mi_138_19 : ms_G 138 19 [l0, l1, .ref b, l3] (.ref a :: S) σ = ms_G 138 20 [l0, l1, .ref b, .ref a] S σ := (ms_G_at rfl _ _ _).trans rfl
theorem mi_138_20 : ms_G 138 20 L S σ = ms_G 138 21 L (.int (nI 1) :: S) σ := (ms_G_at rfl _ _ _).trans rfl
theorem mi_138_21 : ms_G 138 21 L [.int x] σ = some (.inl (some (.int x)), σ) := (ms_G_at rfl _ _ _).trans rfl
theorem mi_138_22 : ms_G 138 22 L S σ = ms_G 138 23 L (.int (nI 0) :: S) σ := (ms_G_at rfl _ _ _).trans rfl
theorem mi_138_23 : ms_G 138 23 L [.int x] σ = some (.inl (some (.int x)), σ) := (ms_G_at rfl _ _ _).trans rfl
-- MaskedSumLaw.lose(LMaskedSum;I)I
theorem mi_139_0 : ms_G 139 0 [.ref a, l1, l2] S σ = ms_G 139 1 [.ref a, l1, l2] (.ref a :: S) σ := (ms_G_at rfl _ _ _).trans rfl
theorem mi_139_1 : ms_G 139 1 [l0, .int x, l2] S σ = ms_G 139 2 [l0, .int x, l2] (.int x :: S) σ := (ms_G_at rfl _ _ _).trans rfl
theorem mi_139_2 : ms_G 139 2 L [.int x0, .ref (ms_ad 3 0)] (ms_Z q w I J) = mo_cl 139 2 5 (ms_G 7 0 [.ref (ms_ad 3 0), .int x0] [] (ms_Z q false I J)) w L [] := (mz_call rfl rfl (mz_can1 rfl rfl rfl rfl rfl (by decide) rfl (by decide))).trans rfl
theorem mi_139_2_t0 {w' : Bool} : mo_cl 139 2 5 (some (.inr 0, ms_Z q w' I J)) w L S = ms_G 139 8 L [.ref (267 + q.2)] (ms_Z q true I J) := mz_clt rfl 5 q w w' I J L S
theorem mi_139_5 : ms_G 139 5 L S σ = ms_G 139 11 L S σ := (ms_G_at rfl _ _ _).trans rfl
theorem mi_139_8 : ms_G 139 8 [l0, .int y, l2] (.ref a :: S) σ = ms_G 139 9 [l0, .int y, .ref a] S σ := (ms_G_at rfl _ _ _).trans rfl
theorem mi_139_9 : ms_G 139 9 L S σ = ms_G 139 10 L (.int (nI 1) :: S) σ := (ms_G_at rfl _ _ _).trans rfl
theorem mi_139_10 : ms_G 139 10 L [.int x] σ = some (.inl (some (.int x)), σ) := (ms_G_at rfl _ _ _).trans rfl
theorem mi_139_11 : ms_G 139 11 L S σ = ms_G 139 12 L (.int (nI 0) :: S) σ := (ms_G_at rfl _ _ _).trans rfl
theorem mi_139_12 : ms_G 139 12 L [.int x] σ = some (.inl (some (.int x)), σ) := (ms_G_at rfl _ _ _).trans rfl
-- MaskedSumLaw.alter(LMaskedSum;III)I
theorem mi_140_0 : ms_G 140 0 [.ref a, l1, l2, l3, l4] S σ = ms_G 140 1 [.ref a, l1, l2, l3, l4] (.ref a :: S) σ := (ms_G_at rfl _ _ _).trans rfl
theorem mi_140_1 : ms_G 140 1 [l0, .int x, l2, l3, l4] S σ = ms_G 140 2 [l0, .int x, l2, l3, l4] (.int x :: S) σ := (ms_G_at rfl _ _ _).trans rfl
theorem mi_140_2 : ms_G 140 2 [l0, l1, .int x, l3, l4] S σ = ms_G 140 3 [l0, l1, .int x, l3, l4] (.int x :: S) σ := (ms_G_at rfl _ _ _).trans rfl
theorem mi_140_3 : ms_G 140 3 [l0, l1, l2, .int x, l4] S σ = ms_G 140 4 [l0, l1, l2, .int x, l4] (.int x :: S) σ := (ms_G_at rfl _ _ _).trans rfl
theorem mi_140_4 : ms_G 140 4 L [.int x2, .int x1, .int x0, .ref (ms_ad 3 0)] (ms_Z q w I J) = mo_cl 140 4 7 (ms_G 8 0 [.ref (ms_ad 3 0), .int x0, .int x1, .int x2] [] (ms_Z q false I J)) w L [] := (mz_call rfl rfl (mz_can1 rfl rfl rfl rfl rfl (by decide) rfl (by decide))).trans rfl
theorem mi_140_4_t0 {w' : Bool} : mo_cl 140 4 7 (some (.inr 0, ms_Z q w' I J)) w L S = ms_G 140 10 L [.ref (267 + q.2)] (ms_Z q true I J) := mz_clt rfl 7 q w w' I J L S
theorem mi_140_7 : ms_G 140 7 L S σ = ms_G 140 14 L S σ := (ms_G_at rfl _ _ _).trans rfl
theorem mi_140_10 : ms_G 140 10 [l0, l1, l2, .int y, l4] (.ref a :: S) σ = ms_G 140 12 [l0, l1, l2, .int y, .ref a] S σ := (ms_G_at rfl _ _ _).trans rfl
theorem mi_140_12 : ms_G 140 12 L S σ = ms_G 140 13 L (.int (nI 1) :: S) σ := (ms_G_at rfl _ _ _).trans rfl
theorem mi_140_13 : ms_G 140 13 L [.int x] σ = some (.inl (some (.int x)), σ) := (ms_G_at rfl _ _ _).trans rfl
theorem mi_140_14 : ms_G 140 14 L S σ = ms_G 140 15 L (.int (nI 0) :: S) σ := (ms_G_at rfl _ _ _).trans rfl
theorem mi_140_15 : ms_G 140 15 L [.int x] σ = some (.inl (some (.int x)), σ) := (ms_G_at rfl _ _ _).trans rfl
-- MaskedSumLaw.message(LMaskedSum;II[J)I
theorem mi_141_0 : ms_G 141 0 [l0, l1, l2, .ref a, l4] S σ = ms_G 141 1 [l0, l1, l2, .ref a, l4] (.ref a :: S) σ := (ms_G_at rfl _ _ _).trans rfl
theorem mi_141_1 : ms_G 141 1 L S σ = ms_G 141 2 L (.int (nI 0) :: S) σ := (ms_G_at rfl _ _ _).trans rfl
theorem mi_141_2 : ms_G 141 2 [.ref a, l1, l2, l3, l4] S σ = ms_G 141 3 [.ref a, l1, l2, l3, l4] (.ref a :: S) σ := (ms_G_at rfl _ _ _).trans rfl
theorem mi_141_3 : ms_G 141 3 [l0, .int x, l2, l3, l4] S σ = ms_G 141 4 [l0, .int x, l2, l3, l4] (.int x :: S) σ := (ms_G_at rfl _ _ _).trans rfl
theorem mi_141_4 : ms_G 141 4 [l0, l1, .int x, l3, l4] S σ = ms_G 141 5 [l0, l1, .int x, l3, l4] (.int x :: S) σ := (ms_G_at rfl _ _ _).trans rfl
theorem mi_141_5 : ms_G 141 5 L (.int x1 :: .int x0 :: .ref (ms_ad 3 0) :: [.int e0, .ref g1]) (ms_Z q w I J) = mo_cl 141 5 8 (ms_G 9 0 [.ref (ms_ad 3 0), .int x0, .int x1] [] (ms_Z q false I J)) w L [.int e0, .ref g1] := (mz_call rfl rfl (mz_can1 rfl rfl rfl rfl rfl (by decide) rfl (by decide))).trans rfl
theorem mi_141_5_t0 {w' : Bool} : mo_cl 141 5 8 (some (.inr 0, ms_Z q w' I J)) w L S = ms_G 141 13 L [.ref (267 + q.2)] (ms_Z q true I J) := mz_clt rfl 8 q w w' I J L S
theorem mi_141_8 : ms_G 141 8 L (.int x :: S) σ = ms_G 141 9 L (.long x.toInt64 :: S) σ := (ms_G_at rfl _ _ _).trans rfl
theorem mi_141_9 : ms_G 141 9 L (.long X :: .int (nI i) :: .ref (ms_ad r u) :: S) (ms_Z q w I J) = cond (mo_1 q.1 r u i) (ms_G 141 10 L S (ms_Z q true I (ms_u J r u (vp_updL (J r u) i X)))) (ms_raw 141 9 L (.long X :: .int (nI i) :: .ref (ms_ad r u) :: S) (ms_Z q w I J)) := mz_last rfl X
theorem mi_141_10 : ms_G 141 10 L S σ = ms_G 141 17 L S σ := (ms_G_at rfl _ _ _).trans rfl
theorem mi_141_13 : ms_G 141 13 [l0, l1, l2, .ref b, l4] (.ref a :: S) σ = ms_G 141 15 [l0, l1, l2, .ref b, .ref a] S σ := (ms_G_at rfl _ _ _).trans rfl
theorem mi_141_15 : ms_G 141 15 L S σ = ms_G 141 16 L (.int (nI 1) :: S) σ := (ms_G_at rfl _ _ _).trans rfl
theorem mi_141_16 : ms_G 141 16 L [.int x] σ = some (.inl (some (.int x)), σ) := (ms_G_at rfl _ _ _).trans rfl
theorem mi_141_17 : ms_G 141 17 L S σ = ms_G 141 18 L (.int (nI 0) :: S) σ := (ms_G_at rfl _ _ _).trans rfl
theorem mi_141_18 : ms_G 141 18 L [.int x] σ = some (.inl (some (.int x)), σ) := (ms_G_at rfl _ _ _).trans rfl
-- MaskedSumLaw.total(LMaskedSum;I[J)I
theorem mi_142_0 : ms_G 142 0 [l0, l1, .ref a, l3] S σ = ms_G 142 1 [l0, l1, .ref a, l3] (.ref a :: S) σ := (ms_G_at rfl _ _ _).trans rfl
theorem mi_142_1 : ms_G 142 1 L S σ = ms_G 142 2 L (.int (nI 0) :: S) σ := (ms_G_at rfl _ _ _).trans rfl
theorem mi_142_2 : ms_G 142 2 [.ref a, l1, l2, l3] S σ = ms_G 142 3 [.ref a, l1, l2, l3] (.ref a :: S) σ := (ms_G_at rfl _ _ _).trans rfl
theorem mi_142_3 : ms_G 142 3 [l0, .int x, l2, l3] S σ = ms_G 142 4 [l0, .int x, l2, l3] (.int x :: S) σ := (ms_G_at rfl _ _ _).trans rfl
theorem mi_142_4 : ms_G 142 4 L (.int x0 :: .ref (ms_ad 3 0) :: [.int e0, .ref g1]) (ms_Z q w I J) = mo_cl 142 4 7 (ms_G 10 0 [.ref (ms_ad 3 0), .int x0] [] (ms_Z q false I J)) w L [.int e0, .ref g1] := (mz_call rfl rfl (mz_can1 rfl rfl rfl rfl rfl (by decide) rfl (by decide))).trans rfl
theorem mi_142_4_t0 {w' : Bool} : mo_cl 142 4 7 (some (.inr 0, ms_Z q w' I J)) w L S = ms_G 142 12 L [.ref (267 + q.2)] (ms_Z q true I J) := mz_clt rfl 7 q w w' I J L S
theorem mi_142_4_t1 {w' : Bool} : mo_cl 142 4 7 (some (.inr 1, ms_Z q w' I J)) w L S = ms_G 142 15 L [.ref (267 + q.2)] (ms_Z q true I J) := mz_clt rfl 7 q w w' I J L S
theorem mi_142_7 : ms_G 142 7 L (.int x :: S) σ = ms_G 142 8 L (.long x.toInt64 :: S) σ := (ms_G_at rfl _ _ _).trans rfl
theorem mi_142_8 : ms_G 142 8 L (.long X :: .int (nI i) :: .ref (ms_ad r u) :: S) (ms_Z q w I J) = cond (mo_1 q.1 r u i) (ms_G 142 9 L S (ms_Z q true I (ms_u J r u (vp_updL (J r u) i X)))) (ms_raw 142 8 L (.long X :: .int (nI i) :: .ref (ms_ad r u) :: S) (ms_Z q w I J)) := mz_last rfl X
theorem mi_142_9 : ms_G 142 9 L S σ = ms_G 142 18 L S σ := (ms_G_at rfl _ _ _).trans rfl
theorem mi_142_12 : ms_G 142 12 [l0, l1, .ref b, l3] (.ref a :: S) σ = ms_G 142 13 [l0, l1, .ref b, .ref a] S σ := (ms_G_at rfl _ _ _).trans rfl
theorem mi_142_13 : ms_G 142 13 L S σ = ms_G 142 14 L (.int (nI 1) :: S) σ := (ms_G_at rfl _ _ _).trans rfl
theorem mi_142_14 : ms_G 142 14 L [.int x] σ = some (.inl (some (.int x)), σ) := (ms_G_at rfl _ _ _).trans rfl
theorem mi_142_15 : ms_G 142 15 [l0, l1, .ref b, l3] (.ref a :: S) σ = ms_G 142 16 [l0, l1, .ref b, .ref a] S σ := (ms_G_at rfl _ _ _).trans rfl
theorem mi_142_16 : ms_G 142 16 L S σ = ms_G 142 17 L (.int (nI 2) :: S) σ := (ms_G_at rfl _ _ _).trans rfl
theorem mi_142_17 : ms_G 142 17 L [.int x] σ = some (.inl (some (.int x)), σ) := (ms_G_at rfl _ _ _).trans rfl
theorem mi_142_18 : ms_G 142 18 L S σ = ms_G 142 19 L (.int (nI 0) :: S) σ := (ms_G_at rfl _ _ _).trans rfl
theorem mi_142_19 : ms_G 142 19 L [.int x] σ = some (.inl (some (.int x)), σ) := (ms_G_at rfl _ _ _).trans rfl
-- MaskedSumLaw.phone(LMaskedSum;II[J)I
theorem mi_143_0 : ms_G 143 0 [l0, l1, l2, .ref a, l4] S σ = ms_G 143 1 [l0, l1, l2, .ref a, l4] (.ref a :: S) σ := (ms_G_at rfl _ _ _).trans rfl
theorem mi_143_1 : ms_G 143 1 L S σ = ms_G 143 2 L (.int (nI 0) :: S) σ := (ms_G_at rfl _ _ _).trans rfl
theorem mi_143_2 : ms_G 143 2 [.ref a, l1, l2, l3, l4] S σ = ms_G 143 3 [.ref a, l1, l2, l3, l4] (.ref a :: S) σ := (ms_G_at rfl _ _ _).trans rfl
theorem mi_143_3 : ms_G 143 3 [l0, .int x, l2, l3, l4] S σ = ms_G 143 4 [l0, .int x, l2, l3, l4] (.int x :: S) σ := (ms_G_at rfl _ _ _).trans rfl
theorem mi_143_4 : ms_G 143 4 [l0, l1, .int x, l3, l4] S σ = ms_G 143 5 [l0, l1, .int x, l3, l4] (.int x :: S) σ := (ms_G_at rfl _ _ _).trans rfl
theorem mi_143_5 : ms_G 143 5 L (.int x1 :: .int x0 :: .ref (ms_ad 3 0) :: [.int e0, .ref g1]) (ms_Z q w I J) = mo_cl 143 5 8 (ms_G 11 0 [.ref (ms_ad 3 0), .int x0, .int x1] [] (ms_Z q false I J)) w L [.int e0, .ref g1] := (mz_call rfl rfl (mz_can1 rfl rfl rfl rfl rfl (by decide) rfl (by decide))).trans rfl
theorem mi_143_5_t0 {w' : Bool} : mo_cl 143 5 8 (some (.inr 0, ms_Z q w' I J)) w L S = ms_G 143 13 L [.ref (267 + q.2)] (ms_Z q true I J) := mz_clt rfl 8 q w w' I J L S
theorem mi_143_8 : ms_G 143 8 L (.int x :: S) σ = ms_G 143 9 L (.long x.toInt64 :: S) σ := (ms_G_at rfl _ _ _).trans rfl
theorem mi_143_9 : ms_G 143 9 L (.long X :: .int (nI i) :: .ref (ms_ad r u) :: S) (ms_Z q w I J) = cond (mo_1 q.1 r u i) (ms_G 143 10 L S (ms_Z q true I (ms_u J r u (vp_updL (J r u) i X)))) (ms_raw 143 9 L (.long X :: .int (nI i) :: .ref (ms_ad r u) :: S) (ms_Z q w I J)) := mz_last rfl X
theorem mi_143_10 : ms_G 143 10 L S σ = ms_G 143 17 L S σ := (ms_G_at rfl _ _ _).trans rfl
theorem mi_143_13 : ms_G 143 13 [l0, l1, l2, .ref b, l4] (.ref a :: S) σ = ms_G 143 15 [l0, l1, l2, .ref b, .ref a] S σ := (ms_G_at rfl _ _ _).trans rfl
theorem mi_143_15 : ms_G 143 15 L S σ = ms_G 143 16 L (.int (nI 1) :: S) σ := (ms_G_at rfl _ _ _).trans rfl
theorem mi_143_16 : ms_G 143 16 L [.int x] σ = some (.inl (some (.int x)), σ) := (ms_G_at rfl _ _ _).trans rfl
theorem mi_143_17 : ms_G 143 17 L S σ = ms_G 143 18 L (.int (nI 0) :: S) σ := (ms_G_at rfl _ _ _).trans rfl
theorem mi_143_18 : ms_G 143 18 L [.int x] σ = some (.inl (some (.int x)), σ) := (ms_G_at rfl _ _ _).trans rfl
-- MaskedSumLaw.stream(LMaskedSum;IIIII[J)I
theorem mi_144_0 : ms_G 144 0 [l0, l1, l2, l3, l4, l5, .ref a, l7] S σ = ms_G 144 2 [l0, l1, l2, l3, l4, l5, .ref a, l7] (.ref a :: S) σ := (ms_G_at rfl _ _ _).trans rfl
theorem mi_144_2 : ms_G 144 2 L S σ = ms_G 144 3 L (.int (nI 0) :: S) σ := (ms_G_at rfl _ _ _).trans rfl
theorem mi_144_3 : ms_G 144 3 [.ref a, l1, l2, l3, l4, l5, l6, l7] S σ = ms_G 144 4 [.ref a, l1, l2, l3, l4, l5, l6, l7] (.ref a :: S) σ := (ms_G_at rfl _ _ _).trans rfl
theorem mi_144_4 : ms_G 144 4 [l0, .int x, l2, l3, l4, l5, l6, l7] S σ = ms_G 144 5 [l0, .int x, l2, l3, l4, l5, l6, l7] (.int x :: S) σ := (ms_G_at rfl _ _ _).trans rfl
theorem mi_144_5 : ms_G 144 5 [l0, l1, .int x, l3, l4, l5, l6, l7] S σ = ms_G 144 6 [l0, l1, .int x, l3, l4, l5, l6, l7] (.int x :: S) σ := (ms_G_at rfl _ _ _).trans rfl
theorem mi_144_6 : ms_G 144 6 [l0, l1, l2, .int x, l4, l5, l6, l7] S σ = ms_G 144 7 [l0, l1, l2, .int x, l4, l5, l6, l7] (.int x :: S) σ := (ms_G_at rfl _ _ _).trans rfl
theorem mi_144_7 : ms_G 144 7 [l0, l1, l2, l3, .int x, l5, l6, l7] S σ = ms_G 144 9 [l0, l1, l2, l3, .int x, l5, l6, l7] (.int x :: S) σ := (ms_G_at rfl _ _ _).trans rfl
theorem mi_144_9 : ms_G 144 9 [l0, l1, l2, l3, l4, .int x, l6, l7] S σ = ms_G 144 11 [l0, l1, l2, l3, l4, .int x, l6, l7] (.int x :: S) σ := (ms_G_at rfl _ _ _).trans rfl
theorem mi_144_11 : ms_G 144 11 L (.int x4 :: .int x3 :: .int x2 :: .int x1 :: .int x0 :: .ref (ms_ad 3 0) :: [.int e0, .ref g1]) (ms_Z q w I J) = mo_cl 144 11 14 (ms_G 13 0 [.ref (ms_ad 3 0), .int x0, .int x1, .int x2, .int x3, .int x4] [] (ms_Z q false I J)) w L [.int e0, .ref g1] := (mz_call rfl rfl (mz_can1 rfl rfl rfl rfl rfl (by decide) rfl (by decide))).trans rfl
theorem mi_144_11_t0 {w' : Bool} : mo_cl 144 11 14 (some (.inr 0, ms_Z q w' I J)) w L S = ms_G 144 19 L [.ref (267 + q.2)] (ms_Z q true I J) := mz_clt rfl 14 q w w' I J L S
theorem mi_144_14 : ms_G 144 14 L (.int x :: S) σ = ms_G 144 15 L (.long x.toInt64 :: S) σ := (ms_G_at rfl _ _ _).trans rfl
theorem mi_144_15 : ms_G 144 15 L (.long X :: .int (nI i) :: .ref (ms_ad r u) :: S) (ms_Z q w I J) = cond (mo_1 q.1 r u i) (ms_G 144 16 L S (ms_Z q true I (ms_u J r u (vp_updL (J r u) i X)))) (ms_raw 144 15 L (.long X :: .int (nI i) :: .ref (ms_ad r u) :: S) (ms_Z q w I J)) := mz_last rfl X
theorem mi_144_16 : ms_G 144 16 L S σ = ms_G 144 23 L S σ := (ms_G_at rfl _ _ _).trans rfl
theorem mi_144_19 : ms_G 144 19 [l0, l1, l2, l3, l4, l5, .ref b, l7] (.ref a :: S) σ = ms_G 144 21 [l0, l1, l2, l3, l4, l5, .ref b, .ref a] S σ := (ms_G_at rfl _ _ _).trans rfl
theorem mi_144_21 : ms_G 144 21 L S σ = ms_G 144 22 L (.int (nI 1) :: S) σ := (ms_G_at rfl _ _ _).trans rfl
theorem mi_144_22 : ms_G 144 22 L [.int x] σ = some (.inl (some (.int x)), σ) := (ms_G_at rfl _ _ _).trans rfl
theorem mi_144_23 : ms_G 144 23 L S σ = ms_G 144 24 L (.int (nI 0) :: S) σ := (ms_G_at rfl _ _ _).trans rfl
theorem mi_144_24 : ms_G 144 24 L [.int x] σ = some (.inl (some (.int x)), σ) := (ms_G_at rfl _ _ _).trans rfl
-- MaskedSumLaw.law([I)Z
theorem mi_145_3 : ms_G 145 3 L (.ref a :: S) σ = ms_G 145 4 L (.ref a :: .ref a :: S) σ := (ms_G_at rfl _ _ _).trans rfl
theorem mi_145_7 : ms_G 145 7 [.ref b, l1, l2, l3, l4, l5, l6] (.ref a :: S) σ = ms_G 145 8 [.ref b, .ref a, l2, l3, l4, l5, l6] S σ := (ms_G_at rfl _ _ _).trans rfl
theorem mi_145_11 : ms_G 145 11 L (.ref a :: S) σ = ms_G 145 12 L (.ref a :: .ref a :: S) σ := (ms_G_at rfl _ _ _).trans rfl
theorem mi_145_15 : ms_G 145 15 [l0, .ref b, l2, l3, l4, l5, l6] (.ref a :: S) σ = ms_G 145 16 [l0, .ref b, .ref a, l3, l4, l5, l6] S σ := (ms_G_at rfl _ _ _).trans rfl
theorem mi_145_16 : ms_G 145 16 L S σ = ms_G 145 17 L (.int (nI 1) :: S) σ := (ms_G_at rfl _ _ _).trans rfl
theorem mi_145_19 : ms_G 145 19 [l0, l1, .ref b, l3, l4, l5, l6] (.ref a :: S) σ = ms_G 145 20 [l0, l1, .ref b, .ref a, l4, l5, l6] S σ := (ms_G_at rfl _ _ _).trans rfl
theorem mi_145_20 : ms_G 145 20 L S σ = ms_G 145 21 L (.int (nI 0) :: S) σ := (ms_G_at rfl _ _ _).trans rfl
theorem mi_145_21 : ms_G 145 21 [l0, l1, l2, .ref b, l4, l5, l6] (.int x :: S) σ = ms_G 145 23 [l0, l1, l2, .ref b, .int x, l5, l6] S σ := (ms_G_at rfl _ _ _).trans rfl
theorem mi_145_23 : ms_G 145 23 [l0, l1, l2, l3, .int x, l5, l6] S σ = ms_G 145 25 [l0, l1, l2, l3, .int x, l5, l6] (.int x :: S) σ := (ms_G_at rfl _ _ _).trans rfl
theorem mi_145_25 : ms_G 145 25 [.ref a, l1, l2, l3, l4, l5, l6] S σ = ms_G 145 26 [.ref a, l1, l2, l3, l4, l5, l6] (.ref a :: S) σ := (ms_G_at rfl _ _ _).trans rfl
theorem mi_145_26 : ms_G 145 26 L (.ref (ms_ad r u) :: S) (ms_Z q w I J) = cond (mo_3 r u) (ms_G 145 27 L (.int (nI (ms_nr q.1 r u)) :: S) (ms_Z q w I J)) (ms_raw 145 26 L (.ref (ms_ad r u) :: S) (ms_Z q w I J)) := mz_alen rfl
theorem mi_145_27 : ms_G 145 27 L S σ = ms_G 145 29 L (.int (nI 6) :: S) σ := (ms_G_at rfl _ _ _).trans rfl
theorem mi_145_29 : ms_G 145 29 L (.int y :: .int x :: S) σ = ms_G 145 30 L (.int (x - y) :: S) σ := (ms_G_at rfl _ _ _).trans rfl
theorem mi_145_30 : ms_G 145 30 L (.int y :: .int x :: S) σ = if y < x then ms_G 145 881 L S σ else ms_G 145 33 L S σ := mz_bra rfl rfl rfl
theorem mi_145_33 : ms_G 145 33 [.ref a, l1, l2, l3, l4, l5, l6] S σ = ms_G 145 34 [.ref a, l1, l2, l3, l4, l5, l6] (.ref a :: S) σ := (ms_G_at rfl _ _ _).trans rfl
theorem mi_145_34 : ms_G 145 34 [l0, l1, l2, l3, .int x, l5, l6] S σ = ms_G 145 36 [l0, l1, l2, l3, .int x, l5, l6] (.int x :: S) σ := (ms_G_at rfl _ _ _).trans rfl
theorem mi_145_36 (hi : i < q.1) (h4 : i < 5000) : ms_G 145 36 L (.int (nI i) :: .ref (ms_ad 0 0) :: S) (ms_Z q w I J) = ms_G 145 37 L (.int (I 0 0 i) :: S) (ms_Z q w I J) := mz_iald5 rfl hi h4
theorem mi_145_37 : ms_G 145 37 L S σ = ms_G 145 39 L (.int (nI 15) :: S) σ := (ms_G_at rfl _ _ _).trans rfl
theorem mi_145_39 : ms_G 145 39 L (.int y :: .int x :: S) σ = ms_G 145 40 L (.int (x &&& y) :: S) σ := (ms_G_at rfl _ _ _).trans rfl
theorem mi_145_40_c0 : ms_G 145 40 L (.int (nI 0) :: S) σ = ms_G 145 108 L S σ := (ms_G_at rfl _ _ _).trans rfl
theorem mi_145_40_c1 : ms_G 145 40 L (.int (nI 1) :: S) σ = ms_G 145 156 L S σ := (ms_G_at rfl _ _ _).trans rfl
theorem mi_145_40_c2 : ms_G 145 40 L (.int (nI 2) :: S) σ = ms_G 145 228 L S σ := (ms_G_at rfl _ _ _).trans rfl
theorem mi_145_40_c3 : ms_G 145 40 L (.int (nI 3) :: S) σ = ms_G 145 288 L S σ := (ms_G_at rfl _ _ _).trans rfl
theorem mi_145_40_c4 : ms_G 145 40 L (.int (nI 4) :: S) σ = ms_G 145 351 L S σ := (ms_G_at rfl _ _ _).trans rfl
theorem mi_145_40_c5 : ms_G 145 40 L (.int (nI 5) :: S) σ = ms_G 145 395 L S σ := (ms_G_at rfl _ _ _).trans rfl
theorem mi_145_40_c6 : ms_G 145 40 L (.int (nI 6) :: S) σ = ms_G 145 458 L S σ := (ms_G_at rfl _ _ _).trans rfl
theorem mi_145_40_c7 : ms_G 145 40 L (.int (nI 7) :: S) σ = ms_G 145 494 L S σ := (ms_G_at rfl _ _ _).trans rfl
theorem mi_145_40_c8 : ms_G 145 40 L (.int (nI 8) :: S) σ = ms_G 145 554 L S σ := (ms_G_at rfl _ _ _).trans rfl
theorem mi_145_40_c9 : ms_G 145 40 L (.int (nI 9) :: S) σ = ms_G 145 622 L S σ := (ms_G_at rfl _ _ _).trans rfl
theorem mi_145_40_c10 : ms_G 145 40 L (.int (nI 10) :: S) σ = ms_G 145 678 L S σ := (ms_G_at rfl _ _ _).trans rfl
theorem mi_145_40_c11 : ms_G 145 40 L (.int (nI 11) :: S) σ = ms_G 145 746 L S σ := (ms_G_at rfl _ _ _).trans rfl
theorem mi_145_40_c12 : ms_G 145 40 L (.int (nI 12) :: S) σ = ms_G 145 771 L S σ := (ms_G_at rfl _ _ _).trans rfl
theorem mi_145_40_d (hx : x.toInt < 0 ∨ 12 < x.toInt) : ms_G 145 40 L (.int x :: S) σ = ms_G 145 875 L S σ := mz_sw rfl hx
theorem mi_145_108 : ms_G 145 108 [l0, .ref a, l2, l3, l4, l5, l6] S σ = ms_G 145 109 [l0, .ref a, l2, l3, l4, l5, l6] (.ref a :: S) σ := (ms_G_at rfl _ _ _).trans rfl
theorem mi_145_109 : ms_G 145 109 [.ref a, l1, l2, l3, l4, l5, l6] S σ = ms_G 145 110 [.ref a, l1, l2, l3, l4, l5, l6] (.ref a :: S) σ := (ms_G_at rfl _ _ _).trans rfl
theorem mi_145_110 : ms_G 145 110 [l0, l1, l2, l3, .int x, l5, l6] S σ = ms_G 145 112 [l0, l1, l2, l3, .int x, l5, l6] (.int x :: S) σ := (ms_G_at rfl _ _ _).trans rfl
theorem mi_145_112 : ms_G 145 112 L S σ = ms_G 145 113 L (.int (nI 1) :: S) σ := (ms_G_at rfl _ _ _).trans rfl
theorem mi_145_113 : ms_G 145 113 L (.int y :: .int x :: S) σ = ms_G 145 114 L (.int (x + y) :: S) σ := (ms_G_at rfl _ _ _).trans rfl
theorem mi_145_114 (hi : i < q.1) (h4 : i < 5000) : ms_G 145 114 L (.int (nI i) :: .ref (ms_ad 0 0) :: S) (ms_Z q w I J) = ms_G 145 115 L (.int (I 0 0 i) :: S) (ms_Z q w I J) := mz_iald5 rfl hi h4
theorem mi_145_115 : ms_G 145 115 [.ref a, l1, l2, l3, l4, l5, l6] S σ = ms_G 145 116 [.ref a, l1, l2, l3, l4, l5, l6] (.ref a :: S) σ := (ms_G_at rfl _ _ _).trans rfl
theorem mi_145_116 : ms_G 145 116 [l0, l1, l2, l3, .int x, l5, l6] S σ = ms_G 145 118 [l0, l1, l2, l3, .int x, l5, l6] (.int x :: S) σ := (ms_G_at rfl _ _ _).trans rfl
theorem mi_145_118 : ms_G 145 118 L S σ = ms_G 145 119 L (.int (nI 2) :: S) σ := (ms_G_at rfl _ _ _).trans rfl
theorem mi_145_119 : ms_G 145 119 L (.int y :: .int x :: S) σ = ms_G 145 120 L (.int (x + y) :: S) σ := (ms_G_at rfl _ _ _).trans rfl
theorem mi_145_120 (hi : i < q.1) (h4 : i < 5000) : ms_G 145 120 L (.int (nI i) :: .ref (ms_ad 0 0) :: S) (ms_Z q w I J) = ms_G 145 121 L (.int (I 0 0 i) :: S) (ms_Z q w I J) := mz_iald5 rfl hi h4
theorem mi_145_121 : ms_G 145 121 L [.int x2, .int x1, .ref a0] (ms_Z q w I J) = mo_cl 145 121 124 (ms_G 133 0 [.ref a0, .int x1, .int x2, .null] [] (ms_Z q false I J)) w L [] := (mz_call rfl rfl (mz_can0 rfl rfl rfl rfl rfl)).trans rfl
theorem mi_145_124 : ms_G 145 124 [l0, l1, l2, l3, .int y, l5, l6] (.int x :: S) σ = ms_G 145 126 [l0, l1, l2, l3, .int y, .int x, l6] S σ := (ms_G_at rfl _ _ _).trans rfl
theorem mi_145_126 : ms_G 145 126 [l0, l1, .ref a, l3, l4, l5, l6] S σ = ms_G 145 127 [l0, l1, .ref a, l3, l4, l5, l6] (.ref a :: S) σ := (ms_G_at rfl _ _ _).trans rfl
theorem mi_145_127 : ms_G 145 127 [.ref a, l1, l2, l3, l4, l5, l6] S σ = ms_G 145 128 [.ref a, l1, l2, l3, l4, l5, l6] (.ref a :: S) σ := (ms_G_at rfl _ _ _).trans rfl
theorem mi_145_128 : ms_G 145 128 [l0, l1, l2, l3, .int x, l5, l6] S σ = ms_G 145 130 [l0, l1, l2, l3, .int x, l5, l6] (.int x :: S) σ := (ms_G_at rfl _ _ _).trans rfl
theorem mi_145_130 : ms_G 145 130 L S σ = ms_G 145 131 L (.int (nI 1) :: S) σ := (ms_G_at rfl _ _ _).trans rfl
theorem mi_145_131 : ms_G 145 131 L (.int y :: .int x :: S) σ = ms_G 145 132 L (.int (x + y) :: S) σ := (ms_G_at rfl _ _ _).trans rfl
theorem mi_145_132 (hi : i < q.1) (h4 : i < 5000) : ms_G 145 132 L (.int (nI i) :: .ref (ms_ad 0 0) :: S) (ms_Z q w I J) = ms_G 145 133 L (.int (I 0 0 i) :: S) (ms_Z q w I J) := mz_iald5 rfl hi h4
theorem mi_145_133 : ms_G 145 133 [.ref a, l1, l2, l3, l4, l5, l6] S σ = ms_G 145 134 [.ref a, l1, l2, l3, l4, l5, l6] (.ref a :: S) σ := (ms_G_at rfl _ _ _).trans rfl
theorem mi_145_134 : ms_G 145 134 [l0, l1, l2, l3, .int x, l5, l6] S σ = ms_G 145 136 [l0, l1, l2, l3, .int x, l5, l6] (.int x :: S) σ := (ms_G_at rfl _ _ _).trans rfl
theorem mi_145_136 : ms_G 145 136 L S σ = ms_G 145 137 L (.int (nI 2) :: S) σ := (ms_G_at rfl _ _ _).trans rfl
theorem mi_145_137 : ms_G 145 137 L (.int y :: .int x :: S) σ = ms_G 145 138 L (.int (x + y) :: S) σ := (ms_G_at rfl _ _ _).trans rfl
theorem mi_145_138 (hi : i < q.1) (h4 : i < 5000) : ms_G 145 138 L (.int (nI i) :: .ref (ms_ad 0 0) :: S) (ms_Z q w I J) = ms_G 145 139 L (.int (I 0 0 i) :: S) (ms_Z q w I J) := mz_iald5 rfl hi h4
theorem mi_145_139 : ms_G 145 139 L [.int x1, .int x0, .ref (ms_ad 40 0)] (ms_Z q w I J) = mo_cl 145 139 142 (ms_G 35 0 [.ref (ms_ad 40 0), .int x0, .int x1, .null] [] (ms_Z q false I J)) w L [] := (mz_call rfl rfl (mz_can1 rfl rfl rfl rfl rfl (by decide) rfl (by decide))).trans rfl
theorem mi_145_142 : ms_G 145 142 [l0, l1, .ref a, l3, l4, l5, l6] S σ = ms_G 145 143 [l0, l1, .ref a, l3, l4, l5, l6] (.ref a :: S) σ := (ms_G_at rfl _ _ _).trans rfl
theorem mi_145_143 : ms_G 145 143 L [.ref (ms_ad 40 0)] (ms_Z q w I J) = mo_cl 145 143 146 (ms_G 17 0 [.ref (ms_ad 40 0)] [] (ms_Z q false I J)) w L [] := (mz_call rfl rfl (mz_can1 rfl rfl rfl rfl rfl (by decide) rfl (by decide))).trans rfl
theorem mi_145_146 : ms_G 145 146 [l0, l1, l2, l3, l4, .int x, l6] S σ = ms_G 145 148 [l0, l1, l2, l3, l4, .int x, l6] (.int x :: S) σ := (ms_G_at rfl _ _ _).trans rfl
theorem mi_145_148 : ms_G 145 148 L (.int y :: .int x :: S) σ = if x = y then ms_G 145 153 L S σ else ms_G 145 151 L S σ := mz_bra rfl rfl rfl
theorem mi_145_151 : ms_G 145 151 L S σ = ms_G 145 152 L (.int (nI 0) :: S) σ := (ms_G_at rfl _ _ _).trans rfl
theorem mi_145_152 : ms_G 145 152 L [.int (nI 0)] σ = some (.inl (some (.int (nI 0))), σ) := (ms_G_at rfl _ _ _).trans rfl
theorem mi_145_152_1 : ms_G 145 152 L [.int (nI 1)] σ = some (.inl (some (.int (nI 1))), σ) := (ms_G_at rfl _ _ _).trans rfl
theorem mi_145_152_b (B : Bool) : ms_G 145 152 L [.int (ms_b B)] σ = some (.inl (some (.int (ms_b B))), σ) := by cases B <;> exact (ms_G_at rfl _ _ _).trans rfl
theorem mi_145_153 : ms_G 145 153 L S σ = ms_G 145 875 L S σ := (ms_G_at rfl _ _ _).trans rfl
theorem mi_145_156 : ms_G 145 156 [l0, .ref a, l2, l3, l4, l5, l6] S σ = ms_G 145 157 [l0, .ref a, l2, l3, l4, l5, l6] (.ref a :: S) σ := (ms_G_at rfl _ _ _).trans rfl
theorem mi_145_157 : ms_G 145 157 [.ref a, l1, l2, l3, l4, l5, l6] S σ = ms_G 145 158 [.ref a, l1, l2, l3, l4, l5, l6] (.ref a :: S) σ := (ms_G_at rfl _ _ _).trans rfl
theorem mi_145_158 : ms_G 145 158 [l0, l1, l2, l3, .int x, l5, l6] S σ = ms_G 145 160 [l0, l1, l2, l3, .int x, l5, l6] (.int x :: S) σ := (ms_G_at rfl _ _ _).trans rfl
theorem mi_145_160 : ms_G 145 160 L S σ = ms_G 145 161 L (.int (nI 1) :: S) σ := (ms_G_at rfl _ _ _).trans rfl
theorem mi_145_161 : ms_G 145 161 L (.int y :: .int x :: S) σ = ms_G 145 162 L (.int (x + y) :: S) σ := (ms_G_at rfl _ _ _).trans rfl
theorem mi_145_162 (hi : i < q.1) (h4 : i < 5000) : ms_G 145 162 L (.int (nI i) :: .ref (ms_ad 0 0) :: S) (ms_Z q w I J) = ms_G 145 163 L (.int (I 0 0 i) :: S) (ms_Z q w I J) := mz_iald5 rfl hi h4
theorem mi_145_163 : ms_G 145 163 [.ref a, l1, l2, l3, l4, l5, l6] S σ = ms_G 145 164 [.ref a, l1, l2, l3, l4, l5, l6] (.ref a :: S) σ := (ms_G_at rfl _ _ _).trans rfl
theorem mi_145_164 : ms_G 145 164 [l0, l1, l2, l3, .int x, l5, l6] S σ = ms_G 145 166 [l0, l1, l2, l3, .int x, l5, l6] (.int x :: S) σ := (ms_G_at rfl _ _ _).trans rfl
theorem mi_145_166 : ms_G 145 166 L S σ = ms_G 145 167 L (.int (nI 2) :: S) σ := (ms_G_at rfl _ _ _).trans rfl
theorem mi_145_167 : ms_G 145 167 L (.int y :: .int x :: S) σ = ms_G 145 168 L (.int (x + y) :: S) σ := (ms_G_at rfl _ _ _).trans rfl
theorem mi_145_168 (hi : i < q.1) (h4 : i < 5000) : ms_G 145 168 L (.int (nI i) :: .ref (ms_ad 0 0) :: S) (ms_Z q w I J) = ms_G 145 169 L (.int (I 0 0 i) :: S) (ms_Z q w I J) := mz_iald5 rfl hi h4
theorem mi_145_169 : ms_G 145 169 [.ref a, l1, l2, l3, l4, l5, l6] S σ = ms_G 145 170 [.ref a, l1, l2, l3, l4, l5, l6] (.ref a :: S) σ := (ms_G_at rfl _ _ _).trans rfl
theorem mi_145_170 : ms_G 145 170 [l0, l1, l2, l3, .int x, l5, l6] S σ = ms_G 145 172 [l0, l1, l2, l3, .int x, l5, l6] (.int x :: S) σ := (ms_G_at rfl _ _ _).trans rfl
theorem mi_145_172 : ms_G 145 172 L S σ = ms_G 145 173 L (.int (nI 3) :: S) σ := (ms_G_at rfl _ _ _).trans rfl
theorem mi_145_173 : ms_G 145 173 L (.int y :: .int x :: S) σ = ms_G 145 174 L (.int (x + y) :: S) σ := (ms_G_at rfl _ _ _).trans rfl
theorem mi_145_174 (hi : i < q.1) (h4 : i < 5000) : ms_G 145 174 L (.int (nI i) :: .ref (ms_ad 0 0) :: S) (ms_Z q w I J) = ms_G 145 175 L (.int (I 0 0 i) :: S) (ms_Z q w I J) := mz_iald5 rfl hi h4
theorem mi_145_175 : ms_G 145 175 [.ref a, l1, l2, l3, l4, l5, l6] S σ = ms_G 145 176 [.ref a, l1, l2, l3, l4, l5, l6] (.ref a :: S) σ := (ms_G_at rfl _ _ _).trans rfl
theorem mi_145_176 : ms_G 145 176 [l0, l1, l2, l3, .int x, l5, l6] S σ = ms_G 145 178 [l0, l1, l2, l3, .int x, l5, l6] (.int x :: S) σ := (ms_G_at rfl _ _ _).trans rfl
theorem mi_145_178 : ms_G 145 178 L S σ = ms_G 145 179 L (.int (nI 4) :: S) σ := (ms_G_at rfl _ _ _).trans rfl
theorem mi_145_179 : ms_G 145 179 L (.int y :: .int x :: S) σ = ms_G 145 180 L (.int (x + y) :: S) σ := (ms_G_at rfl _ _ _).trans rfl
theorem mi_145_180 (hi : i < q.1) (h4 : i < 5000) : ms_G 145 180 L (.int (nI i) :: .ref (ms_ad 0 0) :: S) (ms_Z q w I J) = ms_G 145 181 L (.int (I 0 0 i) :: S) (ms_Z q w I J) := mz_iald5 rfl hi h4
theorem mi_145_181 : ms_G 145 181 L [.int x4, .int x3, .int x2, .int x1, .ref a0] (ms_Z q w I J) = mo_cl 145 181 184 (ms_G 134 0 [.ref a0, .int x1, .int x2, .int x3, .int x4, .null] [] (ms_Z q false I J)) w L [] := (mz_call rfl rfl (mz_can0 rfl rfl rfl rfl rfl)).trans rfl
theorem mi_145_184 : ms_G 145 184 [l0, l1, l2, l3, .int y, l5, l6] (.int x :: S) σ = ms_G 145 186 [l0, l1, l2, l3, .int y, .int x, l6] S σ := (ms_G_at rfl _ _ _).trans rfl
theorem mi_145_186 : ms_G 145 186 [l0, l1, .ref a, l3, l4, l5, l6] S σ = ms_G 145 187 [l0, l1, .ref a, l3, l4, l5, l6] (.ref a :: S) σ := (ms_G_at rfl _ _ _).trans rfl
theorem mi_145_187 : ms_G 145 187 [.ref a, l1, l2, l3, l4, l5, l6] S σ = ms_G 145 188 [.ref a, l1, l2, l3, l4, l5, l6] (.ref a :: S) σ := (ms_G_at rfl _ _ _).trans rfl
theorem mi_145_188 : ms_G 145 188 [l0, l1, l2, l3, .int x, l5, l6] S σ = ms_G 145 190 [l0, l1, l2, l3, .int x, l5, l6] (.int x :: S) σ := (ms_G_at rfl _ _ _).trans rfl
theorem mi_145_190 : ms_G 145 190 L S σ = ms_G 145 191 L (.int (nI 1) :: S) σ := (ms_G_at rfl _ _ _).trans rfl
theorem mi_145_191 : ms_G 145 191 L (.int y :: .int x :: S) σ = ms_G 145 192 L (.int (x + y) :: S) σ := (ms_G_at rfl _ _ _).trans rfl
theorem mi_145_192 (hi : i < q.1) (h4 : i < 5000) : ms_G 145 192 L (.int (nI i) :: .ref (ms_ad 0 0) :: S) (ms_Z q w I J) = ms_G 145 193 L (.int (I 0 0 i) :: S) (ms_Z q w I J) := mz_iald5 rfl hi h4
theorem mi_145_193 : ms_G 145 193 [.ref a, l1, l2, l3, l4, l5, l6] S σ = ms_G 145 194 [.ref a, l1, l2, l3, l4, l5, l6] (.ref a :: S) σ := (ms_G_at rfl _ _ _).trans rfl
theorem mi_145_194 : ms_G 145 194 [l0, l1, l2, l3, .int x, l5, l6] S σ = ms_G 145 196 [l0, l1, l2, l3, .int x, l5, l6] (.int x :: S) σ := (ms_G_at rfl _ _ _).trans rfl
theorem mi_145_196 : ms_G 145 196 L S σ = ms_G 145 197 L (.int (nI 2) :: S) σ := (ms_G_at rfl _ _ _).trans rfl
theorem mi_145_197 : ms_G 145 197 L (.int y :: .int x :: S) σ = ms_G 145 198 L (.int (x + y) :: S) σ := (ms_G_at rfl _ _ _).trans rfl
theorem mi_145_198 (hi : i < q.1) (h4 : i < 5000) : ms_G 145 198 L (.int (nI i) :: .ref (ms_ad 0 0) :: S) (ms_Z q w I J) = ms_G 145 199 L (.int (I 0 0 i) :: S) (ms_Z q w I J) := mz_iald5 rfl hi h4
theorem mi_145_199 : ms_G 145 199 [.ref a, l1, l2, l3, l4, l5, l6] S σ = ms_G 145 200 [.ref a, l1, l2, l3, l4, l5, l6] (.ref a :: S) σ := (ms_G_at rfl _ _ _).trans rfl
theorem mi_145_200 : ms_G 145 200 [l0, l1, l2, l3, .int x, l5, l6] S σ = ms_G 145 202 [l0, l1, l2, l3, .int x, l5, l6] (.int x :: S) σ := (ms_G_at rfl _ _ _).trans rfl
theorem mi_145_202 : ms_G 145 202 L S σ = ms_G 145 203 L (.int (nI 3) :: S) σ := (ms_G_at rfl _ _ _).trans rfl
theorem mi_145_203 : ms_G 145 203 L (.int y :: .int x :: S) σ = ms_G 145 204 L (.int (x + y) :: S) σ := (ms_G_at rfl _ _ _).trans rfl
theorem mi_145_204 (hi : i < q.1) (h4 : i < 5000) : ms_G 145 204 L (.int (nI i) :: .ref (ms_ad 0 0) :: S) (ms_Z q w I J) = ms_G 145 205 L (.int (I 0 0 i) :: S) (ms_Z q w I J) := mz_iald5 rfl hi h4
theorem mi_145_205 : ms_G 145 205 [.ref a, l1, l2, l3, l4, l5, l6] S σ = ms_G 145 206 [.ref a, l1, l2, l3, l4, l5, l6] (.ref a :: S) σ := (ms_G_at rfl _ _ _).trans rfl
theorem mi_145_206 : ms_G 145 206 [l0, l1, l2, l3, .int x, l5, l6] S σ = ms_G 145 208 [l0, l1, l2, l3, .int x, l5, l6] (.int x :: S) σ := (ms_G_at rfl _ _ _).trans rfl
theorem mi_145_208 : ms_G 145 208 L S σ = ms_G 145 209 L (.int (nI 4) :: S) σ := (ms_G_at rfl _ _ _).trans rfl
theorem mi_145_209 : ms_G 145 209 L (.int y :: .int x :: S) σ = ms_G 145 210 L (.int (x + y) :: S) σ := (ms_G_at rfl _ _ _).trans rfl
theorem mi_145_210 (hi : i < q.1) (h4 : i < 5000) : ms_G 145 210 L (.int (nI i) :: .ref (ms_ad 0 0) :: S) (ms_Z q w I J) = ms_G 145 211 L (.int (I 0 0 i) :: S) (ms_Z q w I J) := mz_iald5 rfl hi h4
theorem mi_145_211 : ms_G 145 211 L [.int x3, .int x2, .int x1, .int x0, .ref (ms_ad 40 0)] (ms_Z q w I J) = mo_cl 145 211 214 (ms_G 38 0 [.ref (ms_ad 40 0), .int x0, .int x1, .int x2, .int x3] [] (ms_Z q false I J)) w L [] := (mz_call rfl rfl (mz_can1 rfl rfl rfl rfl rfl (by decide) rfl (by decide))).trans rfl
theorem mi_145_214 : ms_G 145 214 [l0, l1, .ref a, l3, l4, l5, l6] S σ = ms_G 145 215 [l0, l1, .ref a, l3, l4, l5, l6] (.ref a :: S) σ := (ms_G_at rfl _ _ _).trans rfl
theorem mi_145_215 : ms_G 145 215 L [.ref (ms_ad 40 0)] (ms_Z q w I J) = mo_cl 145 215 218 (ms_G 17 0 [.ref (ms_ad 40 0)] [] (ms_Z q false I J)) w L [] := (mz_call rfl rfl (mz_can1 rfl rfl rfl rfl rfl (by decide) rfl (by decide))).trans rfl
theorem mi_145_218 : ms_G 145 218 [l0, l1, l2, l3, l4, .int x, l6] S σ = ms_G 145 220 [l0, l1, l2, l3, l4, .int x, l6] (.int x :: S) σ := (ms_G_at rfl _ _ _).trans rfl
theorem mi_145_220 : ms_G 145 220 L (.int y :: .int x :: S) σ = if x = y then ms_G 145 225 L S σ else ms_G 145 223 L S σ := mz_bra rfl rfl rfl
theorem mi_145_223 : ms_G 145 223 L S σ = ms_G 145 224 L (.int (nI 0) :: S) σ := (ms_G_at rfl _ _ _).trans rfl
theorem mi_145_224 : ms_G 145 224 L [.int (nI 0)] σ = some (.inl (some (.int (nI 0))), σ) := (ms_G_at rfl _ _ _).trans rfl
theorem mi_145_224_1 : ms_G 145 224 L [.int (nI 1)] σ = some (.inl (some (.int (nI 1))), σ) := (ms_G_at rfl _ _ _).trans rfl
theorem mi_145_224_b (B : Bool) : ms_G 145 224 L [.int (ms_b B)] σ = some (.inl (some (.int (ms_b B))), σ) := by cases B <;> exact (ms_G_at rfl _ _ _).trans rfl
theorem mi_145_225 : ms_G 145 225 L S σ = ms_G 145 875 L S σ := (ms_G_at rfl _ _ _).trans rfl
theorem mi_145_228 : ms_G 145 228 [l0, .ref a, l2, l3, l4, l5, l6] S σ = ms_G 145 229 [l0, .ref a, l2, l3, l4, l5, l6] (.ref a :: S) σ := (ms_G_at rfl _ _ _).trans rfl
theorem mi_145_229 : ms_G 145 229 [.ref a, l1, l2, l3, l4, l5, l6] S σ = ms_G 145 230 [.ref a, l1, l2, l3, l4, l5, l6] (.ref a :: S) σ := (ms_G_at rfl _ _ _).trans rfl
theorem mi_145_230 : ms_G 145 230 [l0, l1, l2, l3, .int x, l5, l6] S σ = ms_G 145 232 [l0, l1, l2, l3, .int x, l5, l6] (.int x :: S) σ := (ms_G_at rfl _ _ _).trans rfl
theorem mi_145_232 : ms_G 145 232 L S σ = ms_G 145 233 L (.int (nI 1) :: S) σ := (ms_G_at rfl _ _ _).trans rfl
theorem mi_145_233 : ms_G 145 233 L (.int y :: .int x :: S) σ = ms_G 145 234 L (.int (x + y) :: S) σ := (ms_G_at rfl _ _ _).trans rfl
theorem mi_145_234 (hi : i < q.1) (h4 : i < 5000) : ms_G 145 234 L (.int (nI i) :: .ref (ms_ad 0 0) :: S) (ms_Z q w I J) = ms_G 145 235 L (.int (I 0 0 i) :: S) (ms_Z q w I J) := mz_iald5 rfl hi h4
theorem mi_145_235 : ms_G 145 235 [.ref a, l1, l2, l3, l4, l5, l6] S σ = ms_G 145 236 [.ref a, l1, l2, l3, l4, l5, l6] (.ref a :: S) σ := (ms_G_at rfl _ _ _).trans rfl
theorem mi_145_236 : ms_G 145 236 [l0, l1, l2, l3, .int x, l5, l6] S σ = ms_G 145 238 [l0, l1, l2, l3, .int x, l5, l6] (.int x :: S) σ := (ms_G_at rfl _ _ _).trans rfl
theorem mi_145_238 : ms_G 145 238 L S σ = ms_G 145 239 L (.int (nI 2) :: S) σ := (ms_G_at rfl _ _ _).trans rfl
theorem mi_145_239 : ms_G 145 239 L (.int y :: .int x :: S) σ = ms_G 145 240 L (.int (x + y) :: S) σ := (ms_G_at rfl _ _ _).trans rfl
theorem mi_145_240 (hi : i < q.1) (h4 : i < 5000) : ms_G 145 240 L (.int (nI i) :: .ref (ms_ad 0 0) :: S) (ms_Z q w I J) = ms_G 145 241 L (.int (I 0 0 i) :: S) (ms_Z q w I J) := mz_iald5 rfl hi h4
theorem mi_145_241 : ms_G 145 241 [.ref a, l1, l2, l3, l4, l5, l6] S σ = ms_G 145 242 [.ref a, l1, l2, l3, l4, l5, l6] (.ref a :: S) σ := (ms_G_at rfl _ _ _).trans rfl
theorem mi_145_242 : ms_G 145 242 [l0, l1, l2, l3, .int x, l5, l6] S σ = ms_G 145 244 [l0, l1, l2, l3, .int x, l5, l6] (.int x :: S) σ := (ms_G_at rfl _ _ _).trans rfl
theorem mi_145_244 : ms_G 145 244 L S σ = ms_G 145 245 L (.int (nI 3) :: S) σ := (ms_G_at rfl _ _ _).trans rfl
theorem mi_145_245 : ms_G 145 245 L (.int y :: .int x :: S) σ = ms_G 145 246 L (.int (x + y) :: S) σ := (ms_G_at rfl _ _ _).trans rfl
theorem mi_145_246 (hi : i < q.1) (h4 : i < 5000) : ms_G 145 246 L (.int (nI i) :: .ref (ms_ad 0 0) :: S) (ms_Z q w I J) = ms_G 145 247 L (.int (I 0 0 i) :: S) (ms_Z q w I J) := mz_iald5 rfl hi h4
theorem mi_145_247 : ms_G 145 247 L [.int x3, .int x2, .int x1, .ref a0] (ms_Z q w I J) = mo_cl 145 247 250 (ms_G 135 0 [.ref a0, .int x1, .int x2, .int x3, .null] [] (ms_Z q false I J)) w L [] := (mz_call rfl rfl (mz_can0 rfl rfl rfl rfl rfl)).trans rfl
theorem mi_145_250 : ms_G 145 250 [l0, l1, l2, l3, .int y, l5, l6] (.int x :: S) σ = ms_G 145 252 [l0, l1, l2, l3, .int y, .int x, l6] S σ := (ms_G_at rfl _ _ _).trans rfl
theorem mi_145_252 : ms_G 145 252 [l0, l1, .ref a, l3, l4, l5, l6] S σ = ms_G 145 253 [l0, l1, .ref a, l3, l4, l5, l6] (.ref a :: S) σ := (ms_G_at rfl _ _ _).trans rfl
theorem mi_145_253 : ms_G 145 253 [.ref a, l1, l2, l3, l4, l5, l6] S σ = ms_G 145 254 [.ref a, l1, l2, l3, l4, l5, l6] (.ref a :: S) σ := (ms_G_at rfl _ _ _).trans rfl
theorem mi_145_254 : ms_G 145 254 [l0, l1, l2, l3, .int x, l5, l6] S σ = ms_G 145 256 [l0, l1, l2, l3, .int x, l5, l6] (.int x :: S) σ := (ms_G_at rfl _ _ _).trans rfl
theorem mi_145_256 : ms_G 145 256 L S σ = ms_G 145 257 L (.int (nI 1) :: S) σ := (ms_G_at rfl _ _ _).trans rfl
theorem mi_145_257 : ms_G 145 257 L (.int y :: .int x :: S) σ = ms_G 145 258 L (.int (x + y) :: S) σ := (ms_G_at rfl _ _ _).trans rfl
theorem mi_145_258 (hi : i < q.1) (h4 : i < 5000) : ms_G 145 258 L (.int (nI i) :: .ref (ms_ad 0 0) :: S) (ms_Z q w I J) = ms_G 145 259 L (.int (I 0 0 i) :: S) (ms_Z q w I J) := mz_iald5 rfl hi h4
theorem mi_145_259 : ms_G 145 259 [.ref a, l1, l2, l3, l4, l5, l6] S σ = ms_G 145 260 [.ref a, l1, l2, l3, l4, l5, l6] (.ref a :: S) σ := (ms_G_at rfl _ _ _).trans rfl
theorem mi_145_260 : ms_G 145 260 [l0, l1, l2, l3, .int x, l5, l6] S σ = ms_G 145 262 [l0, l1, l2, l3, .int x, l5, l6] (.int x :: S) σ := (ms_G_at rfl _ _ _).trans rfl
theorem mi_145_262 : ms_G 145 262 L S σ = ms_G 145 263 L (.int (nI 2) :: S) σ := (ms_G_at rfl _ _ _).trans rfl
theorem mi_145_263 : ms_G 145 263 L (.int y :: .int x :: S) σ = ms_G 145 264 L (.int (x + y) :: S) σ := (ms_G_at rfl _ _ _).trans rfl
theorem mi_145_264 (hi : i < q.1) (h4 : i < 5000) : ms_G 145 264 L (.int (nI i) :: .ref (ms_ad 0 0) :: S) (ms_Z q w I J) = ms_G 145 265 L (.int (I 0 0 i) :: S) (ms_Z q w I J) := mz_iald5 rfl hi h4
theorem mi_145_265 : ms_G 145 265 [.ref a, l1, l2, l3, l4, l5, l6] S σ = ms_G 145 266 [.ref a, l1, l2, l3, l4, l5, l6] (.ref a :: S) σ := (ms_G_at rfl _ _ _).trans rfl
theorem mi_145_266 : ms_G 145 266 [l0, l1, l2, l3, .int x, l5, l6] S σ = ms_G 145 268 [l0, l1, l2, l3, .int x, l5, l6] (.int x :: S) σ := (ms_G_at rfl _ _ _).trans rfl
theorem mi_145_268 : ms_G 145 268 L S σ = ms_G 145 269 L (.int (nI 3) :: S) σ := (ms_G_at rfl _ _ _).trans rfl
theorem mi_145_269 : ms_G 145 269 L (.int y :: .int x :: S) σ = ms_G 145 270 L (.int (x + y) :: S) σ := (ms_G_at rfl _ _ _).trans rfl
theorem mi_145_270 (hi : i < q.1) (h4 : i < 5000) : ms_G 145 270 L (.int (nI i) :: .ref (ms_ad 0 0) :: S) (ms_Z q w I J) = ms_G 145 271 L (.int (I 0 0 i) :: S) (ms_Z q w I J) := mz_iald5 rfl hi h4
theorem mi_145_271 : ms_G 145 271 L [.int x2, .int x1, .int x0, .ref (ms_ad 40 0)] (ms_Z q w I J) = mo_cl 145 271 274 (ms_G 39 0 [.ref (ms_ad 40 0), .int x0, .int x1, .int x2] [] (ms_Z q false I J)) w L [] := (mz_call rfl rfl (mz_can1 rfl rfl rfl rfl rfl (by decide) rfl (by decide))).trans rfl
theorem mi_145_274 : ms_G 145 274 [l0, l1, .ref a, l3, l4, l5, l6] S σ = ms_G 145 275 [l0, l1, .ref a, l3, l4, l5, l6] (.ref a :: S) σ := (ms_G_at rfl _ _ _).trans rfl
theorem mi_145_275 : ms_G 145 275 L [.ref (ms_ad 40 0)] (ms_Z q w I J) = mo_cl 145 275 278 (ms_G 17 0 [.ref (ms_ad 40 0)] [] (ms_Z q false I J)) w L [] := (mz_call rfl rfl (mz_can1 rfl rfl rfl rfl rfl (by decide) rfl (by decide))).trans rfl
theorem mi_145_278 : ms_G 145 278 [l0, l1, l2, l3, l4, .int x, l6] S σ = ms_G 145 280 [l0, l1, l2, l3, l4, .int x, l6] (.int x :: S) σ := (ms_G_at rfl _ _ _).trans rfl
theorem mi_145_280 : ms_G 145 280 L (.int y :: .int x :: S) σ = if x = y then ms_G 145 285 L S σ else ms_G 145 283 L S σ := mz_bra rfl rfl rfl
theorem mi_145_283 : ms_G 145 283 L S σ = ms_G 145 284 L (.int (nI 0) :: S) σ := (ms_G_at rfl _ _ _).trans rfl
theorem mi_145_284 : ms_G 145 284 L [.int (nI 0)] σ = some (.inl (some (.int (nI 0))), σ) := (ms_G_at rfl _ _ _).trans rfl
theorem mi_145_284_1 : ms_G 145 284 L [.int (nI 1)] σ = some (.inl (some (.int (nI 1))), σ) := (ms_G_at rfl _ _ _).trans rfl
theorem mi_145_284_b (B : Bool) : ms_G 145 284 L [.int (ms_b B)] σ = some (.inl (some (.int (ms_b B))), σ) := by cases B <;> exact (ms_G_at rfl _ _ _).trans rfl
theorem mi_145_285 : ms_G 145 285 L S σ = ms_G 145 875 L S σ := (ms_G_at rfl _ _ _).trans rfl
theorem mi_145_288 : ms_G 145 288 [l0, .ref a, l2, l3, l4, l5, l6] S σ = ms_G 145 289 [l0, .ref a, l2, l3, l4, l5, l6] (.ref a :: S) σ := (ms_G_at rfl _ _ _).trans rfl
theorem mi_145_289 : ms_G 145 289 [.ref a, l1, l2, l3, l4, l5, l6] S σ = ms_G 145 290 [.ref a, l1, l2, l3, l4, l5, l6] (.ref a :: S) σ := (ms_G_at rfl _ _ _).trans rfl
theorem mi_145_290 : ms_G 145 290 [l0, l1, l2, l3, .int x, l5, l6] S σ = ms_G 145 292 [l0, l1, l2, l3, .int x, l5, l6] (.int x :: S) σ := (ms_G_at rfl _ _ _).trans rfl
theorem mi_145_292 : ms_G 145 292 L S σ = ms_G 145 293 L (.int (nI 1) :: S) σ := (ms_G_at rfl _ _ _).trans rfl
theorem mi_145_293 : ms_G 145 293 L (.int y :: .int x :: S) σ = ms_G 145 294 L (.int (x + y) :: S) σ := (ms_G_at rfl _ _ _).trans rfl
theorem mi_145_294 (hi : i < q.1) (h4 : i < 5000) : ms_G 145 294 L (.int (nI i) :: .ref (ms_ad 0 0) :: S) (ms_Z q w I J) = ms_G 145 295 L (.int (I 0 0 i) :: S) (ms_Z q w I J) := mz_iald5 rfl hi h4
theorem mi_145_295 : ms_G 145 295 [l0, l1, l2, .ref a, l4, l5, l6] S σ = ms_G 145 296 [l0, l1, l2, .ref a, l4, l5, l6] (.ref a :: S) σ := (ms_G_at rfl _ _ _).trans rfl
theorem mi_145_296 : ms_G 145 296 L [.ref a2, .int x1, .ref a0] (ms_Z q w I J) = mo_cl 145 296 299 (ms_G 136 0 [.ref a0, .int x1, .ref a2, .null] [] (ms_Z q false I J)) w L [] := (mz_call rfl rfl (mz_can0 rfl rfl rfl rfl rfl)).trans rfl
theorem mi_145_299 : ms_G 145 299 [l0, l1, l2, l3, .int y, l5, l6] (.int x :: S) σ = ms_G 145 301 [l0, l1, l2, l3, .int y, .int x, l6] S σ := (ms_G_at rfl _ _ _).trans rfl
theorem mi_145_301 : ms_G 145 301 [l0, l1, .ref a, l3, l4, l5, l6] S σ = ms_G 145 302 [l0, l1, .ref a, l3, l4, l5, l6] (.ref a :: S) σ := (ms_G_at rfl _ _ _).trans rfl
theorem mi_145_302 : ms_G 145 302 [.ref a, l1, l2, l3, l4, l5, l6] S σ = ms_G 145 303 [.ref a, l1, l2, l3, l4, l5, l6] (.ref a :: S) σ := (ms_G_at rfl _ _ _).trans rfl
theorem mi_145_303 : ms_G 145 303 [l0, l1, l2, l3, .int x, l5, l6] S σ = ms_G 145 305 [l0, l1, l2, l3, .int x, l5, l6] (.int x :: S) σ := (ms_G_at rfl _ _ _).trans rfl
theorem mi_145_305 : ms_G 145 305 L S σ = ms_G 145 306 L (.int (nI 1) :: S) σ := (ms_G_at rfl _ _ _).trans rfl
theorem mi_145_306 : ms_G 145 306 L (.int y :: .int x :: S) σ = ms_G 145 307 L (.int (x + y) :: S) σ := (ms_G_at rfl _ _ _).trans rfl
theorem mi_145_307 (hi : i < q.1) (h4 : i < 5000) : ms_G 145 307 L (.int (nI i) :: .ref (ms_ad 0 0) :: S) (ms_Z q w I J) = ms_G 145 308 L (.int (I 0 0 i) :: S) (ms_Z q w I J) := mz_iald5 rfl hi h4
theorem mi_145_308 : ms_G 145 308 L [.int x0, .ref (ms_ad 40 0)] (ms_Z q w I J) = mo_cl 145 308 311 (ms_G 49 0 [.ref (ms_ad 40 0), .int x0] [] (ms_Z q false I J)) w L [] := (mz_call rfl rfl (mz_can1 rfl rfl rfl rfl rfl (by decide) rfl (by decide))).trans rfl
theorem mi_145_311 : ms_G 145 311 [l0, l1, l2, l3, l4, .int y, l6] (.int x :: S) σ = ms_G 145 313 [l0, l1, l2, l3, l4, .int y, .int x] S σ := (ms_G_at rfl _ _ _).trans rfl
theorem mi_145_313 : ms_G 145 313 [l0, l1, .ref a, l3, l4, l5, l6] S σ = ms_G 145 314 [l0, l1, .ref a, l3, l4, l5, l6] (.ref a :: S) σ := (ms_G_at rfl _ _ _).trans rfl
theorem mi_145_314 : ms_G 145 314 L [.ref (ms_ad 40 0)] (ms_Z q w I J) = mo_cl 145 314 317 (ms_G 17 0 [.ref (ms_ad 40 0)] [] (ms_Z q false I J)) w L [] := (mz_call rfl rfl (mz_can1 rfl rfl rfl rfl rfl (by decide) rfl (by decide))).trans rfl
theorem mi_145_317 : ms_G 145 317 [l0, l1, l2, l3, l4, .int x, l6] S σ = ms_G 145 319 [l0, l1, l2, l3, l4, .int x, l6] (.int x :: S) σ := (ms_G_at rfl _ _ _).trans rfl
theorem mi_145_319 : ms_G 145 319 L (.int y :: .int x :: S) σ = if x = y then ms_G 145 324 L S σ else ms_G 145 322 L S σ := mz_bra rfl rfl rfl
theorem mi_145_322 : ms_G 145 322 L S σ = ms_G 145 323 L (.int (nI 0) :: S) σ := (ms_G_at rfl _ _ _).trans rfl
theorem mi_145_323 : ms_G 145 323 L [.int (nI 0)] σ = some (.inl (some (.int (nI 0))), σ) := (ms_G_at rfl _ _ _).trans rfl
theorem mi_145_323_1 : ms_G 145 323 L [.int (nI 1)] σ = some (.inl (some (.int (nI 1))), σ) := (ms_G_at rfl _ _ _).trans rfl
theorem mi_145_323_b (B : Bool) : ms_G 145 323 L [.int (ms_b B)] σ = some (.inl (some (.int (ms_b B))), σ) := by cases B <;> exact (ms_G_at rfl _ _ _).trans rfl
theorem mi_145_324 : ms_G 145 324 [l0, l1, l2, l3, l4, .int x, l6] S σ = ms_G 145 326 [l0, l1, l2, l3, l4, .int x, l6] (.int x :: S) σ := (ms_G_at rfl _ _ _).trans rfl
theorem mi_145_326 : ms_G 145 326 L (.int x :: S) σ = if x = nI 0 then ms_G 145 329 L S σ else ms_G 145 348 L S σ := mz_bra rfl rfl rfl
theorem mi_145_329 : ms_G 145 329 [l0, l1, l2, .ref a, l4, l5, l6] S σ = ms_G 145 330 [l0, l1, l2, .ref a, l4, l5, l6] (.ref a :: S) σ := (ms_G_at rfl _ _ _).trans rfl
theorem mi_145_330 : ms_G 145 330 L S σ = ms_G 145 331 L (.int (nI 0) :: S) σ := (ms_G_at rfl _ _ _).trans rfl
theorem mi_145_331 : ms_G 145 331 L (.int (nI i) :: .ref (ms_ad r u) :: S) (ms_Z q w I J) = cond (mo_1 q.1 r u i) (ms_G 145 332 L (.long (J r u i) :: S) (ms_Z q w I J)) (ms_raw 145 331 L (.int (nI i) :: .ref (ms_ad r u) :: S) (ms_Z q w I J)) := mz_lald rfl
theorem mi_145_332 : ms_G 145 332 [l0, l1, l2, l3, l4, l5, .int x] S σ = ms_G 145 334 [l0, l1, l2, l3, l4, l5, .int x] (.int x :: S) σ := (ms_G_at rfl _ _ _).trans rfl
theorem mi_145_334 : ms_G 145 334 L (.int x :: S) σ = if x = nI 0 then ms_G 145 341 L S σ else ms_G 145 337 L S σ := mz_bra rfl rfl rfl
set_option maxRecDepth 20000 in
theorem mi_145_337 : ms_G 145 337 L S σ = ms_G 145 338 L (.long (lN 1) :: S) σ := (ms_G_at rfl _ _ _).trans rfl
set_option maxRecDepth 20000 in
theorem mi_145_338 : ms_G 145 338 L S σ = ms_G 145 342 L S σ := (ms_G_at rfl _ _ _).trans rfl
set_option maxRecDepth 20000 in
theorem mi_145_341 : ms_G 145 341 L S σ = ms_G 145 342 L (.long (lN 0) :: S) σ := (ms_G_at rfl _ _ _).trans rfl
set_option maxRecDepth 20000 in
theorem mi_145_342 : ms_G 145 342 L (.long Y :: .long X :: S) σ = ms_G 145 343 L (.int (lg_cmp X Y) :: S) σ := (ms_G_at rfl _ _ _).trans rfl
set_option maxRecDepth 20000 in
theorem mi_145_343 : ms_G 145 343 L (.int x :: S) σ = if x = nI 0 then ms_G 145 348 L S σ else ms_G 145 346 L S σ := mz_bra rfl rfl rfl
set_option maxRecDepth 20000 in
theorem mi_145_346 : ms_G 145 346 L S σ = ms_G 145 347 L (.int (nI 0) :: S) σ := (ms_G_at rfl _ _ _).trans rfl
set_option maxRecDepth 20000 in
theorem mi_145_347 : ms_G 145 347 L [.int (nI 0)] σ = some (.inl (some (.int (nI 0))), σ) := (ms_G_at rfl _ _ _).trans rfl
set_option maxRecDepth 20000 in
theorem mi_145_347_1 : ms_G 145 347 L [.int (nI 1)] σ = some (.inl (some (.int (nI 1))), σ) := (ms_G_at rfl _ _ _).trans rfl
set_option maxRecDepth 20000 in
theorem mi_145_347_b (B : Bool) : ms_G 145 347 L [.int (ms_b B)] σ = some (.inl (some (.int (ms_b B))), σ) := by cases B <;> exact (ms_G_at rfl _ _ _).trans rfl
set_option maxRecDepth 20000 in
theorem mi_145_348 : ms_G 145 348 L S σ = ms_G 145 875 L S σ := (ms_G_at rfl _ _ _).trans rfl
set_option maxRecDepth 20000 in
theorem mi_145_351 : ms_G 145 351 [l0, .ref a, l2, l3, l4, l5, l6] S σ = ms_G 145 352 [l0, .ref a, l2, l3, l4, l5, l6] (.ref a :: S) σ := (ms_G_at rfl _ _ _).trans rfl
set_option maxRecDepth 20000 in
theorem mi_145_352 : ms_G 145 352 [l0, l1, l2, .ref a, l4, l5, l6] S σ = ms_G 145 353 [l0, l1, l2, .ref a, l4, l5, l6] (.ref a :: S) σ := (ms_G_at rfl _ _ _).trans rfl
set_option maxRecDepth 20000 in
theorem mi_145_353 : ms_G 145 353 L [.ref a1, .ref a0] (ms_Z q w I J) = mo_cl 145 353 356 (ms_G 137 0 [.ref a0, .ref a1, .null] [] (ms_Z q false I J)) w L [] := (mz_call rfl rfl (mz_can0 rfl rfl rfl rfl rfl)).trans rfl
set_option maxRecDepth 20000 in
theorem mi_145_356 : ms_G 145 356 [l0, l1, l2, l3, .int y, l5, l6] (.int x :: S) σ = ms_G 145 358 [l0, l1, l2, l3, .int y, .int x, l6] S σ := (ms_G_at rfl _ _ _).trans rfl
set_option maxRecDepth 20000 in
theorem mi_145_358 : ms_G 145 358 [l0, l1, .ref a, l3, l4, l5, l6] S σ = ms_G 145 359 [l0, l1, .ref a, l3, l4, l5, l6] (.ref a :: S) σ := (ms_G_at rfl _ _ _).trans rfl
set_option maxRecDepth 20000 in
theorem mi_145_359 : ms_G 145 359 L [.ref (ms_ad 40 0)] (ms_Z q w I J) = mo_cl 145 359 362 (ms_G 60 0 [.ref (ms_ad 40 0), .null, .null] [] (ms_Z q false I J)) w L [] := (mz_call rfl rfl (mz_can1 rfl rfl rfl rfl rfl (by decide) rfl (by decide))).trans rfl
set_option maxRecDepth 20000 in
theorem mi_145_362 : ms_G 145 362 [l0, l1, l2, l3, l4, .int y, l6] (.int x :: S) σ = ms_G 145 364 [l0, l1, l2, l3, l4, .int y, .int x] S σ := (ms_G_at rfl _ _ _).trans rfl
set_option maxRecDepth 20000 in
theorem mi_145_364 : ms_G 145 364 [l0, l1, .ref a, l3, l4, l5, l6] S σ = ms_G 145 365 [l0, l1, .ref a, l3, l4, l5, l6] (.ref a :: S) σ := (ms_G_at rfl _ _ _).trans rfl
set_option maxRecDepth 20000 in
theorem mi_145_365 : ms_G 145 365 L [.ref (ms_ad 40 0)] (ms_Z q w I J) = mo_cl 145 365 368 (ms_G 17 0 [.ref (ms_ad 40 0)] [] (ms_Z q false I J)) w L [] := (mz_call rfl rfl (mz_can1 rfl rfl rfl rfl rfl (by decide) rfl (by decide))).trans rfl
set_option maxRecDepth 20000 in
theorem mi_145_368 : ms_G 145 368 [l0, l1, l2, l3, l4, .int x, l6] S σ = ms_G 145 370 [l0, l1, l2, l3, l4, .int x, l6] (.int x :: S) σ := (ms_G_at rfl _ _ _).trans rfl
set_option maxRecDepth 20000 in
theorem mi_145_370 : ms_G 145 370 L (.int y :: .int x :: S) σ = if x = y then ms_G 145 375 L S σ else ms_G 145 373 L S σ := mz_bra rfl rfl rfl
set_option maxRecDepth 20000 in
theorem mi_145_373 : ms_G 145 373 L S σ = ms_G 145 374 L (.int (nI 0) :: S) σ := (ms_G_at rfl _ _ _).trans rfl
set_option maxRecDepth 20000 in
theorem mi_145_374 : ms_G 145 374 L [.int (nI 0)] σ = some (.inl (some (.int (nI 0))), σ) := (ms_G_at rfl _ _ _).trans rfl
set_option maxRecDepth 20000 in
theorem mi_145_374_1 : ms_G 145 374 L [.int (nI 1)] σ = some (.inl (some (.int (nI 1))), σ) := (ms_G_at rfl _ _ _).trans rfl
set_option maxRecDepth 20000 in
theorem mi_145_374_b (B : Bool) : ms_G 145 374 L [.int (ms_b B)] σ = some (.inl (some (.int (ms_b B))), σ) := by cases B <;> exact (ms_G_at rfl _ _ _).trans rfl
set_option maxRecDepth 20000 in
theorem mi_145_375 : ms_G 145 375 [l0, l1, l2, l3, l4, .int x, l6] S σ = ms_G 145 377 [l0, l1, l2, l3, l4, .int x, l6] (.int x :: S) σ := (ms_G_at rfl _ _ _).trans rfl
set_option maxRecDepth 20000 in
theorem mi_145_377 : ms_G 145 377 L (.int x :: S) σ = if x = nI 0 then ms_G 145 380 L S σ else ms_G 145 392 L S σ := mz_bra rfl rfl rfl
set_option maxRecDepth 20000 in
theorem mi_145_380 : ms_G 145 380 [l0, l1, l2, .ref a, l4, l5, l6] S σ = ms_G 145 381 [l0, l1, l2, .ref a, l4, l5, l6] (.ref a :: S) σ := (ms_G_at rfl _ _ _).trans rfl
set_option maxRecDepth 20000 in
theorem mi_145_381 : ms_G 145 381 L S σ = ms_G 145 382 L (.int (nI 0) :: S) σ := (ms_G_at rfl _ _ _).trans rfl
set_option maxRecDepth 20000 in
theorem mi_145_382 : ms_G 145 382 L (.int (nI i) :: .ref (ms_ad r u) :: S) (ms_Z q w I J) = cond (mo_1 q.1 r u i) (ms_G 145 383 L (.long (J r u i) :: S) (ms_Z q w I J)) (ms_raw 145 382 L (.int (nI i) :: .ref (ms_ad r u) :: S) (ms_Z q w I J)) := mz_lald rfl
set_option maxRecDepth 20000 in
theorem mi_145_383 : ms_G 145 383 [l0, l1, l2, l3, l4, l5, .int x] S σ = ms_G 145 385 [l0, l1, l2, l3, l4, l5, .int x] (.int x :: S) σ := (ms_G_at rfl _ _ _).trans rfl
set_option maxRecDepth 20000 in
theorem mi_145_385 : ms_G 145 385 L (.int x :: S) σ = ms_G 145 386 L (.long x.toInt64 :: S) σ := (ms_G_at rfl _ _ _).trans rfl
set_option maxRecDepth 20000 in
theorem mi_145_386 : ms_G 145 386 L (.long Y :: .long X :: S) σ = ms_G 145 387 L (.int (lg_cmp X Y) :: S) σ := (ms_G_at rfl _ _ _).trans rfl
set_option maxRecDepth 20000 in
theorem mi_145_387 : ms_G 145 387 L (.int x :: S) σ = if x = nI 0 then ms_G 145 392 L S σ else ms_G 145 390 L S σ := mz_bra rfl rfl rfl
set_option maxRecDepth 20000 in
theorem mi_145_390 : ms_G 145 390 L S σ = ms_G 145 391 L (.int (nI 0) :: S) σ := (ms_G_at rfl _ _ _).trans rfl
set_option maxRecDepth 20000 in
theorem mi_145_391 : ms_G 145 391 L [.int (nI 0)] σ = some (.inl (some (.int (nI 0))), σ) := (ms_G_at rfl _ _ _).trans rfl
set_option maxRecDepth 20000 in
theorem mi_145_391_1 : ms_G 145 391 L [.int (nI 1)] σ = some (.inl (some (.int (nI 1))), σ) := (ms_G_at rfl _ _ _).trans rfl
set_option maxRecDepth 20000 in
theorem mi_145_391_b (B : Bool) : ms_G 145 391 L [.int (ms_b B)] σ = some (.inl (some (.int (ms_b B))), σ) := by cases B <;> exact (ms_G_at rfl _ _ _).trans rfl
set_option maxRecDepth 20000 in
theorem mi_145_392 : ms_G 145 392 L S σ = ms_G 145 875 L S σ := (ms_G_at rfl _ _ _).trans rfl
set_option maxRecDepth 20000 in
theorem mi_145_395 : ms_G 145 395 [l0, .ref a, l2, l3, l4, l5, l6] S σ = ms_G 145 396 [l0, .ref a, l2, l3, l4, l5, l6] (.ref a :: S) σ := (ms_G_at rfl _ _ _).trans rfl
set_option maxRecDepth 20000 in
theorem mi_145_396 : ms_G 145 396 [.ref a, l1, l2, l3, l4, l5, l6] S σ = ms_G 145 397 [.ref a, l1, l2, l3, l4, l5, l6] (.ref a :: S) σ := (ms_G_at rfl _ _ _).trans rfl
set_option maxRecDepth 20000 in
theorem mi_145_397 : ms_G 145 397 [l0, l1, l2, l3, .int x, l5, l6] S σ = ms_G 145 399 [l0, l1, l2, l3, .int x, l5, l6] (.int x :: S) σ := (ms_G_at rfl _ _ _).trans rfl
set_option maxRecDepth 20000 in
theorem mi_145_399 : ms_G 145 399 L S σ = ms_G 145 400 L (.int (nI 1) :: S) σ := (ms_G_at rfl _ _ _).trans rfl
set_option maxRecDepth 20000 in
theorem mi_145_400 : ms_G 145 400 L (.int y :: .int x :: S) σ = ms_G 145 401 L (.int (x + y) :: S) σ := (ms_G_at rfl _ _ _).trans rfl
set_option maxRecDepth 20000 in
theorem mi_145_401 (hi : i < q.1) (h4 : i < 5000) : ms_G 145 401 L (.int (nI i) :: .ref (ms_ad 0 0) :: S) (ms_Z q w I J) = ms_G 145 402 L (.int (I 0 0 i) :: S) (ms_Z q w I J) := mz_iald5 rfl hi h4
set_option maxRecDepth 20000 in
theorem mi_145_402 : ms_G 145 402 [l0, l1, l2, .ref a, l4, l5, l6] S σ = ms_G 145 403 [l0, l1, l2, .ref a, l4, l5, l6] (.ref a :: S) σ := (ms_G_at rfl _ _ _).trans rfl
set_option maxRecDepth 20000 in
theorem mi_145_403 : ms_G 145 403 L [.ref a2, .int x1, .ref a0] (ms_Z q w I J) = mo_cl 145 403 406 (ms_G 138 0 [.ref a0, .int x1, .ref a2, .null] [] (ms_Z q false I J)) w L [] := (mz_call rfl rfl (mz_can0 rfl rfl rfl rfl rfl)).trans rfl
set_option maxRecDepth 20000 in
theorem mi_145_406 : ms_G 145 406 [l0, l1, l2, l3, .int y, l5, l6] (.int x :: S) σ = ms_G 145 408 [l0, l1, l2, l3, .int y, .int x, l6] S σ := (ms_G_at rfl _ _ _).trans rfl
set_option maxRecDepth 20000 in
theorem mi_145_408 : ms_G 145 408 [l0, l1, .ref a, l3, l4, l5, l6] S σ = ms_G 145 409 [l0, l1, .ref a, l3, l4, l5, l6] (.ref a :: S) σ := (ms_G_at rfl _ _ _).trans rfl
set_option maxRecDepth 20000 in
theorem mi_145_409 : ms_G 145 409 [.ref a, l1, l2, l3, l4, l5, l6] S σ = ms_G 145 410 [.ref a, l1, l2, l3, l4, l5, l6] (.ref a :: S) σ := (ms_G_at rfl _ _ _).trans rfl
set_option maxRecDepth 20000 in
theorem mi_145_410 : ms_G 145 410 [l0, l1, l2, l3, .int x, l5, l6] S σ = ms_G 145 412 [l0, l1, l2, l3, .int x, l5, l6] (.int x :: S) σ := (ms_G_at rfl _ _ _).trans rfl
set_option maxRecDepth 20000 in
theorem mi_145_412 : ms_G 145 412 L S σ = ms_G 145 413 L (.int (nI 1) :: S) σ := (ms_G_at rfl _ _ _).trans rfl
set_option maxRecDepth 20000 in
theorem mi_145_413 : ms_G 145 413 L (.int y :: .int x :: S) σ = ms_G 145 414 L (.int (x + y) :: S) σ := (ms_G_at rfl _ _ _).trans rfl
set_option maxRecDepth 20000 in
theorem mi_145_414 (hi : i < q.1) (h4 : i < 5000) : ms_G 145 414 L (.int (nI i) :: .ref (ms_ad 0 0) :: S) (ms_Z q w I J) = ms_G 145 415 L (.int (I 0 0 i) :: S) (ms_Z q w I J) := mz_iald5 rfl hi h4
set_option maxRecDepth 20000 in
theorem mi_145_415 : ms_G 145 415 L [.int x0, .ref (ms_ad 40 0)] (ms_Z q w I J) = mo_cl 145 415 418 (ms_G 53 0 [.ref (ms_ad 40 0), .int x0, .null, .null] [] (ms_Z q false I J)) w L [] := (mz_call rfl rfl (mz_can1 rfl rfl rfl rfl rfl (by decide) rfl (by decide))).trans rfl
set_option maxRecDepth 20000 in
theorem mi_145_418 : ms_G 145 418 [l0, l1, l2, l3, l4, .int y, l6] (.int x :: S) σ = ms_G 145 420 [l0, l1, l2, l3, l4, .int y, .int x] S σ := (ms_G_at rfl _ _ _).trans rfl
set_option maxRecDepth 20000 in
theorem mi_145_420 : ms_G 145 420 [l0, l1, .ref a, l3, l4, l5, l6] S σ = ms_G 145 421 [l0, l1, .ref a, l3, l4, l5, l6] (.ref a :: S) σ := (ms_G_at rfl _ _ _).trans rfl
set_option maxRecDepth 20000 in
theorem mi_145_421 : ms_G 145 421 L [.ref (ms_ad 40 0)] (ms_Z q w I J) = mo_cl 145 421 424 (ms_G 17 0 [.ref (ms_ad 40 0)] [] (ms_Z q false I J)) w L [] := (mz_call rfl rfl (mz_can1 rfl rfl rfl rfl rfl (by decide) rfl (by decide))).trans rfl
set_option maxRecDepth 20000 in
theorem mi_145_424 : ms_G 145 424 [l0, l1, l2, l3, l4, .int x, l6] S σ = ms_G 145 426 [l0, l1, l2, l3, l4, .int x, l6] (.int x :: S) σ := (ms_G_at rfl _ _ _).trans rfl
set_option maxRecDepth 20000 in
theorem mi_145_426 : ms_G 145 426 L (.int y :: .int x :: S) σ = if x = y then ms_G 145 431 L S σ else ms_G 145 429 L S σ := mz_bra rfl rfl rfl
set_option maxRecDepth 20000 in
theorem mi_145_429 : ms_G 145 429 L S σ = ms_G 145 430 L (.int (nI 0) :: S) σ := (ms_G_at rfl _ _ _).trans rfl
set_option maxRecDepth 20000 in
theorem mi_145_430 : ms_G 145 430 L [.int (nI 0)] σ = some (.inl (some (.int (nI 0))), σ) := (ms_G_at rfl _ _ _).trans rfl
set_option maxRecDepth 20000 in
theorem mi_145_430_1 : ms_G 145 430 L [.int (nI 1)] σ = some (.inl (some (.int (nI 1))), σ) := (ms_G_at rfl _ _ _).trans rfl
set_option maxRecDepth 20000 in
theorem mi_145_430_b (B : Bool) : ms_G 145 430 L [.int (ms_b B)] σ = some (.inl (some (.int (ms_b B))), σ) := by cases B <;> exact (ms_G_at rfl _ _ _).trans rfl
set_option maxRecDepth 20000 in
theorem mi_145_431 : ms_G 145 431 [l0, l1, l2, l3, l4, .int x, l6] S σ = ms_G 145 433 [l0, l1, l2, l3, l4, .int x, l6] (.int x :: S) σ := (ms_G_at rfl _ _ _).trans rfl
set_option maxRecDepth 20000 in
theorem mi_145_433 : ms_G 145 433 L (.int x :: S) σ = if x = nI 0 then ms_G 145 436 L S σ else ms_G 145 455 L S σ := mz_bra rfl rfl rfl
set_option maxRecDepth 20000 in
theorem mi_145_436 : ms_G 145 436 [l0, l1, l2, .ref a, l4, l5, l6] S σ = ms_G 145 437 [l0, l1, l2, .ref a, l4, l5, l6] (.ref a :: S) σ := (ms_G_at rfl _ _ _).trans rfl
set_option maxRecDepth 20000 in
theorem mi_145_437 : ms_G 145 437 L S σ = ms_G 145 438 L (.int (nI 0) :: S) σ := (ms_G_at rfl _ _ _).trans rfl
set_option maxRecDepth 20000 in
theorem mi_145_438 : ms_G 145 438 L (.int (nI i) :: .ref (ms_ad r u) :: S) (ms_Z q w I J) = cond (mo_1 q.1 r u i) (ms_G 145 439 L (.long (J r u i) :: S) (ms_Z q w I J)) (ms_raw 145 438 L (.int (nI i) :: .ref (ms_ad r u) :: S) (ms_Z q w I J)) := mz_lald rfl
set_option maxRecDepth 20000 in
theorem mi_145_439 : ms_G 145 439 [l0, l1, l2, l3, l4, l5, .int x] S σ = ms_G 145 441 [l0, l1, l2, l3, l4, l5, .int x] (.int x :: S) σ := (ms_G_at rfl _ _ _).trans rfl
set_option maxRecDepth 20000 in
theorem mi_145_441 : ms_G 145 441 L (.int x :: S) σ = if x = nI 0 then ms_G 145 448 L S σ else ms_G 145 444 L S σ := mz_bra rfl rfl rfl
set_option maxRecDepth 20000 in
theorem mi_145_444 : ms_G 145 444 L S σ = ms_G 145 445 L (.long (lN 1) :: S) σ := (ms_G_at rfl _ _ _).trans rfl
set_option maxRecDepth 20000 in
theorem mi_145_445 : ms_G 145 445 L S σ = ms_G 145 449 L S σ := (ms_G_at rfl _ _ _).trans rfl
set_option maxRecDepth 20000 in
theorem mi_145_448 : ms_G 145 448 L S σ = ms_G 145 449 L (.long (lN 0) :: S) σ := (ms_G_at rfl _ _ _).trans rfl
set_option maxRecDepth 20000 in
theorem mi_145_449 : ms_G 145 449 L (.long Y :: .long X :: S) σ = ms_G 145 450 L (.int (lg_cmp X Y) :: S) σ := (ms_G_at rfl _ _ _).trans rfl
set_option maxRecDepth 20000 in
theorem mi_145_450 : ms_G 145 450 L (.int x :: S) σ = if x = nI 0 then ms_G 145 455 L S σ else ms_G 145 453 L S σ := mz_bra rfl rfl rfl
set_option maxRecDepth 20000 in
theorem mi_145_453 : ms_G 145 453 L S σ = ms_G 145 454 L (.int (nI 0) :: S) σ := (ms_G_at rfl _ _ _).trans rfl
set_option maxRecDepth 20000 in
theorem mi_145_454 : ms_G 145 454 L [.int (nI 0)] σ = some (.inl (some (.int (nI 0))), σ) := (ms_G_at rfl _ _ _).trans rfl
set_option maxRecDepth 20000 in
theorem mi_145_454_1 : ms_G 145 454 L [.int (nI 1)] σ = some (.inl (some (.int (nI 1))), σ) := (ms_G_at rfl _ _ _).trans rfl
set_option maxRecDepth 20000 in
theorem mi_145_454_b (B : Bool) : ms_G 145 454 L [.int (ms_b B)] σ = some (.inl (some (.int (ms_b B))), σ) := by cases B <;> exact (ms_G_at rfl _ _ _).trans rfl
set_option maxRecDepth 20000 in
theorem mi_145_455 : ms_G 145 455 L S σ = ms_G 145 875 L S σ := (ms_G_at rfl _ _ _).trans rfl
set_option maxRecDepth 20000 in
theorem mi_145_458 : ms_G 145 458 [l0, .ref a, l2, l3, l4, l5, l6] S σ = ms_G 145 459 [l0, .ref a, l2, l3, l4, l5, l6] (.ref a :: S) σ := (ms_G_at rfl _ _ _).trans rfl
set_option maxRecDepth 20000 in
theorem mi_145_459 : ms_G 145 459 [.ref a, l1, l2, l3, l4, l5, l6] S σ = ms_G 145 460 [.ref a, l1, l2, l3, l4, l5, l6] (.ref a :: S) σ := (ms_G_at rfl _ _ _).trans rfl
set_option maxRecDepth 20000 in
theorem mi_145_460 : ms_G 145 460 [l0, l1, l2, l3, .int x, l5, l6] S σ = ms_G 145 462 [l0, l1, l2, l3, .int x, l5, l6] (.int x :: S) σ := (ms_G_at rfl _ _ _).trans rfl
set_option maxRecDepth 20000 in
theorem mi_145_462 : ms_G 145 462 L S σ = ms_G 145 463 L (.int (nI 1) :: S) σ := (ms_G_at rfl _ _ _).trans rfl
set_option maxRecDepth 20000 in
theorem mi_145_463 : ms_G 145 463 L (.int y :: .int x :: S) σ = ms_G 145 464 L (.int (x + y) :: S) σ := (ms_G_at rfl _ _ _).trans rfl
set_option maxRecDepth 20000 in
theorem mi_145_464 (hi : i < q.1) (h4 : i < 5000) : ms_G 145 464 L (.int (nI i) :: .ref (ms_ad 0 0) :: S) (ms_Z q w I J) = ms_G 145 465 L (.int (I 0 0 i) :: S) (ms_Z q w I J) := mz_iald5 rfl hi h4
set_option maxRecDepth 20000 in
theorem mi_145_465 : ms_G 145 465 L [.int x1, .ref a0] (ms_Z q w I J) = mo_cl 145 465 468 (ms_G 139 0 [.ref a0, .int x1, .null] [] (ms_Z q false I J)) w L [] := (mz_call rfl rfl (mz_can0 rfl rfl rfl rfl rfl)).trans rfl
set_option maxRecDepth 20000 in
theorem mi_145_468 : ms_G 145 468 [l0, l1, l2, l3, .int y, l5, l6] (.int x :: S) σ = ms_G 145 470 [l0, l1, l2, l3, .int y, .int x, l6] S σ := (ms_G_at rfl _ _ _).trans rfl
set_option maxRecDepth 20000 in
theorem mi_145_470 : ms_G 145 470 [l0, l1, .ref a, l3, l4, l5, l6] S σ = ms_G 145 471 [l0, l1, .ref a, l3, l4, l5, l6] (.ref a :: S) σ := (ms_G_at rfl _ _ _).trans rfl
set_option maxRecDepth 20000 in
theorem mi_145_471 : ms_G 145 471 [.ref a, l1, l2, l3, l4, l5, l6] S σ = ms_G 145 472 [.ref a, l1, l2, l3, l4, l5, l6] (.ref a :: S) σ := (ms_G_at rfl _ _ _).trans rfl
set_option maxRecDepth 20000 in
theorem mi_145_472 : ms_G 145 472 [l0, l1, l2, l3, .int x, l5, l6] S σ = ms_G 145 474 [l0, l1, l2, l3, .int x, l5, l6] (.int x :: S) σ := (ms_G_at rfl _ _ _).trans rfl
set_option maxRecDepth 20000 in
theorem mi_145_474 : ms_G 145 474 L S σ = ms_G 145 475 L (.int (nI 1) :: S) σ := (ms_G_at rfl _ _ _).trans rfl
set_option maxRecDepth 20000 in
theorem mi_145_475 : ms_G 145 475 L (.int y :: .int x :: S) σ = ms_G 145 476 L (.int (x + y) :: S) σ := (ms_G_at rfl _ _ _).trans rfl
set_option maxRecDepth 20000 in
theorem mi_145_476 (hi : i < q.1) (h4 : i < 5000) : ms_G 145 476 L (.int (nI i) :: .ref (ms_ad 0 0) :: S) (ms_Z q w I J) = ms_G 145 477 L (.int (I 0 0 i) :: S) (ms_Z q w I J) := mz_iald5 rfl hi h4
set_option maxRecDepth 20000 in
theorem mi_145_477 : ms_G 145 477 L [.int x0, .ref (ms_ad 40 0)] (ms_Z q w I J) = mo_cl 145 477 480 (ms_G 54 0 [.ref (ms_ad 40 0), .int x0] [] (ms_Z q false I J)) w L [] := (mz_call rfl rfl (mz_can1 rfl rfl rfl rfl rfl (by decide) rfl (by decide))).trans rfl
set_option maxRecDepth 20000 in
theorem mi_145_480 : ms_G 145 480 [l0, l1, .ref a, l3, l4, l5, l6] S σ = ms_G 145 481 [l0, l1, .ref a, l3, l4, l5, l6] (.ref a :: S) σ := (ms_G_at rfl _ _ _).trans rfl
set_option maxRecDepth 20000 in
theorem mi_145_481 : ms_G 145 481 L [.ref (ms_ad 40 0)] (ms_Z q w I J) = mo_cl 145 481 484 (ms_G 17 0 [.ref (ms_ad 40 0)] [] (ms_Z q false I J)) w L [] := (mz_call rfl rfl (mz_can1 rfl rfl rfl rfl rfl (by decide) rfl (by decide))).trans rfl
set_option maxRecDepth 20000 in
theorem mi_145_484 : ms_G 145 484 [l0, l1, l2, l3, l4, .int x, l6] S σ = ms_G 145 486 [l0, l1, l2, l3, l4, .int x, l6] (.int x :: S) σ := (ms_G_at rfl _ _ _).trans rfl
set_option maxRecDepth 20000 in
theorem mi_145_486 : ms_G 145 486 L (.int y :: .int x :: S) σ = if x = y then ms_G 145 491 L S σ else ms_G 145 489 L S σ := mz_bra rfl rfl rfl
set_option maxRecDepth 20000 in
theorem mi_145_489 : ms_G 145 489 L S σ = ms_G 145 490 L (.int (nI 0) :: S) σ := (ms_G_at rfl _ _ _).trans rfl
set_option maxRecDepth 20000 in
theorem mi_145_490 : ms_G 145 490 L [.int (nI 0)] σ = some (.inl (some (.int (nI 0))), σ) := (ms_G_at rfl _ _ _).trans rfl
set_option maxRecDepth 20000 in
theorem mi_145_490_1 : ms_G 145 490 L [.int (nI 1)] σ = some (.inl (some (.int (nI 1))), σ) := (ms_G_at rfl _ _ _).trans rfl
set_option maxRecDepth 20000 in
theorem mi_145_490_b (B : Bool) : ms_G 145 490 L [.int (ms_b B)] σ = some (.inl (some (.int (ms_b B))), σ) := by cases B <;> exact (ms_G_at rfl _ _ _).trans rfl
set_option maxRecDepth 20000 in
theorem mi_145_491 : ms_G 145 491 L S σ = ms_G 145 875 L S σ := (ms_G_at rfl _ _ _).trans rfl
set_option maxRecDepth 20000 in
theorem mi_145_494 : ms_G 145 494 [l0, .ref a, l2, l3, l4, l5, l6] S σ = ms_G 145 495 [l0, .ref a, l2, l3, l4, l5, l6] (.ref a :: S) σ := (ms_G_at rfl _ _ _).trans rfl
set_option maxRecDepth 20000 in
theorem mi_145_495 : ms_G 145 495 [.ref a, l1, l2, l3, l4, l5, l6] S σ = ms_G 145 496 [.ref a, l1, l2, l3, l4, l5, l6] (.ref a :: S) σ := (ms_G_at rfl _ _ _).trans rfl
set_option maxRecDepth 20000 in
theorem mi_145_496 : ms_G 145 496 [l0, l1, l2, l3, .int x, l5, l6] S σ = ms_G 145 498 [l0, l1, l2, l3, .int x, l5, l6] (.int x :: S) σ := (ms_G_at rfl _ _ _).trans rfl
set_option maxRecDepth 20000 in
theorem mi_145_498 : ms_G 145 498 L S σ = ms_G 145 499 L (.int (nI 1) :: S) σ := (ms_G_at rfl _ _ _).trans rfl
set_option maxRecDepth 20000 in
theorem mi_145_499 : ms_G 145 499 L (.int y :: .int x :: S) σ = ms_G 145 500 L (.int (x + y) :: S) σ := (ms_G_at rfl _ _ _).trans rfl
set_option maxRecDepth 20000 in
theorem mi_145_500 (hi : i < q.1) (h4 : i < 5000) : ms_G 145 500 L (.int (nI i) :: .ref (ms_ad 0 0) :: S) (ms_Z q w I J) = ms_G 145 501 L (.int (I 0 0 i) :: S) (ms_Z q w I J) := mz_iald5 rfl hi h4
set_option maxRecDepth 20000 in
theorem mi_145_501 : ms_G 145 501 [.ref a, l1, l2, l3, l4, l5, l6] S σ = ms_G 145 502 [.ref a, l1, l2, l3, l4, l5, l6] (.ref a :: S) σ := (ms_G_at rfl _ _ _).trans rfl
set_option maxRecDepth 20000 in
theorem mi_145_502 : ms_G 145 502 [l0, l1, l2, l3, .int x, l5, l6] S σ = ms_G 145 504 [l0, l1, l2, l3, .int x, l5, l6] (.int x :: S) σ := (ms_G_at rfl _ _ _).trans rfl
set_option maxRecDepth 20000 in
theorem mi_145_504 : ms_G 145 504 L S σ = ms_G 145 505 L (.int (nI 2) :: S) σ := (ms_G_at rfl _ _ _).trans rfl
set_option maxRecDepth 20000 in
theorem mi_145_505 : ms_G 145 505 L (.int y :: .int x :: S) σ = ms_G 145 506 L (.int (x + y) :: S) σ := (ms_G_at rfl _ _ _).trans rfl
set_option maxRecDepth 20000 in
theorem mi_145_506 (hi : i < q.1) (h4 : i < 5000) : ms_G 145 506 L (.int (nI i) :: .ref (ms_ad 0 0) :: S) (ms_Z q w I J) = ms_G 145 507 L (.int (I 0 0 i) :: S) (ms_Z q w I J) := mz_iald5 rfl hi h4
set_option maxRecDepth 20000 in
theorem mi_145_507 : ms_G 145 507 [.ref a, l1, l2, l3, l4, l5, l6] S σ = ms_G 145 508 [.ref a, l1, l2, l3, l4, l5, l6] (.ref a :: S) σ := (ms_G_at rfl _ _ _).trans rfl
set_option maxRecDepth 20000 in
theorem mi_145_508 : ms_G 145 508 [l0, l1, l2, l3, .int x, l5, l6] S σ = ms_G 145 510 [l0, l1, l2, l3, .int x, l5, l6] (.int x :: S) σ := (ms_G_at rfl _ _ _).trans rfl
set_option maxRecDepth 20000 in
theorem mi_145_510 : ms_G 145 510 L S σ = ms_G 145 511 L (.int (nI 3) :: S) σ := (ms_G_at rfl _ _ _).trans rfl
set_option maxRecDepth 20000 in
theorem mi_145_511 : ms_G 145 511 L (.int y :: .int x :: S) σ = ms_G 145 512 L (.int (x + y) :: S) σ := (ms_G_at rfl _ _ _).trans rfl
set_option maxRecDepth 20000 in
theorem mi_145_512 (hi : i < q.1) (h4 : i < 5000) : ms_G 145 512 L (.int (nI i) :: .ref (ms_ad 0 0) :: S) (ms_Z q w I J) = ms_G 145 513 L (.int (I 0 0 i) :: S) (ms_Z q w I J) := mz_iald5 rfl hi h4
set_option maxRecDepth 20000 in
theorem mi_145_513 : ms_G 145 513 L [.int x3, .int x2, .int x1, .ref a0] (ms_Z q w I J) = mo_cl 145 513 516 (ms_G 140 0 [.ref a0, .int x1, .int x2, .int x3, .null] [] (ms_Z q false I J)) w L [] := (mz_call rfl rfl (mz_can0 rfl rfl rfl rfl rfl)).trans rfl
set_option maxRecDepth 20000 in
theorem mi_145_516 : ms_G 145 516 [l0, l1, l2, l3, .int y, l5, l6] (.int x :: S) σ = ms_G 145 518 [l0, l1, l2, l3, .int y, .int x, l6] S σ := (ms_G_at rfl _ _ _).trans rfl
set_option maxRecDepth 20000 in
theorem mi_145_518 : ms_G 145 518 [l0, l1, .ref a, l3, l4, l5, l6] S σ = ms_G 145 519 [l0, l1, .ref a, l3, l4, l5, l6] (.ref a :: S) σ := (ms_G_at rfl _ _ _).trans rfl
set_option maxRecDepth 20000 in
theorem mi_145_519 : ms_G 145 519 [.ref a, l1, l2, l3, l4, l5, l6] S σ = ms_G 145 520 [.ref a, l1, l2, l3, l4, l5, l6] (.ref a :: S) σ := (ms_G_at rfl _ _ _).trans rfl
set_option maxRecDepth 20000 in
theorem mi_145_520 : ms_G 145 520 [l0, l1, l2, l3, .int x, l5, l6] S σ = ms_G 145 522 [l0, l1, l2, l3, .int x, l5, l6] (.int x :: S) σ := (ms_G_at rfl _ _ _).trans rfl
set_option maxRecDepth 20000 in
theorem mi_145_522 : ms_G 145 522 L S σ = ms_G 145 523 L (.int (nI 1) :: S) σ := (ms_G_at rfl _ _ _).trans rfl
set_option maxRecDepth 20000 in
theorem mi_145_523 : ms_G 145 523 L (.int y :: .int x :: S) σ = ms_G 145 524 L (.int (x + y) :: S) σ := (ms_G_at rfl _ _ _).trans rfl
set_option maxRecDepth 20000 in
theorem mi_145_524 (hi : i < q.1) (h4 : i < 5000) : ms_G 145 524 L (.int (nI i) :: .ref (ms_ad 0 0) :: S) (ms_Z q w I J) = ms_G 145 525 L (.int (I 0 0 i) :: S) (ms_Z q w I J) := mz_iald5 rfl hi h4
set_option maxRecDepth 20000 in
theorem mi_145_525 : ms_G 145 525 [.ref a, l1, l2, l3, l4, l5, l6] S σ = ms_G 145 526 [.ref a, l1, l2, l3, l4, l5, l6] (.ref a :: S) σ := (ms_G_at rfl _ _ _).trans rfl
set_option maxRecDepth 20000 in
theorem mi_145_526 : ms_G 145 526 [l0, l1, l2, l3, .int x, l5, l6] S σ = ms_G 145 528 [l0, l1, l2, l3, .int x, l5, l6] (.int x :: S) σ := (ms_G_at rfl _ _ _).trans rfl
set_option maxRecDepth 20000 in
theorem mi_145_528 : ms_G 145 528 L S σ = ms_G 145 529 L (.int (nI 2) :: S) σ := (ms_G_at rfl _ _ _).trans rfl
set_option maxRecDepth 20000 in
theorem mi_145_529 : ms_G 145 529 L (.int y :: .int x :: S) σ = ms_G 145 530 L (.int (x + y) :: S) σ := (ms_G_at rfl _ _ _).trans rfl
set_option maxRecDepth 20000 in
theorem mi_145_530 (hi : i < q.1) (h4 : i < 5000) : ms_G 145 530 L (.int (nI i) :: .ref (ms_ad 0 0) :: S) (ms_Z q w I J) = ms_G 145 531 L (.int (I 0 0 i) :: S) (ms_Z q w I J) := mz_iald5 rfl hi h4
set_option maxRecDepth 20000 in
theorem mi_145_531 : ms_G 145 531 [.ref a, l1, l2, l3, l4, l5, l6] S σ = ms_G 145 532 [.ref a, l1, l2, l3, l4, l5, l6] (.ref a :: S) σ := (ms_G_at rfl _ _ _).trans rfl
set_option maxRecDepth 20000 in
theorem mi_145_532 : ms_G 145 532 [l0, l1, l2, l3, .int x, l5, l6] S σ = ms_G 145 534 [l0, l1, l2, l3, .int x, l5, l6] (.int x :: S) σ := (ms_G_at rfl _ _ _).trans rfl
set_option maxRecDepth 20000 in
theorem mi_145_534 : ms_G 145 534 L S σ = ms_G 145 535 L (.int (nI 3) :: S) σ := (ms_G_at rfl _ _ _).trans rfl
set_option maxRecDepth 20000 in
theorem mi_145_535 : ms_G 145 535 L (.int y :: .int x :: S) σ = ms_G 145 536 L (.int (x + y) :: S) σ := (ms_G_at rfl _ _ _).trans rfl
set_option maxRecDepth 20000 in
theorem mi_145_536 (hi : i < q.1) (h4 : i < 5000) : ms_G 145 536 L (.int (nI i) :: .ref (ms_ad 0 0) :: S) (ms_Z q w I J) = ms_G 145 537 L (.int (I 0 0 i) :: S) (ms_Z q w I J) := mz_iald5 rfl hi h4
set_option maxRecDepth 20000 in
theorem mi_145_537 : ms_G 145 537 L [.int x2, .int x1, .int x0, .ref (ms_ad 40 0)] (ms_Z q w I J) = mo_cl 145 537 540 (ms_G 55 0 [.ref (ms_ad 40 0), .int x0, .int x1, .int x2] [] (ms_Z q false I J)) w L [] := (mz_call rfl rfl (mz_can1 rfl rfl rfl rfl rfl (by decide) rfl (by decide))).trans rfl
set_option maxRecDepth 20000 in
theorem mi_145_540 : ms_G 145 540 [l0, l1, .ref a, l3, l4, l5, l6] S σ = ms_G 145 541 [l0, l1, .ref a, l3, l4, l5, l6] (.ref a :: S) σ := (ms_G_at rfl _ _ _).trans rfl
set_option maxRecDepth 20000 in
theorem mi_145_541 : ms_G 145 541 L [.ref (ms_ad 40 0)] (ms_Z q w I J) = mo_cl 145 541 544 (ms_G 17 0 [.ref (ms_ad 40 0)] [] (ms_Z q false I J)) w L [] := (mz_call rfl rfl (mz_can1 rfl rfl rfl rfl rfl (by decide) rfl (by decide))).trans rfl
set_option maxRecDepth 20000 in
theorem mi_145_544 : ms_G 145 544 [l0, l1, l2, l3, l4, .int x, l6] S σ = ms_G 145 546 [l0, l1, l2, l3, l4, .int x, l6] (.int x :: S) σ := (ms_G_at rfl _ _ _).trans rfl
set_option maxRecDepth 20000 in
theorem mi_145_546 : ms_G 145 546 L (.int y :: .int x :: S) σ = if x = y then ms_G 145 551 L S σ else ms_G 145 549 L S σ := mz_bra rfl rfl rfl
set_option maxRecDepth 20000 in
theorem mi_145_549 : ms_G 145 549 L S σ = ms_G 145 550 L (.int (nI 0) :: S) σ := (ms_G_at rfl _ _ _).trans rfl
set_option maxRecDepth 20000 in
theorem mi_145_550 : ms_G 145 550 L [.int (nI 0)] σ = some (.inl (some (.int (nI 0))), σ) := (ms_G_at rfl _ _ _).trans rfl
set_option maxRecDepth 20000 in
theorem mi_145_550_1 : ms_G 145 550 L [.int (nI 1)] σ = some (.inl (some (.int (nI 1))), σ) := (ms_G_at rfl _ _ _).trans rfl
set_option maxRecDepth 20000 in
theorem mi_145_550_b (B : Bool) : ms_G 145 550 L [.int (ms_b B)] σ = some (.inl (some (.int (ms_b B))), σ) := by cases B <;> exact (ms_G_at rfl _ _ _).trans rfl
set_option maxRecDepth 20000 in
theorem mi_145_551 : ms_G 145 551 L S σ = ms_G 145 875 L S σ := (ms_G_at rfl _ _ _).trans rfl
set_option maxRecDepth 20000 in
theorem mi_145_554 : ms_G 145 554 [l0, .ref a, l2, l3, l4, l5, l6] S σ = ms_G 145 555 [l0, .ref a, l2, l3, l4, l5, l6] (.ref a :: S) σ := (ms_G_at rfl _ _ _).trans rfl
set_option maxRecDepth 20000 in
theorem mi_145_555 : ms_G 145 555 [.ref a, l1, l2, l3, l4, l5, l6] S σ = ms_G 145 556 [.ref a, l1, l2, l3, l4, l5, l6] (.ref a :: S) σ := (ms_G_at rfl _ _ _).trans rfl
set_option maxRecDepth 20000 in
theorem mi_145_556 : ms_G 145 556 [l0, l1, l2, l3, .int x, l5, l6] S σ = ms_G 145 558 [l0, l1, l2, l3, .int x, l5, l6] (.int x :: S) σ := (ms_G_at rfl _ _ _).trans rfl
set_option maxRecDepth 20000 in
theorem mi_145_558 : ms_G 145 558 L S σ = ms_G 145 559 L (.int (nI 1) :: S) σ := (ms_G_at rfl _ _ _).trans rfl
set_option maxRecDepth 20000 in
theorem mi_145_559 : ms_G 145 559 L (.int y :: .int x :: S) σ = ms_G 145 560 L (.int (x + y) :: S) σ := (ms_G_at rfl _ _ _).trans rfl
set_option maxRecDepth 20000 in
theorem mi_145_560 (hi : i < q.1) (h4 : i < 5000) : ms_G 145 560 L (.int (nI i) :: .ref (ms_ad 0 0) :: S) (ms_Z q w I J) = ms_G 145 561 L (.int (I 0 0 i) :: S) (ms_Z q w I J) := mz_iald5 rfl hi h4
set_option maxRecDepth 20000 in
theorem mi_145_561 : ms_G 145 561 [.ref a, l1, l2, l3, l4, l5, l6] S σ = ms_G 145 562 [.ref a, l1, l2, l3, l4, l5, l6] (.ref a :: S) σ := (ms_G_at rfl _ _ _).trans rfl
set_option maxRecDepth 20000 in
theorem mi_145_562 : ms_G 145 562 [l0, l1, l2, l3, .int x, l5, l6] S σ = ms_G 145 564 [l0, l1, l2, l3, .int x, l5, l6] (.int x :: S) σ := (ms_G_at rfl _ _ _).trans rfl
set_option maxRecDepth 20000 in
theorem mi_145_564 : ms_G 145 564 L S σ = ms_G 145 565 L (.int (nI 2) :: S) σ := (ms_G_at rfl _ _ _).trans rfl
set_option maxRecDepth 20000 in
theorem mi_145_565 : ms_G 145 565 L (.int y :: .int x :: S) σ = ms_G 145 566 L (.int (x + y) :: S) σ := (ms_G_at rfl _ _ _).trans rfl
set_option maxRecDepth 20000 in
theorem mi_145_566 (hi : i < q.1) (h4 : i < 5000) : ms_G 145 566 L (.int (nI i) :: .ref (ms_ad 0 0) :: S) (ms_Z q w I J) = ms_G 145 567 L (.int (I 0 0 i) :: S) (ms_Z q w I J) := mz_iald5 rfl hi h4
set_option maxRecDepth 20000 in
theorem mi_145_567 : ms_G 145 567 [l0, l1, l2, .ref a, l4, l5, l6] S σ = ms_G 145 568 [l0, l1, l2, .ref a, l4, l5, l6] (.ref a :: S) σ := (ms_G_at rfl _ _ _).trans rfl
set_option maxRecDepth 20000 in
theorem mi_145_568 : ms_G 145 568 L [.ref a3, .int x2, .int x1, .ref a0] (ms_Z q w I J) = mo_cl 145 568 571 (ms_G 141 0 [.ref a0, .int x1, .int x2, .ref a3, .null] [] (ms_Z q false I J)) w L [] := (mz_call rfl rfl (mz_can0 rfl rfl rfl rfl rfl)).trans rfl
set_option maxRecDepth 20000 in
theorem mi_145_571 : ms_G 145 571 [l0, l1, l2, l3, .int y, l5, l6] (.int x :: S) σ = ms_G 145 573 [l0, l1, l2, l3, .int y, .int x, l6] S σ := (ms_G_at rfl _ _ _).trans rfl
set_option maxRecDepth 20000 in
theorem mi_145_573 : ms_G 145 573 [l0, l1, .ref a, l3, l4, l5, l6] S σ = ms_G 145 574 [l0, l1, .ref a, l3, l4, l5, l6] (.ref a :: S) σ := (ms_G_at rfl _ _ _).trans rfl
set_option maxRecDepth 20000 in
theorem mi_145_574 : ms_G 145 574 [.ref a, l1, l2, l3, l4, l5, l6] S σ = ms_G 145 575 [.ref a, l1, l2, l3, l4, l5, l6] (.ref a :: S) σ := (ms_G_at rfl _ _ _).trans rfl
set_option maxRecDepth 20000 in
theorem mi_145_575 : ms_G 145 575 [l0, l1, l2, l3, .int x, l5, l6] S σ = ms_G 145 577 [l0, l1, l2, l3, .int x, l5, l6] (.int x :: S) σ := (ms_G_at rfl _ _ _).trans rfl
set_option maxRecDepth 20000 in
theorem mi_145_577 : ms_G 145 577 L S σ = ms_G 145 578 L (.int (nI 1) :: S) σ := (ms_G_at rfl _ _ _).trans rfl
set_option maxRecDepth 20000 in
theorem mi_145_578 : ms_G 145 578 L (.int y :: .int x :: S) σ = ms_G 145 579 L (.int (x + y) :: S) σ := (ms_G_at rfl _ _ _).trans rfl
set_option maxRecDepth 20000 in
theorem mi_145_579 (hi : i < q.1) (h4 : i < 5000) : ms_G 145 579 L (.int (nI i) :: .ref (ms_ad 0 0) :: S) (ms_Z q w I J) = ms_G 145 580 L (.int (I 0 0 i) :: S) (ms_Z q w I J) := mz_iald5 rfl hi h4
set_option maxRecDepth 20000 in
theorem mi_145_580 : ms_G 145 580 [.ref a, l1, l2, l3, l4, l5, l6] S σ = ms_G 145 581 [.ref a, l1, l2, l3, l4, l5, l6] (.ref a :: S) σ := (ms_G_at rfl _ _ _).trans rfl
set_option maxRecDepth 20000 in
theorem mi_145_581 : ms_G 145 581 [l0, l1, l2, l3, .int x, l5, l6] S σ = ms_G 145 583 [l0, l1, l2, l3, .int x, l5, l6] (.int x :: S) σ := (ms_G_at rfl _ _ _).trans rfl
set_option maxRecDepth 20000 in
theorem mi_145_583 : ms_G 145 583 L S σ = ms_G 145 584 L (.int (nI 2) :: S) σ := (ms_G_at rfl _ _ _).trans rfl
set_option maxRecDepth 20000 in
theorem mi_145_584 : ms_G 145 584 L (.int y :: .int x :: S) σ = ms_G 145 585 L (.int (x + y) :: S) σ := (ms_G_at rfl _ _ _).trans rfl
set_option maxRecDepth 20000 in
theorem mi_145_585 (hi : i < q.1) (h4 : i < 5000) : ms_G 145 585 L (.int (nI i) :: .ref (ms_ad 0 0) :: S) (ms_Z q w I J) = ms_G 145 586 L (.int (I 0 0 i) :: S) (ms_Z q w I J) := mz_iald5 rfl hi h4
set_option maxRecDepth 20000 in
theorem mi_145_586 : ms_G 145 586 L [.int x1, .int x0, .ref (ms_ad 40 0)] (ms_Z q w I J) = mo_cl 145 586 589 (ms_G 56 0 [.ref (ms_ad 40 0), .int x0, .int x1] [] (ms_Z q false I J)) w L [] := (mz_call rfl rfl (mz_can1 rfl rfl rfl rfl rfl (by decide) rfl (by decide))).trans rfl
set_option maxRecDepth 20000 in
theorem mi_145_589 : ms_G 145 589 [l0, l1, l2, l3, l4, .int y, l6] (.int x :: S) σ = ms_G 145 591 [l0, l1, l2, l3, l4, .int y, .int x] S σ := (ms_G_at rfl _ _ _).trans rfl
set_option maxRecDepth 20000 in
theorem mi_145_591 : ms_G 145 591 [l0, l1, .ref a, l3, l4, l5, l6] S σ = ms_G 145 592 [l0, l1, .ref a, l3, l4, l5, l6] (.ref a :: S) σ := (ms_G_at rfl _ _ _).trans rfl
set_option maxRecDepth 20000 in
theorem mi_145_592 : ms_G 145 592 L [.ref (ms_ad 40 0)] (ms_Z q w I J) = mo_cl 145 592 595 (ms_G 17 0 [.ref (ms_ad 40 0)] [] (ms_Z q false I J)) w L [] := (mz_call rfl rfl (mz_can1 rfl rfl rfl rfl rfl (by decide) rfl (by decide))).trans rfl
set_option maxRecDepth 20000 in
theorem mi_145_595 : ms_G 145 595 [l0, l1, l2, l3, l4, .int x, l6] S σ = ms_G 145 597 [l0, l1, l2, l3, l4, .int x, l6] (.int x :: S) σ := (ms_G_at rfl _ _ _).trans rfl
set_option maxRecDepth 20000 in
theorem mi_145_597 : ms_G 145 597 L (.int y :: .int x :: S) σ = if x = y then ms_G 145 602 L S σ else ms_G 145 600 L S σ := mz_bra rfl rfl rfl
set_option maxRecDepth 20000 in
theorem mi_145_600 : ms_G 145 600 L S σ = ms_G 145 601 L (.int (nI 0) :: S) σ := (ms_G_at rfl _ _ _).trans rfl
set_option maxRecDepth 20000 in
theorem mi_145_601 : ms_G 145 601 L [.int (nI 0)] σ = some (.inl (some (.int (nI 0))), σ) := (ms_G_at rfl _ _ _).trans rfl
set_option maxRecDepth 20000 in
theorem mi_145_601_1 : ms_G 145 601 L [.int (nI 1)] σ = some (.inl (some (.int (nI 1))), σ) := (ms_G_at rfl _ _ _).trans rfl
set_option maxRecDepth 20000 in
theorem mi_145_601_b (B : Bool) : ms_G 145 601 L [.int (ms_b B)] σ = some (.inl (some (.int (ms_b B))), σ) := by cases B <;> exact (ms_G_at rfl _ _ _).trans rfl
set_option maxRecDepth 20000 in
theorem mi_145_602 : ms_G 145 602 [l0, l1, l2, l3, l4, .int x, l6] S σ = ms_G 145 604 [l0, l1, l2, l3, l4, .int x, l6] (.int x :: S) σ := (ms_G_at rfl _ _ _).trans rfl
set_option maxRecDepth 20000 in
theorem mi_145_604 : ms_G 145 604 L (.int x :: S) σ = if x = nI 0 then ms_G 145 607 L S σ else ms_G 145 619 L S σ := mz_bra rfl rfl rfl
set_option maxRecDepth 20000 in
theorem mi_145_607 : ms_G 145 607 [l0, l1, l2, .ref a, l4, l5, l6] S σ = ms_G 145 608 [l0, l1, l2, .ref a, l4, l5, l6] (.ref a :: S) σ := (ms_G_at rfl _ _ _).trans rfl
set_option maxRecDepth 20000 in
theorem mi_145_608 : ms_G 145 608 L S σ = ms_G 145 609 L (.int (nI 0) :: S) σ := (ms_G_at rfl _ _ _).trans rfl
set_option maxRecDepth 20000 in
theorem mi_145_609 : ms_G 145 609 L (.int (nI i) :: .ref (ms_ad r u) :: S) (ms_Z q w I J) = cond (mo_1 q.1 r u i) (ms_G 145 610 L (.long (J r u i) :: S) (ms_Z q w I J)) (ms_raw 145 609 L (.int (nI i) :: .ref (ms_ad r u) :: S) (ms_Z q w I J)) := mz_lald rfl
set_option maxRecDepth 20000 in
theorem mi_145_610 : ms_G 145 610 [l0, l1, l2, l3, l4, l5, .int x] S σ = ms_G 145 612 [l0, l1, l2, l3, l4, l5, .int x] (.int x :: S) σ := (ms_G_at rfl _ _ _).trans rfl
set_option maxRecDepth 20000 in
theorem mi_145_612 : ms_G 145 612 L (.int x :: S) σ = ms_G 145 613 L (.long x.toInt64 :: S) σ := (ms_G_at rfl _ _ _).trans rfl
set_option maxRecDepth 20000 in
theorem mi_145_613 : ms_G 145 613 L (.long Y :: .long X :: S) σ = ms_G 145 614 L (.int (lg_cmp X Y) :: S) σ := (ms_G_at rfl _ _ _).trans rfl
set_option maxRecDepth 20000 in
theorem mi_145_614 : ms_G 145 614 L (.int x :: S) σ = if x = nI 0 then ms_G 145 619 L S σ else ms_G 145 617 L S σ := mz_bra rfl rfl rfl
set_option maxRecDepth 20000 in
theorem mi_145_617 : ms_G 145 617 L S σ = ms_G 145 618 L (.int (nI 0) :: S) σ := (ms_G_at rfl _ _ _).trans rfl
set_option maxRecDepth 20000 in
theorem mi_145_618 : ms_G 145 618 L [.int (nI 0)] σ = some (.inl (some (.int (nI 0))), σ) := (ms_G_at rfl _ _ _).trans rfl
set_option maxRecDepth 20000 in
theorem mi_145_618_1 : ms_G 145 618 L [.int (nI 1)] σ = some (.inl (some (.int (nI 1))), σ) := (ms_G_at rfl _ _ _).trans rfl
set_option maxRecDepth 20000 in
theorem mi_145_618_b (B : Bool) : ms_G 145 618 L [.int (ms_b B)] σ = some (.inl (some (.int (ms_b B))), σ) := by cases B <;> exact (ms_G_at rfl _ _ _).trans rfl
set_option maxRecDepth 20000 in
theorem mi_145_619 : ms_G 145 619 L S σ = ms_G 145 875 L S σ := (ms_G_at rfl _ _ _).trans rfl
set_option maxRecDepth 20000 in
theorem mi_145_622 : ms_G 145 622 [l0, .ref a, l2, l3, l4, l5, l6] S σ = ms_G 145 623 [l0, .ref a, l2, l3, l4, l5, l6] (.ref a :: S) σ := (ms_G_at rfl _ _ _).trans rfl
set_option maxRecDepth 20000 in
theorem mi_145_623 : ms_G 145 623 [.ref a, l1, l2, l3, l4, l5, l6] S σ = ms_G 145 624 [.ref a, l1, l2, l3, l4, l5, l6] (.ref a :: S) σ := (ms_G_at rfl _ _ _).trans rfl
set_option maxRecDepth 20000 in
theorem mi_145_624 : ms_G 145 624 [l0, l1, l2, l3, .int x, l5, l6] S σ = ms_G 145 626 [l0, l1, l2, l3, .int x, l5, l6] (.int x :: S) σ := (ms_G_at rfl _ _ _).trans rfl
set_option maxRecDepth 20000 in
theorem mi_145_626 : ms_G 145 626 L S σ = ms_G 145 627 L (.int (nI 1) :: S) σ := (ms_G_at rfl _ _ _).trans rfl
set_option maxRecDepth 20000 in
theorem mi_145_627 : ms_G 145 627 L (.int y :: .int x :: S) σ = ms_G 145 628 L (.int (x + y) :: S) σ := (ms_G_at rfl _ _ _).trans rfl
set_option maxRecDepth 20000 in
theorem mi_145_628 (hi : i < q.1) (h4 : i < 5000) : ms_G 145 628 L (.int (nI i) :: .ref (ms_ad 0 0) :: S) (ms_Z q w I J) = ms_G 145 629 L (.int (I 0 0 i) :: S) (ms_Z q w I J) := mz_iald5 rfl hi h4
set_option maxRecDepth 20000 in
theorem mi_145_629 : ms_G 145 629 [l0, l1, l2, .ref a, l4, l5, l6] S σ = ms_G 145 630 [l0, l1, l2, .ref a, l4, l5, l6] (.ref a :: S) σ := (ms_G_at rfl _ _ _).trans rfl
set_option maxRecDepth 20000 in
theorem mi_145_630 : ms_G 145 630 L [.ref a2, .int x1, .ref a0] (ms_Z q w I J) = mo_cl 145 630 633 (ms_G 142 0 [.ref a0, .int x1, .ref a2, .null] [] (ms_Z q false I J)) w L [] := (mz_call rfl rfl (mz_can0 rfl rfl rfl rfl rfl)).trans rfl
set_option maxRecDepth 20000 in
theorem mi_145_633 : ms_G 145 633 [l0, l1, l2, l3, .int y, l5, l6] (.int x :: S) σ = ms_G 145 635 [l0, l1, l2, l3, .int y, .int x, l6] S σ := (ms_G_at rfl _ _ _).trans rfl
set_option maxRecDepth 20000 in
theorem mi_145_635 : ms_G 145 635 [l0, l1, .ref a, l3, l4, l5, l6] S σ = ms_G 145 636 [l0, l1, .ref a, l3, l4, l5, l6] (.ref a :: S) σ := (ms_G_at rfl _ _ _).trans rfl
set_option maxRecDepth 20000 in
theorem mi_145_636 : ms_G 145 636 [.ref a, l1, l2, l3, l4, l5, l6] S σ = ms_G 145 637 [.ref a, l1, l2, l3, l4, l5, l6] (.ref a :: S) σ := (ms_G_at rfl _ _ _).trans rfl
set_option maxRecDepth 20000 in
theorem mi_145_637 : ms_G 145 637 [l0, l1, l2, l3, .int x, l5, l6] S σ = ms_G 145 639 [l0, l1, l2, l3, .int x, l5, l6] (.int x :: S) σ := (ms_G_at rfl _ _ _).trans rfl
set_option maxRecDepth 20000 in
theorem mi_145_639 : ms_G 145 639 L S σ = ms_G 145 640 L (.int (nI 1) :: S) σ := (ms_G_at rfl _ _ _).trans rfl
set_option maxRecDepth 20000 in
theorem mi_145_640 : ms_G 145 640 L (.int y :: .int x :: S) σ = ms_G 145 641 L (.int (x + y) :: S) σ := (ms_G_at rfl _ _ _).trans rfl
set_option maxRecDepth 20000 in
theorem mi_145_641 (hi : i < q.1) (h4 : i < 5000) : ms_G 145 641 L (.int (nI i) :: .ref (ms_ad 0 0) :: S) (ms_Z q w I J) = ms_G 145 642 L (.int (I 0 0 i) :: S) (ms_Z q w I J) := mz_iald5 rfl hi h4
set_option maxRecDepth 20000 in
theorem mi_145_642 : ms_G 145 642 L [.int x0, .ref (ms_ad 40 0)] (ms_Z q w I J) = mo_cl 145 642 645 (ms_G 61 0 [.ref (ms_ad 40 0), .int x0] [] (ms_Z q false I J)) w L [] := (mz_call rfl rfl (mz_can1 rfl rfl rfl rfl rfl (by decide) rfl (by decide))).trans rfl
set_option maxRecDepth 20000 in
theorem mi_145_645 : ms_G 145 645 [l0, l1, l2, l3, l4, .int y, l6] (.int x :: S) σ = ms_G 145 647 [l0, l1, l2, l3, l4, .int y, .int x] S σ := (ms_G_at rfl _ _ _).trans rfl
set_option maxRecDepth 20000 in
theorem mi_145_647 : ms_G 145 647 [l0, l1, .ref a, l3, l4, l5, l6] S σ = ms_G 145 648 [l0, l1, .ref a, l3, l4, l5, l6] (.ref a :: S) σ := (ms_G_at rfl _ _ _).trans rfl
set_option maxRecDepth 20000 in
theorem mi_145_648 : ms_G 145 648 L [.ref (ms_ad 40 0)] (ms_Z q w I J) = mo_cl 145 648 651 (ms_G 17 0 [.ref (ms_ad 40 0)] [] (ms_Z q false I J)) w L [] := (mz_call rfl rfl (mz_can1 rfl rfl rfl rfl rfl (by decide) rfl (by decide))).trans rfl
set_option maxRecDepth 20000 in
theorem mi_145_651 : ms_G 145 651 [l0, l1, l2, l3, l4, .int x, l6] S σ = ms_G 145 653 [l0, l1, l2, l3, l4, .int x, l6] (.int x :: S) σ := (ms_G_at rfl _ _ _).trans rfl
set_option maxRecDepth 20000 in
theorem mi_145_653 : ms_G 145 653 L (.int y :: .int x :: S) σ = if x = y then ms_G 145 658 L S σ else ms_G 145 656 L S σ := mz_bra rfl rfl rfl
set_option maxRecDepth 20000 in
theorem mi_145_656 : ms_G 145 656 L S σ = ms_G 145 657 L (.int (nI 0) :: S) σ := (ms_G_at rfl _ _ _).trans rfl
set_option maxRecDepth 20000 in
theorem mi_145_657 : ms_G 145 657 L [.int (nI 0)] σ = some (.inl (some (.int (nI 0))), σ) := (ms_G_at rfl _ _ _).trans rfl
set_option maxRecDepth 20000 in
theorem mi_145_657_1 : ms_G 145 657 L [.int (nI 1)] σ = some (.inl (some (.int (nI 1))), σ) := (ms_G_at rfl _ _ _).trans rfl
set_option maxRecDepth 20000 in
theorem mi_145_657_b (B : Bool) : ms_G 145 657 L [.int (ms_b B)] σ = some (.inl (some (.int (ms_b B))), σ) := by cases B <;> exact (ms_G_at rfl _ _ _).trans rfl
set_option maxRecDepth 20000 in
theorem mi_145_658 : ms_G 145 658 [l0, l1, l2, l3, l4, .int x, l6] S σ = ms_G 145 660 [l0, l1, l2, l3, l4, .int x, l6] (.int x :: S) σ := (ms_G_at rfl _ _ _).trans rfl
set_option maxRecDepth 20000 in
theorem mi_145_660 : ms_G 145 660 L (.int x :: S) σ = if x = nI 0 then ms_G 145 663 L S σ else ms_G 145 675 L S σ := mz_bra rfl rfl rfl
set_option maxRecDepth 20000 in
theorem mi_145_663 : ms_G 145 663 [l0, l1, l2, .ref a, l4, l5, l6] S σ = ms_G 145 664 [l0, l1, l2, .ref a, l4, l5, l6] (.ref a :: S) σ := (ms_G_at rfl _ _ _).trans rfl
set_option maxRecDepth 20000 in
theorem mi_145_664 : ms_G 145 664 L S σ = ms_G 145 665 L (.int (nI 0) :: S) σ := (ms_G_at rfl _ _ _).trans rfl
set_option maxRecDepth 20000 in
theorem mi_145_665 : ms_G 145 665 L (.int (nI i) :: .ref (ms_ad r u) :: S) (ms_Z q w I J) = cond (mo_1 q.1 r u i) (ms_G 145 666 L (.long (J r u i) :: S) (ms_Z q w I J)) (ms_raw 145 665 L (.int (nI i) :: .ref (ms_ad r u) :: S) (ms_Z q w I J)) := mz_lald rfl
set_option maxRecDepth 20000 in
theorem mi_145_666 : ms_G 145 666 [l0, l1, l2, l3, l4, l5, .int x] S σ = ms_G 145 668 [l0, l1, l2, l3, l4, l5, .int x] (.int x :: S) σ := (ms_G_at rfl _ _ _).trans rfl
set_option maxRecDepth 20000 in
theorem mi_145_668 : ms_G 145 668 L (.int x :: S) σ = ms_G 145 669 L (.long x.toInt64 :: S) σ := (ms_G_at rfl _ _ _).trans rfl
set_option maxRecDepth 20000 in
theorem mi_145_669 : ms_G 145 669 L (.long Y :: .long X :: S) σ = ms_G 145 670 L (.int (lg_cmp X Y) :: S) σ := (ms_G_at rfl _ _ _).trans rfl
set_option maxRecDepth 20000 in
theorem mi_145_670 : ms_G 145 670 L (.int x :: S) σ = if x = nI 0 then ms_G 145 675 L S σ else ms_G 145 673 L S σ := mz_bra rfl rfl rfl
set_option maxRecDepth 20000 in
theorem mi_145_673 : ms_G 145 673 L S σ = ms_G 145 674 L (.int (nI 0) :: S) σ := (ms_G_at rfl _ _ _).trans rfl
set_option maxRecDepth 20000 in
theorem mi_145_674 : ms_G 145 674 L [.int (nI 0)] σ = some (.inl (some (.int (nI 0))), σ) := (ms_G_at rfl _ _ _).trans rfl
set_option maxRecDepth 20000 in
theorem mi_145_674_1 : ms_G 145 674 L [.int (nI 1)] σ = some (.inl (some (.int (nI 1))), σ) := (ms_G_at rfl _ _ _).trans rfl
set_option maxRecDepth 20000 in
theorem mi_145_674_b (B : Bool) : ms_G 145 674 L [.int (ms_b B)] σ = some (.inl (some (.int (ms_b B))), σ) := by cases B <;> exact (ms_G_at rfl _ _ _).trans rfl
set_option maxRecDepth 20000 in
theorem mi_145_675 : ms_G 145 675 L S σ = ms_G 145 875 L S σ := (ms_G_at rfl _ _ _).trans rfl
set_option maxRecDepth 20000 in
theorem mi_145_678 : ms_G 145 678 [l0, .ref a, l2, l3, l4, l5, l6] S σ = ms_G 145 679 [l0, .ref a, l2, l3, l4, l5, l6] (.ref a :: S) σ := (ms_G_at rfl _ _ _).trans rfl
set_option maxRecDepth 20000 in
theorem mi_145_679 : ms_G 145 679 [.ref a, l1, l2, l3, l4, l5, l6] S σ = ms_G 145 680 [.ref a, l1, l2, l3, l4, l5, l6] (.ref a :: S) σ := (ms_G_at rfl _ _ _).trans rfl
set_option maxRecDepth 20000 in
theorem mi_145_680 : ms_G 145 680 [l0, l1, l2, l3, .int x, l5, l6] S σ = ms_G 145 682 [l0, l1, l2, l3, .int x, l5, l6] (.int x :: S) σ := (ms_G_at rfl _ _ _).trans rfl
set_option maxRecDepth 20000 in
theorem mi_145_682 : ms_G 145 682 L S σ = ms_G 145 683 L (.int (nI 1) :: S) σ := (ms_G_at rfl _ _ _).trans rfl
set_option maxRecDepth 20000 in
theorem mi_145_683 : ms_G 145 683 L (.int y :: .int x :: S) σ = ms_G 145 684 L (.int (x + y) :: S) σ := (ms_G_at rfl _ _ _).trans rfl
set_option maxRecDepth 20000 in
theorem mi_145_684 (hi : i < q.1) (h4 : i < 5000) : ms_G 145 684 L (.int (nI i) :: .ref (ms_ad 0 0) :: S) (ms_Z q w I J) = ms_G 145 685 L (.int (I 0 0 i) :: S) (ms_Z q w I J) := mz_iald5 rfl hi h4
set_option maxRecDepth 20000 in
theorem mi_145_685 : ms_G 145 685 [.ref a, l1, l2, l3, l4, l5, l6] S σ = ms_G 145 686 [.ref a, l1, l2, l3, l4, l5, l6] (.ref a :: S) σ := (ms_G_at rfl _ _ _).trans rfl
set_option maxRecDepth 20000 in
theorem mi_145_686 : ms_G 145 686 [l0, l1, l2, l3, .int x, l5, l6] S σ = ms_G 145 688 [l0, l1, l2, l3, .int x, l5, l6] (.int x :: S) σ := (ms_G_at rfl _ _ _).trans rfl
set_option maxRecDepth 20000 in
theorem mi_145_688 : ms_G 145 688 L S σ = ms_G 145 689 L (.int (nI 2) :: S) σ := (ms_G_at rfl _ _ _).trans rfl
set_option maxRecDepth 20000 in
theorem mi_145_689 : ms_G 145 689 L (.int y :: .int x :: S) σ = ms_G 145 690 L (.int (x + y) :: S) σ := (ms_G_at rfl _ _ _).trans rfl
set_option maxRecDepth 20000 in
theorem mi_145_690 (hi : i < q.1) (h4 : i < 5000) : ms_G 145 690 L (.int (nI i) :: .ref (ms_ad 0 0) :: S) (ms_Z q w I J) = ms_G 145 691 L (.int (I 0 0 i) :: S) (ms_Z q w I J) := mz_iald5 rfl hi h4
set_option maxRecDepth 20000 in
theorem mi_145_691 : ms_G 145 691 [l0, l1, l2, .ref a, l4, l5, l6] S σ = ms_G 145 692 [l0, l1, l2, .ref a, l4, l5, l6] (.ref a :: S) σ := (ms_G_at rfl _ _ _).trans rfl
set_option maxRecDepth 20000 in
theorem mi_145_692 : ms_G 145 692 L [.ref a3, .int x2, .int x1, .ref a0] (ms_Z q w I J) = mo_cl 145 692 695 (ms_G 143 0 [.ref a0, .int x1, .int x2, .ref a3, .null] [] (ms_Z q false I J)) w L [] := (mz_call rfl rfl (mz_can0 rfl rfl rfl rfl rfl)).trans rfl
set_option maxRecDepth 20000 in
theorem mi_145_695 : ms_G 145 695 [l0, l1, l2, l3, .int y, l5, l6] (.int x :: S) σ = ms_G 145 697 [l0, l1, l2, l3, .int y, .int x, l6] S σ := (ms_G_at rfl _ _ _).trans rfl
set_option maxRecDepth 20000 in
theorem mi_145_697 : ms_G 145 697 [l0, l1, .ref a, l3, l4, l5, l6] S σ = ms_G 145 698 [l0, l1, .ref a, l3, l4, l5, l6] (.ref a :: S) σ := (ms_G_at rfl _ _ _).trans rfl
set_option maxRecDepth 20000 in
theorem mi_145_698 : ms_G 145 698 [.ref a, l1, l2, l3, l4, l5, l6] S σ = ms_G 145 699 [.ref a, l1, l2, l3, l4, l5, l6] (.ref a :: S) σ := (ms_G_at rfl _ _ _).trans rfl
set_option maxRecDepth 20000 in
theorem mi_145_699 : ms_G 145 699 [l0, l1, l2, l3, .int x, l5, l6] S σ = ms_G 145 701 [l0, l1, l2, l3, .int x, l5, l6] (.int x :: S) σ := (ms_G_at rfl _ _ _).trans rfl
set_option maxRecDepth 20000 in
theorem mi_145_701 : ms_G 145 701 L S σ = ms_G 145 702 L (.int (nI 1) :: S) σ := (ms_G_at rfl _ _ _).trans rfl
set_option maxRecDepth 20000 in
theorem mi_145_702 : ms_G 145 702 L (.int y :: .int x :: S) σ = ms_G 145 703 L (.int (x + y) :: S) σ := (ms_G_at rfl _ _ _).trans rfl
set_option maxRecDepth 20000 in
theorem mi_145_703 (hi : i < q.1) (h4 : i < 5000) : ms_G 145 703 L (.int (nI i) :: .ref (ms_ad 0 0) :: S) (ms_Z q w I J) = ms_G 145 704 L (.int (I 0 0 i) :: S) (ms_Z q w I J) := mz_iald5 rfl hi h4
set_option maxRecDepth 20000 in
theorem mi_145_704 : ms_G 145 704 [.ref a, l1, l2, l3, l4, l5, l6] S σ = ms_G 145 705 [.ref a, l1, l2, l3, l4, l5, l6] (.ref a :: S) σ := (ms_G_at rfl _ _ _).trans rfl
set_option maxRecDepth 20000 in
theorem mi_145_705 : ms_G 145 705 [l0, l1, l2, l3, .int x, l5, l6] S σ = ms_G 145 707 [l0, l1, l2, l3, .int x, l5, l6] (.int x :: S) σ := (ms_G_at rfl _ _ _).trans rfl
set_option maxRecDepth 20000 in
theorem mi_145_707 : ms_G 145 707 L S σ = ms_G 145 708 L (.int (nI 2) :: S) σ := (ms_G_at rfl _ _ _).trans rfl
set_option maxRecDepth 20000 in
theorem mi_145_708 : ms_G 145 708 L (.int y :: .int x :: S) σ = ms_G 145 709 L (.int (x + y) :: S) σ := (ms_G_at rfl _ _ _).trans rfl
set_option maxRecDepth 20000 in
theorem mi_145_709 (hi : i < q.1) (h4 : i < 5000) : ms_G 145 709 L (.int (nI i) :: .ref (ms_ad 0 0) :: S) (ms_Z q w I J) = ms_G 145 710 L (.int (I 0 0 i) :: S) (ms_Z q w I J) := mz_iald5 rfl hi h4
set_option maxRecDepth 20000 in
theorem mi_145_710 : ms_G 145 710 L [.int x1, .int x0, .ref (ms_ad 40 0)] (ms_Z q w I J) = mo_cl 145 710 713 (ms_G 62 0 [.ref (ms_ad 40 0), .int x0, .int x1] [] (ms_Z q false I J)) w L [] := (mz_call rfl rfl (mz_can1 rfl rfl rfl rfl rfl (by decide) rfl (by decide))).trans rfl
set_option maxRecDepth 20000 in
theorem mi_145_713 : ms_G 145 713 [l0, l1, l2, l3, l4, .int y, l6] (.int x :: S) σ = ms_G 145 715 [l0, l1, l2, l3, l4, .int y, .int x] S σ := (ms_G_at rfl _ _ _).trans rfl
set_option maxRecDepth 20000 in
theorem mi_145_715 : ms_G 145 715 [l0, l1, .ref a, l3, l4, l5, l6] S σ = ms_G 145 716 [l0, l1, .ref a, l3, l4, l5, l6] (.ref a :: S) σ := (ms_G_at rfl _ _ _).trans rfl
set_option maxRecDepth 20000 in
theorem mi_145_716 : ms_G 145 716 L [.ref (ms_ad 40 0)] (ms_Z q w I J) = mo_cl 145 716 719 (ms_G 17 0 [.ref (ms_ad 40 0)] [] (ms_Z q false I J)) w L [] := (mz_call rfl rfl (mz_can1 rfl rfl rfl rfl rfl (by decide) rfl (by decide))).trans rfl
set_option maxRecDepth 20000 in
theorem mi_145_719 : ms_G 145 719 [l0, l1, l2, l3, l4, .int x, l6] S σ = ms_G 145 721 [l0, l1, l2, l3, l4, .int x, l6] (.int x :: S) σ := (ms_G_at rfl _ _ _).trans rfl
set_option maxRecDepth 20000 in
theorem mi_145_721 : ms_G 145 721 L (.int y :: .int x :: S) σ = if x = y then ms_G 145 726 L S σ else ms_G 145 724 L S σ := mz_bra rfl rfl rfl
set_option maxRecDepth 20000 in
theorem mi_145_724 : ms_G 145 724 L S σ = ms_G 145 725 L (.int (nI 0) :: S) σ := (ms_G_at rfl _ _ _).trans rfl
set_option maxRecDepth 20000 in
theorem mi_145_725 : ms_G 145 725 L [.int (nI 0)] σ = some (.inl (some (.int (nI 0))), σ) := (ms_G_at rfl _ _ _).trans rfl
set_option maxRecDepth 20000 in
theorem mi_145_725_1 : ms_G 145 725 L [.int (nI 1)] σ = some (.inl (some (.int (nI 1))), σ) := (ms_G_at rfl _ _ _).trans rfl
set_option maxRecDepth 20000 in
theorem mi_145_725_b (B : Bool) : ms_G 145 725 L [.int (ms_b B)] σ = some (.inl (some (.int (ms_b B))), σ) := by cases B <;> exact (ms_G_at rfl _ _ _).trans rfl
set_option maxRecDepth 20000 in
theorem mi_145_726 : ms_G 145 726 [l0, l1, l2, l3, l4, .int x, l6] S σ = ms_G 145 728 [l0, l1, l2, l3, l4, .int x, l6] (.int x :: S) σ := (ms_G_at rfl _ _ _).trans rfl
set_option maxRecDepth 20000 in
theorem mi_145_728 : ms_G 145 728 L (.int x :: S) σ = if x = nI 0 then ms_G 145 731 L S σ else ms_G 145 743 L S σ := mz_bra rfl rfl rfl
set_option maxRecDepth 20000 in
theorem mi_145_731 : ms_G 145 731 [l0, l1, l2, .ref a, l4, l5, l6] S σ = ms_G 145 732 [l0, l1, l2, .ref a, l4, l5, l6] (.ref a :: S) σ := (ms_G_at rfl _ _ _).trans rfl
set_option maxRecDepth 20000 in
theorem mi_145_732 : ms_G 145 732 L S σ = ms_G 145 733 L (.int (nI 0) :: S) σ := (ms_G_at rfl _ _ _).trans rfl
set_option maxRecDepth 20000 in
theorem mi_145_733 : ms_G 145 733 L (.int (nI i) :: .ref (ms_ad r u) :: S) (ms_Z q w I J) = cond (mo_1 q.1 r u i) (ms_G 145 734 L (.long (J r u i) :: S) (ms_Z q w I J)) (ms_raw 145 733 L (.int (nI i) :: .ref (ms_ad r u) :: S) (ms_Z q w I J)) := mz_lald rfl
set_option maxRecDepth 20000 in
theorem mi_145_734 : ms_G 145 734 [l0, l1, l2, l3, l4, l5, .int x] S σ = ms_G 145 736 [l0, l1, l2, l3, l4, l5, .int x] (.int x :: S) σ := (ms_G_at rfl _ _ _).trans rfl
set_option maxRecDepth 20000 in
theorem mi_145_736 : ms_G 145 736 L (.int x :: S) σ = ms_G 145 737 L (.long x.toInt64 :: S) σ := (ms_G_at rfl _ _ _).trans rfl
set_option maxRecDepth 20000 in
theorem mi_145_737 : ms_G 145 737 L (.long Y :: .long X :: S) σ = ms_G 145 738 L (.int (lg_cmp X Y) :: S) σ := (ms_G_at rfl _ _ _).trans rfl
set_option maxRecDepth 20000 in
theorem mi_145_738 : ms_G 145 738 L (.int x :: S) σ = if x = nI 0 then ms_G 145 743 L S σ else ms_G 145 741 L S σ := mz_bra rfl rfl rfl
set_option maxRecDepth 20000 in
theorem mi_145_741 : ms_G 145 741 L S σ = ms_G 145 742 L (.int (nI 0) :: S) σ := (ms_G_at rfl _ _ _).trans rfl
set_option maxRecDepth 20000 in
theorem mi_145_742 : ms_G 145 742 L [.int (nI 0)] σ = some (.inl (some (.int (nI 0))), σ) := (ms_G_at rfl _ _ _).trans rfl
set_option maxRecDepth 20000 in
theorem mi_145_742_1 : ms_G 145 742 L [.int (nI 1)] σ = some (.inl (some (.int (nI 1))), σ) := (ms_G_at rfl _ _ _).trans rfl
set_option maxRecDepth 20000 in
theorem mi_145_742_b (B : Bool) : ms_G 145 742 L [.int (ms_b B)] σ = some (.inl (some (.int (ms_b B))), σ) := by cases B <;> exact (ms_G_at rfl _ _ _).trans rfl
set_option maxRecDepth 20000 in
theorem mi_145_743 : ms_G 145 743 L S σ = ms_G 145 875 L S σ := (ms_G_at rfl _ _ _).trans rfl
set_option maxRecDepth 20000 in
theorem mi_145_746 : ms_G 145 746 [l0, .ref a, l2, l3, l4, l5, l6] S σ = ms_G 145 747 [l0, .ref a, l2, l3, l4, l5, l6] (.ref a :: S) σ := (ms_G_at rfl _ _ _).trans rfl
set_option maxRecDepth 20000 in
theorem mi_145_747 : ms_G 145 747 [.ref a, l1, l2, l3, l4, l5, l6] S σ = ms_G 145 748 [.ref a, l1, l2, l3, l4, l5, l6] (.ref a :: S) σ := (ms_G_at rfl _ _ _).trans rfl
set_option maxRecDepth 20000 in
theorem mi_145_748 : ms_G 145 748 [l0, l1, l2, l3, .int x, l5, l6] S σ = ms_G 145 750 [l0, l1, l2, l3, .int x, l5, l6] (.int x :: S) σ := (ms_G_at rfl _ _ _).trans rfl
set_option maxRecDepth 20000 in
theorem mi_145_750 : ms_G 145 750 L S σ = ms_G 145 751 L (.int (nI 1) :: S) σ := (ms_G_at rfl _ _ _).trans rfl
set_option maxRecDepth 20000 in
theorem mi_145_751 : ms_G 145 751 L (.int y :: .int x :: S) σ = ms_G 145 752 L (.int (x + y) :: S) σ := (ms_G_at rfl _ _ _).trans rfl
set_option maxRecDepth 20000 in
theorem mi_145_752 (hi : i < q.1) (h4 : i < 5000) : ms_G 145 752 L (.int (nI i) :: .ref (ms_ad 0 0) :: S) (ms_Z q w I J) = ms_G 145 753 L (.int (I 0 0 i) :: S) (ms_Z q w I J) := mz_iald5 rfl hi h4
set_option maxRecDepth 20000 in
theorem mi_145_753 : ms_G 145 753 L [.int x0, .ref (ms_ad 3 0)] (ms_Z q w I J) = mo_cl 145 753 756 (ms_G 12 0 [.ref (ms_ad 3 0), .int x0] [] (ms_Z q false I J)) w L [] := (mz_call rfl rfl (mz_can1 rfl rfl rfl rfl rfl (by decide) rfl (by decide))).trans rfl
set_option maxRecDepth 20000 in
theorem mi_145_756 : ms_G 145 756 [l0, l1, .ref a, l3, l4, l5, l6] S σ = ms_G 145 757 [l0, l1, .ref a, l3, l4, l5, l6] (.ref a :: S) σ := (ms_G_at rfl _ _ _).trans rfl
set_option maxRecDepth 20000 in
theorem mi_145_757 : ms_G 145 757 [.ref a, l1, l2, l3, l4, l5, l6] S σ = ms_G 145 758 [.ref a, l1, l2, l3, l4, l5, l6] (.ref a :: S) σ := (ms_G_at rfl _ _ _).trans rfl
set_option maxRecDepth 20000 in
theorem mi_145_758 : ms_G 145 758 [l0, l1, l2, l3, .int x, l5, l6] S σ = ms_G 145 760 [l0, l1, l2, l3, .int x, l5, l6] (.int x :: S) σ := (ms_G_at rfl _ _ _).trans rfl
set_option maxRecDepth 20000 in
theorem mi_145_760 : ms_G 145 760 L S σ = ms_G 145 761 L (.int (nI 1) :: S) σ := (ms_G_at rfl _ _ _).trans rfl
set_option maxRecDepth 20000 in
theorem mi_145_761 : ms_G 145 761 L (.int y :: .int x :: S) σ = ms_G 145 762 L (.int (x + y) :: S) σ := (ms_G_at rfl _ _ _).trans rfl
set_option maxRecDepth 20000 in
theorem mi_145_762 (hi : i < q.1) (h4 : i < 5000) : ms_G 145 762 L (.int (nI i) :: .ref (ms_ad 0 0) :: S) (ms_Z q w I J) = ms_G 145 763 L (.int (I 0 0 i) :: S) (ms_Z q w I J) := mz_iald5 rfl hi h4
set_option maxRecDepth 20000 in
theorem mi_145_763 : ms_G 145 763 L (.int x0 :: .ref (ms_ad 40 0) :: [.int e0]) (ms_Z q w I J) = mo_cl 145 763 766 (ms_G 63 0 [.ref (ms_ad 40 0), .int x0] [] (ms_Z q false I J)) w L [.int e0] := (mz_call rfl rfl (mz_can1 rfl rfl rfl rfl rfl (by decide) rfl (by decide))).trans rfl
set_option maxRecDepth 20000 in
theorem mi_145_766 : ms_G 145 766 L (.int y :: .int x :: S) σ = if x = y then ms_G 145 875 L S σ else ms_G 145 769 L S σ := mz_bra rfl rfl rfl
set_option maxRecDepth 20000 in
theorem mi_145_769 : ms_G 145 769 L S σ = ms_G 145 770 L (.int (nI 0) :: S) σ := (ms_G_at rfl _ _ _).trans rfl
set_option maxRecDepth 20000 in
theorem mi_145_770 : ms_G 145 770 L [.int (nI 0)] σ = some (.inl (some (.int (nI 0))), σ) := (ms_G_at rfl _ _ _).trans rfl
set_option maxRecDepth 20000 in
theorem mi_145_770_1 : ms_G 145 770 L [.int (nI 1)] σ = some (.inl (some (.int (nI 1))), σ) := (ms_G_at rfl _ _ _).trans rfl
set_option maxRecDepth 20000 in
theorem mi_145_770_b (B : Bool) : ms_G 145 770 L [.int (ms_b B)] σ = some (.inl (some (.int (ms_b B))), σ) := by cases B <;> exact (ms_G_at rfl _ _ _).trans rfl
set_option maxRecDepth 20000 in
theorem mi_145_771 : ms_G 145 771 [l0, .ref a, l2, l3, l4, l5, l6] S σ = ms_G 145 772 [l0, .ref a, l2, l3, l4, l5, l6] (.ref a :: S) σ := (ms_G_at rfl _ _ _).trans rfl
set_option maxRecDepth 20000 in
theorem mi_145_772 : ms_G 145 772 [.ref a, l1, l2, l3, l4, l5, l6] S σ = ms_G 145 773 [.ref a, l1, l2, l3, l4, l5, l6] (.ref a :: S) σ := (ms_G_at rfl _ _ _).trans rfl
set_option maxRecDepth 20000 in
theorem mi_145_773 : ms_G 145 773 [l0, l1, l2, l3, .int x, l5, l6] S σ = ms_G 145 775 [l0, l1, l2, l3, .int x, l5, l6] (.int x :: S) σ := (ms_G_at rfl _ _ _).trans rfl
set_option maxRecDepth 20000 in
theorem mi_145_775 : ms_G 145 775 L S σ = ms_G 145 776 L (.int (nI 1) :: S) σ := (ms_G_at rfl _ _ _).trans rfl
set_option maxRecDepth 20000 in
theorem mi_145_776 : ms_G 145 776 L (.int y :: .int x :: S) σ = ms_G 145 777 L (.int (x + y) :: S) σ := (ms_G_at rfl _ _ _).trans rfl
set_option maxRecDepth 20000 in
theorem mi_145_777 (hi : i < q.1) (h4 : i < 5000) : ms_G 145 777 L (.int (nI i) :: .ref (ms_ad 0 0) :: S) (ms_Z q w I J) = ms_G 145 778 L (.int (I 0 0 i) :: S) (ms_Z q w I J) := mz_iald5 rfl hi h4
set_option maxRecDepth 20000 in
theorem mi_145_778 : ms_G 145 778 [.ref a, l1, l2, l3, l4, l5, l6] S σ = ms_G 145 779 [.ref a, l1, l2, l3, l4, l5, l6] (.ref a :: S) σ := (ms_G_at rfl _ _ _).trans rfl
set_option maxRecDepth 20000 in
theorem mi_145_779 : ms_G 145 779 [l0, l1, l2, l3, .int x, l5, l6] S σ = ms_G 145 781 [l0, l1, l2, l3, .int x, l5, l6] (.int x :: S) σ := (ms_G_at rfl _ _ _).trans rfl
set_option maxRecDepth 20000 in
theorem mi_145_781 : ms_G 145 781 L S σ = ms_G 145 782 L (.int (nI 2) :: S) σ := (ms_G_at rfl _ _ _).trans rfl
set_option maxRecDepth 20000 in
theorem mi_145_782 : ms_G 145 782 L (.int y :: .int x :: S) σ = ms_G 145 783 L (.int (x + y) :: S) σ := (ms_G_at rfl _ _ _).trans rfl
set_option maxRecDepth 20000 in
theorem mi_145_783 (hi : i < q.1) (h4 : i < 5000) : ms_G 145 783 L (.int (nI i) :: .ref (ms_ad 0 0) :: S) (ms_Z q w I J) = ms_G 145 784 L (.int (I 0 0 i) :: S) (ms_Z q w I J) := mz_iald5 rfl hi h4
set_option maxRecDepth 20000 in
theorem mi_145_784 : ms_G 145 784 [.ref a, l1, l2, l3, l4, l5, l6] S σ = ms_G 145 785 [.ref a, l1, l2, l3, l4, l5, l6] (.ref a :: S) σ := (ms_G_at rfl _ _ _).trans rfl
set_option maxRecDepth 20000 in
theorem mi_145_785 : ms_G 145 785 [l0, l1, l2, l3, .int x, l5, l6] S σ = ms_G 145 787 [l0, l1, l2, l3, .int x, l5, l6] (.int x :: S) σ := (ms_G_at rfl _ _ _).trans rfl
set_option maxRecDepth 20000 in
theorem mi_145_787 : ms_G 145 787 L S σ = ms_G 145 788 L (.int (nI 3) :: S) σ := (ms_G_at rfl _ _ _).trans rfl
set_option maxRecDepth 20000 in
theorem mi_145_788 : ms_G 145 788 L (.int y :: .int x :: S) σ = ms_G 145 789 L (.int (x + y) :: S) σ := (ms_G_at rfl _ _ _).trans rfl
set_option maxRecDepth 20000 in
theorem mi_145_789 (hi : i < q.1) (h4 : i < 5000) : ms_G 145 789 L (.int (nI i) :: .ref (ms_ad 0 0) :: S) (ms_Z q w I J) = ms_G 145 790 L (.int (I 0 0 i) :: S) (ms_Z q w I J) := mz_iald5 rfl hi h4
set_option maxRecDepth 20000 in
theorem mi_145_790 : ms_G 145 790 [.ref a, l1, l2, l3, l4, l5, l6] S σ = ms_G 145 791 [.ref a, l1, l2, l3, l4, l5, l6] (.ref a :: S) σ := (ms_G_at rfl _ _ _).trans rfl
set_option maxRecDepth 20000 in
theorem mi_145_791 : ms_G 145 791 [l0, l1, l2, l3, .int x, l5, l6] S σ = ms_G 145 793 [l0, l1, l2, l3, .int x, l5, l6] (.int x :: S) σ := (ms_G_at rfl _ _ _).trans rfl
set_option maxRecDepth 20000 in
theorem mi_145_793 : ms_G 145 793 L S σ = ms_G 145 794 L (.int (nI 4) :: S) σ := (ms_G_at rfl _ _ _).trans rfl
set_option maxRecDepth 20000 in
theorem mi_145_794 : ms_G 145 794 L (.int y :: .int x :: S) σ = ms_G 145 795 L (.int (x + y) :: S) σ := (ms_G_at rfl _ _ _).trans rfl
set_option maxRecDepth 20000 in
theorem mi_145_795 (hi : i < q.1) (h4 : i < 5000) : ms_G 145 795 L (.int (nI i) :: .ref (ms_ad 0 0) :: S) (ms_Z q w I J) = ms_G 145 796 L (.int (I 0 0 i) :: S) (ms_Z q w I J) := mz_iald5 rfl hi h4
set_option maxRecDepth 20000 in
theorem mi_145_796 : ms_G 145 796 [.ref a, l1, l2, l3, l4, l5, l6] S σ = ms_G 145 797 [.ref a, l1, l2, l3, l4, l5, l6] (.ref a :: S) σ := (ms_G_at rfl _ _ _).trans rfl
set_option maxRecDepth 20000 in
theorem mi_145_797 : ms_G 145 797 [l0, l1, l2, l3, .int x, l5, l6] S σ = ms_G 145 799 [l0, l1, l2, l3, .int x, l5, l6] (.int x :: S) σ := (ms_G_at rfl _ _ _).trans rfl
set_option maxRecDepth 20000 in
theorem mi_145_799 : ms_G 145 799 L S σ = ms_G 145 800 L (.int (nI 5) :: S) σ := (ms_G_at rfl _ _ _).trans rfl
set_option maxRecDepth 20000 in
theorem mi_145_800 : ms_G 145 800 L (.int y :: .int x :: S) σ = ms_G 145 801 L (.int (x + y) :: S) σ := (ms_G_at rfl _ _ _).trans rfl
set_option maxRecDepth 20000 in
theorem mi_145_801 (hi : i < q.1) (h4 : i < 5000) : ms_G 145 801 L (.int (nI i) :: .ref (ms_ad 0 0) :: S) (ms_Z q w I J) = ms_G 145 802 L (.int (I 0 0 i) :: S) (ms_Z q w I J) := mz_iald5 rfl hi h4
set_option maxRecDepth 20000 in
theorem mi_145_802 : ms_G 145 802 [l0, l1, l2, .ref a, l4, l5, l6] S σ = ms_G 145 803 [l0, l1, l2, .ref a, l4, l5, l6] (.ref a :: S) σ := (ms_G_at rfl _ _ _).trans rfl
set_option maxRecDepth 20000 in
theorem mi_145_803 : ms_G 145 803 L [.ref a6, .int x5, .int x4, .int x3, .int x2, .int x1, .ref a0] (ms_Z q w I J) = mo_cl 145 803 806 (ms_G 144 0 [.ref a0, .int x1, .int x2, .int x3, .int x4, .int x5, .ref a6, .null] [] (ms_Z q false I J)) w L [] := (mz_call rfl rfl (mz_can0 rfl rfl rfl rfl rfl)).trans rfl
set_option maxRecDepth 20000 in
theorem mi_145_806 : ms_G 145 806 [l0, l1, l2, l3, .int y, l5, l6] (.int x :: S) σ = ms_G 145 808 [l0, l1, l2, l3, .int y, .int x, l6] S σ := (ms_G_at rfl _ _ _).trans rfl
set_option maxRecDepth 20000 in
theorem mi_145_808 : ms_G 145 808 [l0, l1, .ref a, l3, l4, l5, l6] S σ = ms_G 145 809 [l0, l1, .ref a, l3, l4, l5, l6] (.ref a :: S) σ := (ms_G_at rfl _ _ _).trans rfl
set_option maxRecDepth 20000 in
theorem mi_145_809 : ms_G 145 809 [.ref a, l1, l2, l3, l4, l5, l6] S σ = ms_G 145 810 [.ref a, l1, l2, l3, l4, l5, l6] (.ref a :: S) σ := (ms_G_at rfl _ _ _).trans rfl
set_option maxRecDepth 20000 in
theorem mi_145_810 : ms_G 145 810 [l0, l1, l2, l3, .int x, l5, l6] S σ = ms_G 145 812 [l0, l1, l2, l3, .int x, l5, l6] (.int x :: S) σ := (ms_G_at rfl _ _ _).trans rfl
set_option maxRecDepth 20000 in
theorem mi_145_812 : ms_G 145 812 L S σ = ms_G 145 813 L (.int (nI 1) :: S) σ := (ms_G_at rfl _ _ _).trans rfl
set_option maxRecDepth 20000 in
theorem mi_145_813 : ms_G 145 813 L (.int y :: .int x :: S) σ = ms_G 145 814 L (.int (x + y) :: S) σ := (ms_G_at rfl _ _ _).trans rfl
set_option maxRecDepth 20000 in
theorem mi_145_814 (hi : i < q.1) (h4 : i < 5000) : ms_G 145 814 L (.int (nI i) :: .ref (ms_ad 0 0) :: S) (ms_Z q w I J) = ms_G 145 815 L (.int (I 0 0 i) :: S) (ms_Z q w I J) := mz_iald5 rfl hi h4
set_option maxRecDepth 20000 in
theorem mi_145_815 : ms_G 145 815 [.ref a, l1, l2, l3, l4, l5, l6] S σ = ms_G 145 816 [.ref a, l1, l2, l3, l4, l5, l6] (.ref a :: S) σ := (ms_G_at rfl _ _ _).trans rfl
set_option maxRecDepth 20000 in
theorem mi_145_816 : ms_G 145 816 [l0, l1, l2, l3, .int x, l5, l6] S σ = ms_G 145 818 [l0, l1, l2, l3, .int x, l5, l6] (.int x :: S) σ := (ms_G_at rfl _ _ _).trans rfl
set_option maxRecDepth 20000 in
theorem mi_145_818 : ms_G 145 818 L S σ = ms_G 145 819 L (.int (nI 2) :: S) σ := (ms_G_at rfl _ _ _).trans rfl
set_option maxRecDepth 20000 in
theorem mi_145_819 : ms_G 145 819 L (.int y :: .int x :: S) σ = ms_G 145 820 L (.int (x + y) :: S) σ := (ms_G_at rfl _ _ _).trans rfl
set_option maxRecDepth 20000 in
theorem mi_145_820 (hi : i < q.1) (h4 : i < 5000) : ms_G 145 820 L (.int (nI i) :: .ref (ms_ad 0 0) :: S) (ms_Z q w I J) = ms_G 145 821 L (.int (I 0 0 i) :: S) (ms_Z q w I J) := mz_iald5 rfl hi h4
set_option maxRecDepth 20000 in
theorem mi_145_821 : ms_G 145 821 [.ref a, l1, l2, l3, l4, l5, l6] S σ = ms_G 145 822 [.ref a, l1, l2, l3, l4, l5, l6] (.ref a :: S) σ := (ms_G_at rfl _ _ _).trans rfl
set_option maxRecDepth 20000 in
theorem mi_145_822 : ms_G 145 822 [l0, l1, l2, l3, .int x, l5, l6] S σ = ms_G 145 824 [l0, l1, l2, l3, .int x, l5, l6] (.int x :: S) σ := (ms_G_at rfl _ _ _).trans rfl
set_option maxRecDepth 20000 in
theorem mi_145_824 : ms_G 145 824 L S σ = ms_G 145 825 L (.int (nI 3) :: S) σ := (ms_G_at rfl _ _ _).trans rfl
set_option maxRecDepth 20000 in
theorem mi_145_825 : ms_G 145 825 L (.int y :: .int x :: S) σ = ms_G 145 826 L (.int (x + y) :: S) σ := (ms_G_at rfl _ _ _).trans rfl
set_option maxRecDepth 20000 in
theorem mi_145_826 (hi : i < q.1) (h4 : i < 5000) : ms_G 145 826 L (.int (nI i) :: .ref (ms_ad 0 0) :: S) (ms_Z q w I J) = ms_G 145 827 L (.int (I 0 0 i) :: S) (ms_Z q w I J) := mz_iald5 rfl hi h4
set_option maxRecDepth 20000 in
theorem mi_145_827 : ms_G 145 827 [.ref a, l1, l2, l3, l4, l5, l6] S σ = ms_G 145 828 [.ref a, l1, l2, l3, l4, l5, l6] (.ref a :: S) σ := (ms_G_at rfl _ _ _).trans rfl
set_option maxRecDepth 20000 in
theorem mi_145_828 : ms_G 145 828 [l0, l1, l2, l3, .int x, l5, l6] S σ = ms_G 145 830 [l0, l1, l2, l3, .int x, l5, l6] (.int x :: S) σ := (ms_G_at rfl _ _ _).trans rfl
set_option maxRecDepth 20000 in
theorem mi_145_830 : ms_G 145 830 L S σ = ms_G 145 831 L (.int (nI 4) :: S) σ := (ms_G_at rfl _ _ _).trans rfl
set_option maxRecDepth 20000 in
theorem mi_145_831 : ms_G 145 831 L (.int y :: .int x :: S) σ = ms_G 145 832 L (.int (x + y) :: S) σ := (ms_G_at rfl _ _ _).trans rfl
set_option maxRecDepth 20000 in
theorem mi_145_832 (hi : i < q.1) (h4 : i < 5000) : ms_G 145 832 L (.int (nI i) :: .ref (ms_ad 0 0) :: S) (ms_Z q w I J) = ms_G 145 833 L (.int (I 0 0 i) :: S) (ms_Z q w I J) := mz_iald5 rfl hi h4
set_option maxRecDepth 20000 in
theorem mi_145_833 : ms_G 145 833 [.ref a, l1, l2, l3, l4, l5, l6] S σ = ms_G 145 834 [.ref a, l1, l2, l3, l4, l5, l6] (.ref a :: S) σ := (ms_G_at rfl _ _ _).trans rfl
set_option maxRecDepth 20000 in
theorem mi_145_834 : ms_G 145 834 [l0, l1, l2, l3, .int x, l5, l6] S σ = ms_G 145 836 [l0, l1, l2, l3, .int x, l5, l6] (.int x :: S) σ := (ms_G_at rfl _ _ _).trans rfl
set_option maxRecDepth 20000 in
theorem mi_145_836 : ms_G 145 836 L S σ = ms_G 145 837 L (.int (nI 5) :: S) σ := (ms_G_at rfl _ _ _).trans rfl
set_option maxRecDepth 20000 in
theorem mi_145_837 : ms_G 145 837 L (.int y :: .int x :: S) σ = ms_G 145 838 L (.int (x + y) :: S) σ := (ms_G_at rfl _ _ _).trans rfl
set_option maxRecDepth 20000 in
theorem mi_145_838 (hi : i < q.1) (h4 : i < 5000) : ms_G 145 838 L (.int (nI i) :: .ref (ms_ad 0 0) :: S) (ms_Z q w I J) = ms_G 145 839 L (.int (I 0 0 i) :: S) (ms_Z q w I J) := mz_iald5 rfl hi h4
set_option maxRecDepth 20000 in
theorem mi_145_839 : ms_G 145 839 L [.int x4, .int x3, .int x2, .int x1, .int x0, .ref (ms_ad 40 0)] (ms_Z q w I J) = mo_cl 145 839 842 (ms_G 64 0 [.ref (ms_ad 40 0), .int x0, .int x1, .int x2, .int x3, .int x4] [] (ms_Z q false I J)) w L [] := (mz_call rfl rfl (mz_can1 rfl rfl rfl rfl rfl (by decide) rfl (by decide))).trans rfl
set_option maxRecDepth 20000 in
theorem mi_145_842 : ms_G 145 842 [l0, l1, l2, l3, l4, .int y, l6] (.int x :: S) σ = ms_G 145 844 [l0, l1, l2, l3, l4, .int y, .int x] S σ := (ms_G_at rfl _ _ _).trans rfl
set_option maxRecDepth 20000 in
theorem mi_145_844 : ms_G 145 844 [l0, l1, .ref a, l3, l4, l5, l6] S σ = ms_G 145 845 [l0, l1, .ref a, l3, l4, l5, l6] (.ref a :: S) σ := (ms_G_at rfl _ _ _).trans rfl
set_option maxRecDepth 20000 in
theorem mi_145_845 : ms_G 145 845 L [.ref (ms_ad 40 0)] (ms_Z q w I J) = mo_cl 145 845 848 (ms_G 17 0 [.ref (ms_ad 40 0)] [] (ms_Z q false I J)) w L [] := (mz_call rfl rfl (mz_can1 rfl rfl rfl rfl rfl (by decide) rfl (by decide))).trans rfl
set_option maxRecDepth 20000 in
theorem mi_145_848 : ms_G 145 848 [l0, l1, l2, l3, l4, .int x, l6] S σ = ms_G 145 850 [l0, l1, l2, l3, l4, .int x, l6] (.int x :: S) σ := (ms_G_at rfl _ _ _).trans rfl
set_option maxRecDepth 20000 in
theorem mi_145_850 : ms_G 145 850 L (.int y :: .int x :: S) σ = if x = y then ms_G 145 855 L S σ else ms_G 145 853 L S σ := mz_bra rfl rfl rfl
set_option maxRecDepth 20000 in
theorem mi_145_853 : ms_G 145 853 L S σ = ms_G 145 854 L (.int (nI 0) :: S) σ := (ms_G_at rfl _ _ _).trans rfl
set_option maxRecDepth 20000 in
theorem mi_145_854 : ms_G 145 854 L [.int (nI 0)] σ = some (.inl (some (.int (nI 0))), σ) := (ms_G_at rfl _ _ _).trans rfl
set_option maxRecDepth 20000 in
theorem mi_145_854_1 : ms_G 145 854 L [.int (nI 1)] σ = some (.inl (some (.int (nI 1))), σ) := (ms_G_at rfl _ _ _).trans rfl
set_option maxRecDepth 20000 in
theorem mi_145_854_b (B : Bool) : ms_G 145 854 L [.int (ms_b B)] σ = some (.inl (some (.int (ms_b B))), σ) := by cases B <;> exact (ms_G_at rfl _ _ _).trans rfl
set_option maxRecDepth 20000 in
theorem mi_145_855 : ms_G 145 855 [l0, l1, l2, l3, l4, .int x, l6] S σ = ms_G 145 857 [l0, l1, l2, l3, l4, .int x, l6] (.int x :: S) σ := (ms_G_at rfl _ _ _).trans rfl
set_option maxRecDepth 20000 in
theorem mi_145_857 : ms_G 145 857 L (.int x :: S) σ = if x = nI 0 then ms_G 145 860 L S σ else ms_G 145 872 L S σ := mz_bra rfl rfl rfl
set_option maxRecDepth 20000 in
theorem mi_145_860 : ms_G 145 860 [l0, l1, l2, .ref a, l4, l5, l6] S σ = ms_G 145 861 [l0, l1, l2, .ref a, l4, l5, l6] (.ref a :: S) σ := (ms_G_at rfl _ _ _).trans rfl
set_option maxRecDepth 20000 in
theorem mi_145_861 : ms_G 145 861 L S σ = ms_G 145 862 L (.int (nI 0) :: S) σ := (ms_G_at rfl _ _ _).trans rfl
set_option maxRecDepth 20000 in
theorem mi_145_862 : ms_G 145 862 L (.int (nI i) :: .ref (ms_ad r u) :: S) (ms_Z q w I J) = cond (mo_1 q.1 r u i) (ms_G 145 863 L (.long (J r u i) :: S) (ms_Z q w I J)) (ms_raw 145 862 L (.int (nI i) :: .ref (ms_ad r u) :: S) (ms_Z q w I J)) := mz_lald rfl
set_option maxRecDepth 20000 in
theorem mi_145_863 : ms_G 145 863 [l0, l1, l2, l3, l4, l5, .int x] S σ = ms_G 145 865 [l0, l1, l2, l3, l4, l5, .int x] (.int x :: S) σ := (ms_G_at rfl _ _ _).trans rfl
set_option maxRecDepth 20000 in
theorem mi_145_865 : ms_G 145 865 L (.int x :: S) σ = ms_G 145 866 L (.long x.toInt64 :: S) σ := (ms_G_at rfl _ _ _).trans rfl
set_option maxRecDepth 20000 in
theorem mi_145_866 : ms_G 145 866 L (.long Y :: .long X :: S) σ = ms_G 145 867 L (.int (lg_cmp X Y) :: S) σ := (ms_G_at rfl _ _ _).trans rfl
set_option maxRecDepth 20000 in
theorem mi_145_867 : ms_G 145 867 L (.int x :: S) σ = if x = nI 0 then ms_G 145 872 L S σ else ms_G 145 870 L S σ := mz_bra rfl rfl rfl
set_option maxRecDepth 20000 in
theorem mi_145_870 : ms_G 145 870 L S σ = ms_G 145 871 L (.int (nI 0) :: S) σ := (ms_G_at rfl _ _ _).trans rfl
set_option maxRecDepth 20000 in
theorem mi_145_871 : ms_G 145 871 L [.int (nI 0)] σ = some (.inl (some (.int (nI 0))), σ) := (ms_G_at rfl _ _ _).trans rfl
set_option maxRecDepth 20000 in
theorem mi_145_871_1 : ms_G 145 871 L [.int (nI 1)] σ = some (.inl (some (.int (nI 1))), σ) := (ms_G_at rfl _ _ _).trans rfl
set_option maxRecDepth 20000 in
theorem mi_145_871_b (B : Bool) : ms_G 145 871 L [.int (ms_b B)] σ = some (.inl (some (.int (ms_b B))), σ) := by cases B <;> exact (ms_G_at rfl _ _ _).trans rfl
set_option maxRecDepth 20000 in
theorem mi_145_872 : ms_G 145 872 L S σ = ms_G 145 875 L S σ := (ms_G_at rfl _ _ _).trans rfl
set_option maxRecDepth 20000 in
theorem mi_145_875 : ms_G 145 875 [l0, l1, l2, .ref b, .int x, l5, l6] S σ = ms_G 145 878 [l0, l1, l2, .ref b, .int (x + nI 6), l5, l6] S σ := (ms_G_at rfl _ _ _).trans rfl
set_option maxRecDepth 20000 in
theorem mi_145_878 : ms_G 145 878 L S σ = ms_G 145 23 L S σ := (ms_G_at rfl _ _ _).trans rfl
set_option maxRecDepth 20000 in
theorem mi_145_881 : ms_G 145 881 L S σ = ms_G 145 882 L (.int (nI 1) :: S) σ := (ms_G_at rfl _ _ _).trans rfl
set_option maxRecDepth 20000 in
theorem mi_145_882 : ms_G 145 882 L [.int (nI 0)] σ = some (.inl (some (.int (nI 0))), σ) := (ms_G_at rfl _ _ _).trans rfl
set_option maxRecDepth 20000 in
theorem mi_145_882_1 : ms_G 145 882 L [.int (nI 1)] σ = some (.inl (some (.int (nI 1))), σ) := (ms_G_at rfl _ _ _).trans rfl
set_option maxRecDepth 20000 in
theorem mi_145_882_b (B : Bool) : ms_G 145 882 L [.int (ms_b B)] σ = some (.inl (some (.int (ms_b B))), σ) := by cases B <;> exact (ms_G_at rfl _ _ _).trans rfl
-- java/lang/Integer.bitCount(I)I
theorem mi_146_0 : ms_G 146 0 [.int x] S σ = ms_G 146 1 [.int x] (.int x :: S) σ := (ms_G_at rfl _ _ _).trans rfl
theorem mi_146_1 : ms_G 146 1 [.int x] S σ = ms_G 146 2 [.int x] (.int x :: S) σ := (ms_G_at rfl _ _ _).trans rfl
theorem mi_146_2 : ms_G 146 2 L S σ = ms_G 146 3 L (.int (nI 1) :: S) σ := (ms_G_at rfl _ _ _).trans rfl
theorem mi_146_3 : ms_G 146 3 L (.int y :: .int x :: S) σ = ms_G 146 4 L (.int ((x.toUInt32 >>> (y.toUInt32 &&& Int32.toUInt32 31)).toInt32) :: S) σ := (ms_G_at rfl _ _ _).trans rfl
theorem mi_146_4 : ms_G 146 4 L S σ = ms_G 146 7 L (.int (nI 1431655765) :: S) σ := (ms_G_at rfl _ _ _).trans rfl
theorem mi_146_7 : ms_G 146 7 L (.int y :: .int x :: S) σ = ms_G 146 8 L (.int (x &&& y) :: S) σ := (ms_G_at rfl _ _ _).trans rfl
theorem mi_146_8 : ms_G 146 8 L (.int y :: .int x :: S) σ = ms_G 146 9 L (.int (x - y) :: S) σ := (ms_G_at rfl _ _ _).trans rfl
theorem mi_146_9 : ms_G 146 9 [l0] (.int x :: S) σ = ms_G 146 10 [.int x] S σ := (ms_G_at rfl _ _ _).trans rfl
theorem mi_146_10 : ms_G 146 10 [.int x] S σ = ms_G 146 11 [.int x] (.int x :: S) σ := (ms_G_at rfl _ _ _).trans rfl
theorem mi_146_11 : ms_G 146 11 L S σ = ms_G 146 14 L (.int (nI 858993459) :: S) σ := (ms_G_at rfl _ _ _).trans rfl
theorem mi_146_14 : ms_G 146 14 L (.int y :: .int x :: S) σ = ms_G 146 15 L (.int (x &&& y) :: S) σ := (ms_G_at rfl _ _ _).trans rfl
theorem mi_146_15 : ms_G 146 15 [.int x] S σ = ms_G 146 16 [.int x] (.int x :: S) σ := (ms_G_at rfl _ _ _).trans rfl
theorem mi_146_16 : ms_G 146 16 L S σ = ms_G 146 17 L (.int (nI 2) :: S) σ := (ms_G_at rfl _ _ _).trans rfl
theorem mi_146_17 : ms_G 146 17 L (.int y :: .int x :: S) σ = ms_G 146 18 L (.int ((x.toUInt32 >>> (y.toUInt32 &&& Int32.toUInt32 31)).toInt32) :: S) σ := (ms_G_at rfl _ _ _).trans rfl
theorem mi_146_18 : ms_G 146 18 L S σ = ms_G 146 21 L (.int (nI 858993459) :: S) σ := (ms_G_at rfl _ _ _).trans rfl
theorem mi_146_21 : ms_G 146 21 L (.int y :: .int x :: S) σ = ms_G 146 22 L (.int (x &&& y) :: S) σ := (ms_G_at rfl _ _ _).trans rfl
theorem mi_146_22 : ms_G 146 22 L (.int y :: .int x :: S) σ = ms_G 146 23 L (.int (x + y) :: S) σ := (ms_G_at rfl _ _ _).trans rfl
theorem mi_146_23 : ms_G 146 23 [l0] (.int x :: S) σ = ms_G 146 24 [.int x] S σ := (ms_G_at rfl _ _ _).trans rfl
theorem mi_146_24 : ms_G 146 24 [.int x] S σ = ms_G 146 25 [.int x] (.int x :: S) σ := (ms_G_at rfl _ _ _).trans rfl
theorem mi_146_25 : ms_G 146 25 [.int x] S σ = ms_G 146 26 [.int x] (.int x :: S) σ := (ms_G_at rfl _ _ _).trans rfl
theorem mi_146_26 : ms_G 146 26 L S σ = ms_G 146 27 L (.int (nI 4) :: S) σ := (ms_G_at rfl _ _ _).trans rfl
theorem mi_146_27 : ms_G 146 27 L (.int y :: .int x :: S) σ = ms_G 146 28 L (.int ((x.toUInt32 >>> (y.toUInt32 &&& Int32.toUInt32 31)).toInt32) :: S) σ := (ms_G_at rfl _ _ _).trans rfl
theorem mi_146_28 : ms_G 146 28 L (.int y :: .int x :: S) σ = ms_G 146 29 L (.int (x + y) :: S) σ := (ms_G_at rfl _ _ _).trans rfl
theorem mi_146_29 : ms_G 146 29 L S σ = ms_G 146 32 L (.int (nI 252645135) :: S) σ := (ms_G_at rfl _ _ _).trans rfl
theorem mi_146_32 : ms_G 146 32 L (.int y :: .int x :: S) σ = ms_G 146 33 L (.int (x &&& y) :: S) σ := (ms_G_at rfl _ _ _).trans rfl
theorem mi_146_33 : ms_G 146 33 [l0] (.int x :: S) σ = ms_G 146 34 [.int x] S σ := (ms_G_at rfl _ _ _).trans rfl
theorem mi_146_34 : ms_G 146 34 [.int x] S σ = ms_G 146 35 [.int x] (.int x :: S) σ := (ms_G_at rfl _ _ _).trans rfl
theorem mi_146_35 : ms_G 146 35 [.int x] S σ = ms_G 146 36 [.int x] (.int x :: S) σ := (ms_G_at rfl _ _ _).trans rfl
theorem mi_146_36 : ms_G 146 36 L S σ = ms_G 146 38 L (.int (nI 8) :: S) σ := (ms_G_at rfl _ _ _).trans rfl
theorem mi_146_38 : ms_G 146 38 L (.int y :: .int x :: S) σ = ms_G 146 39 L (.int ((x.toUInt32 >>> (y.toUInt32 &&& Int32.toUInt32 31)).toInt32) :: S) σ := (ms_G_at rfl _ _ _).trans rfl
theorem mi_146_39 : ms_G 146 39 L (.int y :: .int x :: S) σ = ms_G 146 40 L (.int (x + y) :: S) σ := (ms_G_at rfl _ _ _).trans rfl
theorem mi_146_40 : ms_G 146 40 [l0] (.int x :: S) σ = ms_G 146 41 [.int x] S σ := (ms_G_at rfl _ _ _).trans rfl
theorem mi_146_41 : ms_G 146 41 [.int x] S σ = ms_G 146 42 [.int x] (.int x :: S) σ := (ms_G_at rfl _ _ _).trans rfl
theorem mi_146_42 : ms_G 146 42 [.int x] S σ = ms_G 146 43 [.int x] (.int x :: S) σ := (ms_G_at rfl _ _ _).trans rfl
theorem mi_146_43 : ms_G 146 43 L S σ = ms_G 146 45 L (.int (nI 16) :: S) σ := (ms_G_at rfl _ _ _).trans rfl
theorem mi_146_45 : ms_G 146 45 L (.int y :: .int x :: S) σ = ms_G 146 46 L (.int ((x.toUInt32 >>> (y.toUInt32 &&& Int32.toUInt32 31)).toInt32) :: S) σ := (ms_G_at rfl _ _ _).trans rfl
theorem mi_146_46 : ms_G 146 46 L (.int y :: .int x :: S) σ = ms_G 146 47 L (.int (x + y) :: S) σ := (ms_G_at rfl _ _ _).trans rfl
theorem mi_146_47 : ms_G 146 47 [l0] (.int x :: S) σ = ms_G 146 48 [.int x] S σ := (ms_G_at rfl _ _ _).trans rfl
theorem mi_146_48 : ms_G 146 48 [.int x] S σ = ms_G 146 49 [.int x] (.int x :: S) σ := (ms_G_at rfl _ _ _).trans rfl
theorem mi_146_49 : ms_G 146 49 L S σ = ms_G 146 51 L (.int (nI 63) :: S) σ := (ms_G_at rfl _ _ _).trans rfl
theorem mi_146_51 : ms_G 146 51 L (.int y :: .int x :: S) σ = ms_G 146 52 L (.int (x &&& y) :: S) σ := (ms_G_at rfl _ _ _).trans rfl
theorem mi_146_52 : ms_G 146 52 L [.int x] σ = some (.inl (some (.int x)), σ) := (ms_G_at rfl _ _ _).trans rfl
-- java/lang/Integer.rotateLeft(II)I
theorem mi_147_0 : ms_G 147 0 [.int x, l1] S σ = ms_G 147 1 [.int x, l1] (.int x :: S) σ := (ms_G_at rfl _ _ _).trans rfl
theorem mi_147_1 : ms_G 147 1 [l0, .int x] S σ = ms_G 147 2 [l0, .int x] (.int x :: S) σ := (ms_G_at rfl _ _ _).trans rfl
theorem mi_147_2 : ms_G 147 2 L (.int y :: .int x :: S) σ = ms_G 147 3 L (.int (x <<< (y &&& 31)) :: S) σ := (ms_G_at rfl _ _ _).trans rfl
theorem mi_147_3 : ms_G 147 3 [.int x, l1] S σ = ms_G 147 4 [.int x, l1] (.int x :: S) σ := (ms_G_at rfl _ _ _).trans rfl
theorem mi_147_4 : ms_G 147 4 [l0, .int x] S σ = ms_G 147 5 [l0, .int x] (.int x :: S) σ := (ms_G_at rfl _ _ _).trans rfl
theorem mi_147_5 : ms_G 147 5 L (.int x :: S) σ = ms_G 147 6 L (.int (-x) :: S) σ := (ms_G_at rfl _ _ _).trans rfl
theorem mi_147_6 : ms_G 147 6 L (.int y :: .int x :: S) σ = ms_G 147 7 L (.int ((x.toUInt32 >>> (y.toUInt32 &&& Int32.toUInt32 31)).toInt32) :: S) σ := (ms_G_at rfl _ _ _).trans rfl
theorem mi_147_7 : ms_G 147 7 L (.int y :: .int x :: S) σ = ms_G 147 8 L (.int (x ||| y) :: S) σ := (ms_G_at rfl _ _ _).trans rfl
theorem mi_147_8 : ms_G 147 8 L [.int x] σ = some (.inl (some (.int x)), σ) := (ms_G_at rfl _ _ _).trans rfl
-- java/util/Arrays.fill([II)V
theorem mi_148_0 : ms_G 148 0 L S σ = ms_G 148 1 L (.int (nI 0) :: S) σ := (ms_G_at rfl _ _ _).trans rfl
theorem mi_148_1 : ms_G 148 1 [l0, .int y, l2, l3] (.int x :: S) σ = ms_G 148 2 [l0, .int y, .int x, l3] S σ := (ms_G_at rfl _ _ _).trans rfl
theorem mi_148_2 : ms_G 148 2 [.ref a, l1, l2, l3] S σ = ms_G 148 3 [.ref a, l1, l2, l3] (.ref a :: S) σ := (ms_G_at rfl _ _ _).trans rfl
theorem mi_148_3 : ms_G 148 3 L (.ref (ms_ad r u) :: S) (ms_Z q w I J) = cond (mo_3 r u) (ms_G 148 4 L (.int (nI (ms_nr q.1 r u)) :: S) (ms_Z q w I J)) (ms_raw 148 3 L (.ref (ms_ad r u) :: S) (ms_Z q w I J)) := mz_alen rfl
theorem mi_148_4 : ms_G 148 4 [l0, l1, .int y, l3] (.int x :: S) σ = ms_G 148 5 [l0, l1, .int y, .int x] S σ := (ms_G_at rfl _ _ _).trans rfl
theorem mi_148_5 : ms_G 148 5 [l0, l1, .int x, l3] S σ = ms_G 148 6 [l0, l1, .int x, l3] (.int x :: S) σ := (ms_G_at rfl _ _ _).trans rfl
theorem mi_148_6 : ms_G 148 6 [l0, l1, l2, .int x] S σ = ms_G 148 7 [l0, l1, l2, .int x] (.int x :: S) σ := (ms_G_at rfl _ _ _).trans rfl
theorem mi_148_7 : ms_G 148 7 L (.int y :: .int x :: S) σ = if y ≤ x then ms_G 148 20 L S σ else ms_G 148 10 L S σ := mz_bra rfl rfl rfl
theorem mi_148_10 : ms_G 148 10 [.ref a, l1, l2, l3] S σ = ms_G 148 11 [.ref a, l1, l2, l3] (.ref a :: S) σ := (ms_G_at rfl _ _ _).trans rfl
theorem mi_148_11 : ms_G 148 11 [l0, l1, .int x, l3] S σ = ms_G 148 12 [l0, l1, .int x, l3] (.int x :: S) σ := (ms_G_at rfl _ _ _).trans rfl
theorem mi_148_12 : ms_G 148 12 [l0, .int x, l2, l3] S σ = ms_G 148 13 [l0, .int x, l2, l3] (.int x :: S) σ := (ms_G_at rfl _ _ _).trans rfl
theorem mi_148_13 : ms_G 148 13 L (.int x :: .int (nI i) :: .ref (ms_ad r u) :: S) (ms_Z q w I J) = cond (mo_0 q.1 r u i) (ms_G 148 14 L S (ms_Z q true (ms_u I r u (upd (I r u) i x)) J)) (ms_raw 148 13 L (.int x :: .int (nI i) :: .ref (ms_ad r u) :: S) (ms_Z q w I J)) := mz_iast rfl x
theorem mi_148_14 : ms_G 148 14 [l0, .int y, .int x, l3] S σ = ms_G 148 17 [l0, .int y, .int (x + nI 1), l3] S σ := (ms_G_at rfl _ _ _).trans rfl
theorem mi_148_17 : ms_G 148 17 L S σ = ms_G 148 5 L S σ := (ms_G_at rfl _ _ _).trans rfl
theorem mi_148_20 : ms_G 148 20 L [] σ = some (.inl none, σ) := (ms_G_at rfl _ _ _).trans rfl
-- java/util/Arrays.fill([JJ)V
theorem mi_149_0 : ms_G 149 0 L S σ = ms_G 149 1 L (.int (nI 0) :: S) σ := (ms_G_at rfl _ _ _).trans rfl
theorem mi_149_1 : ms_G 149 1 [l0, l1, .null, l3, l4] (.int x :: S) σ = ms_G 149 2 [l0, l1, .null, .int x, l4] S σ := (ms_G_at rfl _ _ _).trans rfl
theorem mi_149_2 : ms_G 149 2 [.ref a, l1, l2, l3, l4] S σ = ms_G 149 3 [.ref a, l1, l2, l3, l4] (.ref a :: S) σ := (ms_G_at rfl _ _ _).trans rfl
theorem mi_149_3 : ms_G 149 3 L (.ref (ms_ad r u) :: S) (ms_Z q w I J) = cond (mo_3 r u) (ms_G 149 4 L (.int (nI (ms_nr q.1 r u)) :: S) (ms_Z q w I J)) (ms_raw 149 3 L (.ref (ms_ad r u) :: S) (ms_Z q w I J)) := mz_alen rfl
theorem mi_149_4 : ms_G 149 4 [l0, l1, l2, .int y, l4] (.int x :: S) σ = ms_G 149 6 [l0, l1, l2, .int y, .int x] S σ := (ms_G_at rfl _ _ _).trans rfl
theorem mi_149_6 : ms_G 149 6 [l0, l1, l2, .int x, l4] S σ = ms_G 149 7 [l0, l1, l2, .int x, l4] (.int x :: S) σ := (ms_G_at rfl _ _ _).trans rfl
theorem mi_149_7 : ms_G 149 7 [l0, l1, l2, l3, .int x] S σ = ms_G 149 9 [l0, l1, l2, l3, .int x] (.int x :: S) σ := (ms_G_at rfl _ _ _).trans rfl
theorem mi_149_9 : ms_G 149 9 L (.int y :: .int x :: S) σ = if y ≤ x then ms_G 149 22 L S σ else ms_G 149 12 L S σ := mz_bra rfl rfl rfl
theorem mi_149_12 : ms_G 149 12 [.ref a, l1, l2, l3, l4] S σ = ms_G 149 13 [.ref a, l1, l2, l3, l4] (.ref a :: S) σ := (ms_G_at rfl _ _ _).trans rfl
theorem mi_149_13 : ms_G 149 13 [l0, l1, l2, .int x, l4] S σ = ms_G 149 14 [l0, l1, l2, .int x, l4] (.int x :: S) σ := (ms_G_at rfl _ _ _).trans rfl
theorem mi_149_14 : ms_G 149 14 [l0, .long X, l2, l3, l4] S σ = ms_G 149 15 [l0, .long X, l2, l3, l4] (.long X :: S) σ := (ms_G_at rfl _ _ _).trans rfl
theorem mi_149_15 : ms_G 149 15 L (.long X :: .int (nI i) :: .ref (ms_ad r u) :: S) (ms_Z q w I J) = cond (mo_1 q.1 r u i) (ms_G 149 16 L S (ms_Z q true I (ms_u J r u (vp_updL (J r u) i X)))) (ms_raw 149 15 L (.long X :: .int (nI i) :: .ref (ms_ad r u) :: S) (ms_Z q w I J)) := mz_last rfl X
theorem mi_149_16 : ms_G 149 16 [l0, l1, .null, .int x, l4] S σ = ms_G 149 19 [l0, l1, .null, .int (x + nI 1), l4] S σ := (ms_G_at rfl _ _ _).trans rfl
theorem mi_149_19 : ms_G 149 19 L S σ = ms_G 149 6 L S σ := (ms_G_at rfl _ _ _).trans rfl
theorem mi_149_22 : ms_G 149 22 L [] σ = some (.inl none, σ) := (ms_G_at rfl _ _ _).trans rfl
end MsI
