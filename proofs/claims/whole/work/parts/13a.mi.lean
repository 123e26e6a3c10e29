/-! ONE LEMMA AN INSTRUCTION, by gen3.py. -/
section MsI
variable {l0 l1 l2 l3 l4 l5 l6 l7 l8 l9 l10 l11 l12 l13 l14 l15 l16 l17 : Value} {L S : List Value} {σ : ms_M} {q : Nat × Nat} {w B : Bool} {I : ms_i} {J : ms_j} {r u r' u' i sp dp n a b a0 a1 a2 a3 a4 a5 a6 a7 g0 g1 g2 g3 g4 g5 g6 g7 : Nat}
variable {x y x0 x1 x2 x3 x4 x5 x6 x7 e0 e1 e2 e3 e4 e5 e6 e7 : Int32} {X Y X0 X1 X2 X3 X4 X5 X6 X7 f0 f1 f2 f3 f4 f5 f6 f7 : Int64}
-- MaskedSum.start(II)V
theorem mi_1_0 : ms_G 1 0 [l0, .int x, l2, l3] S σ = ms_G 1 1 [l0, .int x, l2, l3] (.int x :: S) σ := (ms_G_at rfl _ _ _).trans rfl
theorem mi_1_1 : ms_G 1 1 L S σ = ms_G 1 2 L (.int (nI 3) :: S) σ := (ms_G_at rfl _ _ _).trans rfl
theorem mi_1_2 : ms_G 1 2 L (.int y :: .int x :: S) σ = if x < y then ms_G 1 23 L S σ else ms_G 1 5 L S σ := mz_bra rfl rfl rfl
theorem mi_1_5 : ms_G 1 5 [l0, .int x, l2, l3] S σ = ms_G 1 6 [l0, .int x, l2, l3] (.int x :: S) σ := (ms_G_at rfl _ _ _).trans rfl
theorem mi_1_6 : ms_G 1 6 L S σ = ms_G 1 8 L (.int (nI 8) :: S) σ := (ms_G_at rfl _ _ _).trans rfl
theorem mi_1_8 : ms_G 1 8 L (.int y :: .int x :: S) σ = if y < x then ms_G 1 23 L S σ else ms_G 1 11 L S σ := mz_bra rfl rfl rfl
theorem mi_1_11 : ms_G 1 11 [l0, l1, .int x, l3] S σ = ms_G 1 12 [l0, l1, .int x, l3] (.int x :: S) σ := (ms_G_at rfl _ _ _).trans rfl
theorem mi_1_12 : ms_G 1 12 [l0, .int x, l2, l3] S σ = ms_G 1 13 [l0, .int x, l2, l3] (.int x :: S) σ := (ms_G_at rfl _ _ _).trans rfl
theorem mi_1_13 : ms_G 1 13 L (.int y :: .int x :: S) σ = if y < x then ms_G 1 23 L S σ else ms_G 1 16 L S σ := mz_bra rfl rfl rfl
theorem mi_1_16 : ms_G 1 16 [l0, l1, .int x, l3] S σ = ms_G 1 17 [l0, l1, .int x, l3] (.int x :: S) σ := (ms_G_at rfl _ _ _).trans rfl
theorem mi_1_17 : ms_G 1 17 [l0, .int x, l2, l3] S σ = ms_G 1 18 [l0, .int x, l2, l3] (.int x :: S) σ := (ms_G_at rfl _ _ _).trans rfl
theorem mi_1_18 : ms_G 1 18 L S σ = ms_G 1 19 L (.int (nI 2) :: S) σ := (ms_G_at rfl _ _ _).trans rfl
theorem mi_1_19 : ms_G 1 19 L (.int (nI 2) :: .int x :: S) σ = ms_G 1 20 L (.int (x / nI 2) :: S) σ := (ms_G_at rfl _ _ _).trans rfl
theorem mi_1_20 : ms_G 1 20 L (.int y :: .int x :: S) σ = if y < x then ms_G 1 31 L S σ else ms_G 1 23 L S σ := mz_bra rfl rfl rfl
theorem mi_1_23 : ms_G 1 23 L [] (ms_Z q false I J) = some (.inr 0, ms_Z (q.1, q.2 + 1) true I J) := mz_thr rfl
theorem mi_1_31 : ms_G 1 31 [.ref a, l1, l2, l3] S σ = ms_G 1 32 [.ref a, l1, l2, l3] (.ref a :: S) σ := (ms_G_at rfl _ _ _).trans rfl
theorem mi_1_32 : ms_G 1 32 L (.ref (ms_ad 3 0) :: S) (ms_Z q w I J) = ms_G 1 35 L (.ref (ms_ad 14 0) :: S) (ms_Z q w I J) := mz_getf (c := (2, 14)) rfl (by decide) rfl (by decide) rfl
theorem mi_1_35 : ms_G 1 35 L [.ref (ms_ad 14 0)] (ms_Z q w I J) = mo_cl 1 35 38 (ms_G 75 0 [.ref (ms_ad 14 0)] [] (ms_Z q false I J)) w L [] := (mz_call rfl rfl (mz_can1 rfl rfl rfl rfl rfl (by decide) rfl (by decide))).trans rfl
theorem mi_1_38 : ms_G 1 38 [.ref a, l1, l2, l3] S σ = ms_G 1 39 [.ref a, l1, l2, l3] (.ref a :: S) σ := (ms_G_at rfl _ _ _).trans rfl
theorem mi_1_39 : ms_G 1 39 L (.ref (ms_ad 3 0) :: S) (ms_Z q w I J) = ms_G 1 42 L (.ref (ms_ad 19 0) :: S) (ms_Z q w I J) := mz_getf (c := (2, 19)) rfl (by decide) rfl (by decide) rfl
theorem mi_1_42 : ms_G 1 42 [l0, .int x, l2, l3] S σ = ms_G 1 43 [l0, .int x, l2, l3] (.int x :: S) σ := (ms_G_at rfl _ _ _).trans rfl
theorem mi_1_43 : ms_G 1 43 [l0, l1, .int x, l3] S σ = ms_G 1 44 [l0, l1, .int x, l3] (.int x :: S) σ := (ms_G_at rfl _ _ _).trans rfl
theorem mi_1_44 : ms_G 1 44 L [.int x1, .int x0, .ref (ms_ad 19 0)] (ms_Z q w I J) = mo_cl 1 44 47 (ms_G 116 0 [.ref (ms_ad 19 0), .int x0, .int x1] [] (ms_Z q false I J)) w L [] := (mz_call rfl rfl (mz_can1 rfl rfl rfl rfl rfl (by decide) rfl (by decide))).trans rfl
theorem mi_1_47 : ms_G 1 47 L S σ = ms_G 1 48 L (.int (nI 0) :: S) σ := (ms_G_at rfl _ _ _).trans rfl
theorem mi_1_48 : ms_G 1 48 [l0, l1, .int y, l3] (.int x :: S) σ = ms_G 1 49 [l0, l1, .int y, .int x] S σ := (ms_G_at rfl _ _ _).trans rfl
theorem mi_1_49 : ms_G 1 49 [l0, l1, l2, .int x] S σ = ms_G 1 50 [l0, l1, l2, .int x] (.int x :: S) σ := (ms_G_at rfl _ _ _).trans rfl
theorem mi_1_50 : ms_G 1 50 L S σ = ms_G 1 52 L (.int (nI 8) :: S) σ := (ms_G_at rfl _ _ _).trans rfl
theorem mi_1_52 : ms_G 1 52 L (.int y :: .int x :: S) σ = if y ≤ x then ms_G 1 70 L S σ else ms_G 1 55 L S σ := mz_bra rfl rfl rfl
theorem mi_1_55 : ms_G 1 55 [.ref a, l1, l2, l3] S σ = ms_G 1 56 [.ref a, l1, l2, l3] (.ref a :: S) σ := (ms_G_at rfl _ _ _).trans rfl
theorem mi_1_56 : ms_G 1 56 L (.ref (ms_ad 3 0) :: S) (ms_Z q w I J) = ms_G 1 59 L (.ref (ms_ad 30 0) :: S) (ms_Z q w I J) := mz_getf (c := (2, 30)) rfl (by decide) rfl (by decide) rfl
theorem mi_1_59 : ms_G 1 59 [l0, l1, l2, .int x] S σ = ms_G 1 60 [l0, l1, l2, .int x] (.int x :: S) σ := (ms_G_at rfl _ _ _).trans rfl
theorem mi_1_60 : ms_G 1 60 L (.int (nI i) :: .ref (ms_ad r u) :: S) (ms_Z q w I J) = cond (mo_2 q.1 r u i) (ms_G 1 61 L (.ref (ms_ad (ms_er r) i) :: S) (ms_Z q w I J)) (ms_raw 1 60 L (.int (nI i) :: .ref (ms_ad r u) :: S) (ms_Z q w I J)) := mz_aald rfl
theorem mi_1_61 (hu : u < 8) : ms_G 1 61 L [.ref (ms_ad 31 u)] (ms_Z q w I J) = mo_cl 1 61 64 (ms_G 93 0 [.ref (ms_ad 31 u)] [] (ms_Z q false I J)) w L [] := (mz_call rfl rfl (mz_can1 rfl rfl rfl rfl rfl hu rfl (by decide))).trans rfl
theorem mi_1_64 : ms_G 1 64 [l0, l1, .int y, .int x] S σ = ms_G 1 67 [l0, l1, .int y, .int (x + nI 1)] S σ := (ms_G_at rfl _ _ _).trans rfl
theorem mi_1_67 : ms_G 1 67 L S σ = ms_G 1 49 L S σ := (ms_G_at rfl _ _ _).trans rfl
theorem mi_1_70 : ms_G 1 70 L [] σ = some (.inl none, σ) := (ms_G_at rfl _ _ _).trans rfl
-- MaskedSum.secret(IIII)V
theorem mi_2_0 : ms_G 2 0 [l0, .int x, l2, l3, l4] S σ = ms_G 2 1 [l0, .int x, l2, l3, l4] (.int x :: S) σ := (ms_G_at rfl _ _ _).trans rfl
theorem mi_2_1 : ms_G 2 1 L (.int x :: S) σ = if x < nI 0 then ms_G 2 19 L S σ else ms_G 2 4 L S σ := mz_bra rfl rfl rfl
theorem mi_2_4 : ms_G 2 4 [l0, .int x, l2, l3, l4] S σ = ms_G 2 5 [l0, .int x, l2, l3, l4] (.int x :: S) σ := (ms_G_at rfl _ _ _).trans rfl
theorem mi_2_5 : ms_G 2 5 L S σ = ms_G 2 7 L (.int (nI 8) :: S) σ := (ms_G_at rfl _ _ _).trans rfl
theorem mi_2_7 : ms_G 2 7 L (.int y :: .int x :: S) σ = if y ≤ x then ms_G 2 19 L S σ else ms_G 2 10 L S σ := mz_bra rfl rfl rfl
theorem mi_2_10 : ms_G 2 10 [l0, l1, .int x, l3, l4] S σ = ms_G 2 11 [l0, l1, .int x, l3, l4] (.int x :: S) σ := (ms_G_at rfl _ _ _).trans rfl
theorem mi_2_11 : ms_G 2 11 L (.int x :: S) σ = if x < nI 0 then ms_G 2 19 L S σ else ms_G 2 14 L S σ := mz_bra rfl rfl rfl
theorem mi_2_14 : ms_G 2 14 [l0, l1, .int x, l3, l4] S σ = ms_G 2 15 [l0, l1, .int x, l3, l4] (.int x :: S) σ := (ms_G_at rfl _ _ _).trans rfl
theorem mi_2_15 : ms_G 2 15 L S σ = ms_G 2 16 L (.int (nI 3) :: S) σ := (ms_G_at rfl _ _ _).trans rfl
theorem mi_2_16 : ms_G 2 16 L (.int y :: .int x :: S) σ = if x < y then ms_G 2 27 L S σ else ms_G 2 19 L S σ := mz_bra rfl rfl rfl
theorem mi_2_19 : ms_G 2 19 L [] (ms_Z q false I J) = some (.inr 0, ms_Z (q.1, q.2 + 1) true I J) := mz_thr rfl
theorem mi_2_27 : ms_G 2 27 [.ref a, l1, l2, l3, l4] S σ = ms_G 2 28 [.ref a, l1, l2, l3, l4] (.ref a :: S) σ := (ms_G_at rfl _ _ _).trans rfl
theorem mi_2_28 : ms_G 2 28 L (.ref (ms_ad 3 0) :: S) (ms_Z q w I J) = ms_G 2 31 L (.ref (ms_ad 19 0) :: S) (ms_Z q w I J) := mz_getf (c := (2, 19)) rfl (by decide) rfl (by decide) rfl
theorem mi_2_31 : ms_G 2 31 L [.ref (ms_ad 19 0)] (ms_Z q w I J) = mo_cl 2 31 34 (ms_G 117 0 [.ref (ms_ad 19 0)] [] (ms_Z q false I J)) w L [] := (mz_call rfl rfl (mz_can1 rfl rfl rfl rfl rfl (by decide) rfl (by decide))).trans rfl
theorem mi_2_34 : ms_G 2 34 L (.int x :: S) σ = if x = nI 0 then ms_G 2 57 L S σ else ms_G 2 37 L S σ := mz_bra rfl rfl rfl
theorem mi_2_37 : ms_G 2 37 [.ref a, l1, l2, l3, l4] S σ = ms_G 2 38 [.ref a, l1, l2, l3, l4] (.ref a :: S) σ := (ms_G_at rfl _ _ _).trans rfl
theorem mi_2_38 : ms_G 2 38 L (.ref (ms_ad 3 0) :: S) (ms_Z q w I J) = ms_G 2 41 L (.ref (ms_ad 30 0) :: S) (ms_Z q w I J) := mz_getf (c := (2, 30)) rfl (by decide) rfl (by decide) rfl
theorem mi_2_41 : ms_G 2 41 [l0, .int x, l2, l3, l4] S σ = ms_G 2 42 [l0, .int x, l2, l3, l4] (.int x :: S) σ := (ms_G_at rfl _ _ _).trans rfl
theorem mi_2_42 : ms_G 2 42 L (.int (nI i) :: .ref (ms_ad r u) :: S) (ms_Z q w I J) = cond (mo_2 q.1 r u i) (ms_G 2 43 L (.ref (ms_ad (ms_er r) i) :: S) (ms_Z q w I J)) (ms_raw 2 42 L (.int (nI i) :: .ref (ms_ad r u) :: S) (ms_Z q w I J)) := mz_aald rfl
theorem mi_2_43 (hu : u < 8) : ms_G 2 43 L (.ref (ms_ad 31 u) :: S) (ms_Z q w I J) = ms_G 2 46 L (.int (I 31 u 9) :: S) (ms_Z q w I J) := mz_getf (c := (0, 9)) rfl hu rfl (by decide) rfl
theorem mi_2_46 : ms_G 2 46 L (.int x :: S) σ = if x ≤ nI 0 then ms_G 2 57 L S σ else ms_G 2 49 L S σ := mz_bra rfl rfl rfl
theorem mi_2_49 : ms_G 2 49 L [] (ms_Z q false I J) = some (.inr 1, ms_Z (q.1, q.2 + 1) true I J) := mz_thr rfl
theorem mi_2_57 : ms_G 2 57 [.ref a, l1, l2, l3, l4] S σ = ms_G 2 58 [.ref a, l1, l2, l3, l4] (.ref a :: S) σ := (ms_G_at rfl _ _ _).trans rfl
theorem mi_2_58 : ms_G 2 58 L (.ref (ms_ad 3 0) :: S) (ms_Z q w I J) = ms_G 2 61 L (.ref (ms_ad 30 0) :: S) (ms_Z q w I J) := mz_getf (c := (2, 30)) rfl (by decide) rfl (by decide) rfl
theorem mi_2_61 : ms_G 2 61 [l0, .int x, l2, l3, l4] S σ = ms_G 2 62 [l0, .int x, l2, l3, l4] (.int x :: S) σ := (ms_G_at rfl _ _ _).trans rfl
theorem mi_2_62 : ms_G 2 62 L (.int (nI i) :: .ref (ms_ad r u) :: S) (ms_Z q w I J) = cond (mo_2 q.1 r u i) (ms_G 2 63 L (.ref (ms_ad (ms_er r) i) :: S) (ms_Z q w I J)) (ms_raw 2 62 L (.int (nI i) :: .ref (ms_ad r u) :: S) (ms_Z q w I J)) := mz_aald rfl
theorem mi_2_63 (hu : u < 8) : ms_G 2 63 L (.ref (ms_ad 31 u) :: S) (ms_Z q w I J) = ms_G 2 66 L (.ref (ms_ad 32 u) :: S) (ms_Z q w I J) := mz_getf (c := (2, 32)) rfl hu rfl (by decide) rfl
theorem mi_2_66 : ms_G 2 66 [l0, l1, .int x, l3, l4] S σ = ms_G 2 67 [l0, l1, .int x, l3, l4] (.int x :: S) σ := (ms_G_at rfl _ _ _).trans rfl
theorem mi_2_67 : ms_G 2 67 [l0, l1, l2, .int x, l4] S σ = ms_G 2 68 [l0, l1, l2, .int x, l4] (.int x :: S) σ := (ms_G_at rfl _ _ _).trans rfl
theorem mi_2_68 : ms_G 2 68 [l0, l1, l2, l3, .int x] S σ = ms_G 2 70 [l0, l1, l2, l3, .int x] (.int x :: S) σ := (ms_G_at rfl _ _ _).trans rfl
theorem mi_2_70 : ms_G 2 70 L (.int x1 :: .int x0 :: [.int e0, .ref g1]) (ms_Z q w I J) = mo_cl 2 70 73 (ms_G 84 0 [.int x0, .int x1, .null, .null] [] (ms_Z q false I J)) w L [.int e0, .ref g1] := (mz_call rfl rfl (mz_can0 rfl rfl rfl rfl rfl)).trans rfl
theorem mi_2_73 : ms_G 2 73 L (.long X :: .int (nI i) :: .ref (ms_ad r u) :: S) (ms_Z q w I J) = cond (mo_1 q.1 r u i) (ms_G 2 74 L S (ms_Z q true I (ms_u J r u (vp_updL (J r u) i X)))) (ms_raw 2 73 L (.long X :: .int (nI i) :: .ref (ms_ad r u) :: S) (ms_Z q w I J)) := mz_last rfl X
theorem mi_2_74 : ms_G 2 74 L [] σ = some (.inl none, σ) := (ms_G_at rfl _ _ _).trans rfl
-- MaskedSum.input(III)V
theorem mi_3_0 : ms_G 3 0 [l0, .int x, l2, l3] S σ = ms_G 3 1 [l0, .int x, l2, l3] (.int x :: S) σ := (ms_G_at rfl _ _ _).trans rfl
theorem mi_3_1 : ms_G 3 1 L (.int x :: S) σ = if x < nI 0 then ms_G 3 19 L S σ else ms_G 3 4 L S σ := mz_bra rfl rfl rfl
theorem mi_3_4 : ms_G 3 4 [l0, .int x, l2, l3] S σ = ms_G 3 5 [l0, .int x, l2, l3] (.int x :: S) σ := (ms_G_at rfl _ _ _).trans rfl
theorem mi_3_5 : ms_G 3 5 L S σ = ms_G 3 7 L (.int (nI 8) :: S) σ := (ms_G_at rfl _ _ _).trans rfl
theorem mi_3_7 : ms_G 3 7 L (.int y :: .int x :: S) σ = if y ≤ x then ms_G 3 19 L S σ else ms_G 3 10 L S σ := mz_bra rfl rfl rfl
theorem mi_3_10 : ms_G 3 10 [l0, l1, .int x, l3] S σ = ms_G 3 11 [l0, l1, .int x, l3] (.int x :: S) σ := (ms_G_at rfl _ _ _).trans rfl
theorem mi_3_11 : ms_G 3 11 L (.int x :: S) σ = if x < nI 0 then ms_G 3 19 L S σ else ms_G 3 14 L S σ := mz_bra rfl rfl rfl
theorem mi_3_14 : ms_G 3 14 [l0, l1, .int x, l3] S σ = ms_G 3 15 [l0, l1, .int x, l3] (.int x :: S) σ := (ms_G_at rfl _ _ _).trans rfl
theorem mi_3_15 : ms_G 3 15 L S σ = ms_G 3 16 L (.int (nI 4) :: S) σ := (ms_G_at rfl _ _ _).trans rfl
theorem mi_3_16 : ms_G 3 16 L (.int y :: .int x :: S) σ = if x < y then ms_G 3 27 L S σ else ms_G 3 19 L S σ := mz_bra rfl rfl rfl
theorem mi_3_19 : ms_G 3 19 L [] (ms_Z q false I J) = some (.inr 0, ms_Z (q.1, q.2 + 1) true I J) := mz_thr rfl
theorem mi_3_27 : ms_G 3 27 [.ref a, l1, l2, l3] S σ = ms_G 3 28 [.ref a, l1, l2, l3] (.ref a :: S) σ := (ms_G_at rfl _ _ _).trans rfl
theorem mi_3_28 : ms_G 3 28 L (.ref (ms_ad 3 0) :: S) (ms_Z q w I J) = ms_G 3 31 L (.ref (ms_ad 19 0) :: S) (ms_Z q w I J) := mz_getf (c := (2, 19)) rfl (by decide) rfl (by decide) rfl
theorem mi_3_31 : ms_G 3 31 L [.ref (ms_ad 19 0)] (ms_Z q w I J) = mo_cl 3 31 34 (ms_G 117 0 [.ref (ms_ad 19 0)] [] (ms_Z q false I J)) w L [] := (mz_call rfl rfl (mz_can1 rfl rfl rfl rfl rfl (by decide) rfl (by decide))).trans rfl
theorem mi_3_34 : ms_G 3 34 L (.int x :: S) σ = if x = nI 0 then ms_G 3 58 L S σ else ms_G 3 37 L S σ := mz_bra rfl rfl rfl
theorem mi_3_37 : ms_G 3 37 [.ref a, l1, l2, l3] S σ = ms_G 3 38 [.ref a, l1, l2, l3] (.ref a :: S) σ := (ms_G_at rfl _ _ _).trans rfl
theorem mi_3_38 : ms_G 3 38 L (.ref (ms_ad 3 0) :: S) (ms_Z q w I J) = ms_G 3 41 L (.ref (ms_ad 30 0) :: S) (ms_Z q w I J) := mz_getf (c := (2, 30)) rfl (by decide) rfl (by decide) rfl
theorem mi_3_41 : ms_G 3 41 [l0, .int x, l2, l3] S σ = ms_G 3 42 [l0, .int x, l2, l3] (.int x :: S) σ := (ms_G_at rfl _ _ _).trans rfl
theorem mi_3_42 : ms_G 3 42 L (.int (nI i) :: .ref (ms_ad r u) :: S) (ms_Z q w I J) = cond (mo_2 q.1 r u i) (ms_G 3 43 L (.ref (ms_ad (ms_er r) i) :: S) (ms_Z q w I J)) (ms_raw 3 42 L (.int (nI i) :: .ref (ms_ad r u) :: S) (ms_Z q w I J)) := mz_aald rfl
theorem mi_3_43 (hu : u < 8) : ms_G 3 43 L (.ref (ms_ad 31 u) :: S) (ms_Z q w I J) = ms_G 3 46 L (.int (I 31 u 9) :: S) (ms_Z q w I J) := mz_getf (c := (0, 9)) rfl hu rfl (by decide) rfl
theorem mi_3_46 : ms_G 3 46 L S σ = ms_G 3 47 L (.int (nI 2) :: S) σ := (ms_G_at rfl _ _ _).trans rfl
theorem mi_3_47 : ms_G 3 47 L (.int y :: .int x :: S) σ = if x ≤ y then ms_G 3 58 L S σ else ms_G 3 50 L S σ := mz_bra rfl rfl rfl
theorem mi_3_50 : ms_G 3 50 L [] (ms_Z q false I J) = some (.inr 1, ms_Z (q.1, q.2 + 1) true I J) := mz_thr rfl
theorem mi_3_58 : ms_G 3 58 [.ref a, l1, l2, l3] S σ = ms_G 3 59 [.ref a, l1, l2, l3] (.ref a :: S) σ := (ms_G_at rfl _ _ _).trans rfl
theorem mi_3_59 : ms_G 3 59 L (.ref (ms_ad 3 0) :: S) (ms_Z q w I J) = ms_G 3 62 L (.ref (ms_ad 30 0) :: S) (ms_Z q w I J) := mz_getf (c := (2, 30)) rfl (by decide) rfl (by decide) rfl
theorem mi_3_62 : ms_G 3 62 [l0, .int x, l2, l3] S σ = ms_G 3 63 [l0, .int x, l2, l3] (.int x :: S) σ := (ms_G_at rfl _ _ _).trans rfl
theorem mi_3_63 : ms_G 3 63 L (.int (nI i) :: .ref (ms_ad r u) :: S) (ms_Z q w I J) = cond (mo_2 q.1 r u i) (ms_G 3 64 L (.ref (ms_ad (ms_er r) i) :: S) (ms_Z q w I J)) (ms_raw 3 63 L (.int (nI i) :: .ref (ms_ad r u) :: S) (ms_Z q w I J)) := mz_aald rfl
theorem mi_3_64 (hu : u < 8) : ms_G 3 64 L (.ref (ms_ad 31 u) :: S) (ms_Z q w I J) = ms_G 3 67 L (.ref (ms_ad 33 u) :: S) (ms_Z q w I J) := mz_getf (c := (2, 33)) rfl hu rfl (by decide) rfl
theorem mi_3_67 : ms_G 3 67 [l0, l1, .int x, l3] S σ = ms_G 3 68 [l0, l1, .int x, l3] (.int x :: S) σ := (ms_G_at rfl _ _ _).trans rfl
theorem mi_3_68 : ms_G 3 68 [l0, l1, l2, .int x] S σ = ms_G 3 69 [l0, l1, l2, .int x] (.int x :: S) σ := (ms_G_at rfl _ _ _).trans rfl
theorem mi_3_69 : ms_G 3 69 L (.int x :: .int (nI i) :: .ref (ms_ad r u) :: S) (ms_Z q w I J) = cond (mo_0 q.1 r u i) (ms_G 3 70 L S (ms_Z q true (ms_u I r u (upd (I r u) i x)) J)) (ms_raw 3 69 L (.int x :: .int (nI i) :: .ref (ms_ad r u) :: S) (ms_Z q w I J)) := mz_iast rfl x
theorem mi_3_70 : ms_G 3 70 L [] σ = some (.inl none, σ) := (ms_G_at rfl _ _ _).trans rfl
-- MaskedSum.step(I)Z
theorem mi_4_0 : ms_G 4 0 [.ref a, l1] S σ = ms_G 4 1 [.ref a, l1] (.ref a :: S) σ := (ms_G_at rfl _ _ _).trans rfl
theorem mi_4_1 : ms_G 4 1 [l0, .int x] S σ = ms_G 4 2 [l0, .int x] (.int x :: S) σ := (ms_G_at rfl _ _ _).trans rfl
theorem mi_4_2 : ms_G 4 2 L [.int x0, .ref (ms_ad 3 0)] (ms_Z q w I J) = mo_cl 4 2 5 (ms_G 14 0 [.ref (ms_ad 3 0), .int x0] [] (ms_Z q false I J)) w L [] := (mz_call rfl rfl (mz_can1 rfl rfl rfl rfl rfl (by decide) rfl (by decide))).trans rfl
theorem mi_4_5 : ms_G 4 5 L (.int x :: S) σ = if x = nI 0 then ms_G 4 8 L S σ else ms_G 4 16 L S σ := mz_bra rfl rfl rfl
theorem mi_4_8 : ms_G 4 8 L [] (ms_Z q false I J) = some (.inr 0, ms_Z (q.1, q.2 + 1) true I J) := mz_thr rfl
theorem mi_4_16 : ms_G 4 16 [.ref a, l1] S σ = ms_G 4 17 [.ref a, l1] (.ref a :: S) σ := (ms_G_at rfl _ _ _).trans rfl
theorem mi_4_17 : ms_G 4 17 L (.ref (ms_ad 3 0) :: S) (ms_Z q w I J) = ms_G 4 20 L (.ref (ms_ad 19 0) :: S) (ms_Z q w I J) := mz_getf (c := (2, 19)) rfl (by decide) rfl (by decide) rfl
theorem mi_4_20 : ms_G 4 20 L [.ref (ms_ad 19 0)] (ms_Z q w I J) = mo_cl 4 20 23 (ms_G 117 0 [.ref (ms_ad 19 0)] [] (ms_Z q false I J)) w L [] := (mz_call rfl rfl (mz_can1 rfl rfl rfl rfl rfl (by decide) rfl (by decide))).trans rfl
theorem mi_4_23 : ms_G 4 23 L (.int x :: S) σ = if x = nI 0 then ms_G 4 26 L S σ else ms_G 4 34 L S σ := mz_bra rfl rfl rfl
theorem mi_4_26 : ms_G 4 26 L [] (ms_Z q false I J) = some (.inr 1, ms_Z (q.1, q.2 + 1) true I J) := mz_thr rfl
theorem mi_4_34 : ms_G 4 34 [.ref a, l1] S σ = ms_G 4 35 [.ref a, l1] (.ref a :: S) σ := (ms_G_at rfl _ _ _).trans rfl
theorem mi_4_35 : ms_G 4 35 L (.ref (ms_ad 3 0) :: S) (ms_Z q w I J) = ms_G 4 38 L (.ref (ms_ad 30 0) :: S) (ms_Z q w I J) := mz_getf (c := (2, 30)) rfl (by decide) rfl (by decide) rfl
theorem mi_4_38 : ms_G 4 38 [l0, .int x] S σ = ms_G 4 39 [l0, .int x] (.int x :: S) σ := (ms_G_at rfl _ _ _).trans rfl
theorem mi_4_39 : ms_G 4 39 L (.int (nI i) :: .ref (ms_ad r u) :: S) (ms_Z q w I J) = cond (mo_2 q.1 r u i) (ms_G 4 40 L (.ref (ms_ad (ms_er r) i) :: S) (ms_Z q w I J)) (ms_raw 4 39 L (.int (nI i) :: .ref (ms_ad r u) :: S) (ms_Z q w I J)) := mz_aald rfl
theorem mi_4_40 : ms_G 4 40 [.ref a, l1] S σ = ms_G 4 41 [.ref a, l1] (.ref a :: S) σ := (ms_G_at rfl _ _ _).trans rfl
theorem mi_4_41 : ms_G 4 41 L (.ref (ms_ad 3 0) :: S) (ms_Z q w I J) = ms_G 4 44 L (.ref (ms_ad 14 0) :: S) (ms_Z q w I J) := mz_getf (c := (2, 14)) rfl (by decide) rfl (by decide) rfl
theorem mi_4_44 : ms_G 4 44 [.ref a, l1] S σ = ms_G 4 45 [.ref a, l1] (.ref a :: S) σ := (ms_G_at rfl _ _ _).trans rfl
theorem mi_4_45 : ms_G 4 45 L (.ref (ms_ad 3 0) :: S) (ms_Z q w I J) = ms_G 4 48 L (.ref (ms_ad 4 0) :: S) (ms_Z q w I J) := mz_getf (c := (2, 4)) rfl (by decide) rfl (by decide) rfl
theorem mi_4_48 : ms_G 4 48 [.ref a, l1] S σ = ms_G 4 49 [.ref a, l1] (.ref a :: S) σ := (ms_G_at rfl _ _ _).trans rfl
theorem mi_4_49 : ms_G 4 49 L (.ref (ms_ad 3 0) :: S) (ms_Z q w I J) = ms_G 4 52 L (.ref (ms_ad 19 0) :: S) (ms_Z q w I J) := mz_getf (c := (2, 19)) rfl (by decide) rfl (by decide) rfl
theorem mi_4_52 : ms_G 4 52 L (.ref (ms_ad 19 0) :: S) (ms_Z q w I J) = ms_G 4 55 L (.int (I 19 0 1) :: S) (ms_Z q w I J) := mz_getf (c := (0, 1)) rfl (by decide) rfl (by decide) rfl
theorem mi_4_55 (hu : u < 8) : ms_G 4 55 L [.int x2, .ref a1, .ref a0, .ref (ms_ad 31 u)] (ms_Z q w I J) = mo_cl 4 55 58 (ms_G 97 0 [.ref (ms_ad 31 u), .ref a0, .ref a1, .int x2, .null] [] (ms_Z q false I J)) w L [] := (mz_call rfl rfl (mz_can1 rfl rfl rfl rfl rfl hu rfl (by decide))).trans rfl
theorem mi_4_58 : ms_G 4 58 L [.int (nI 0)] σ = some (.inl (some (.int (nI 0))), σ) := (ms_G_at rfl _ _ _).trans rfl
theorem mi_4_58_1 : ms_G 4 58 L [.int (nI 1)] σ = some (.inl (some (.int (nI 1))), σ) := (ms_G_at rfl _ _ _).trans rfl
theorem mi_4_58_b (B : Bool) : ms_G 4 58 L [.int (ms_b B)] σ = some (.inl (some (.int (ms_b B))), σ) := by cases B <;> exact (ms_G_at rfl _ _ _).trans rfl
-- MaskedSum.close()I
theorem mi_5_0 : ms_G 5 0 [.ref a] S σ = ms_G 5 1 [.ref a] (.ref a :: S) σ := (ms_G_at rfl _ _ _).trans rfl
theorem mi_5_1 : ms_G 5 1 L (.ref (ms_ad 3 0) :: S) (ms_Z q w I J) = ms_G 5 4 L (.ref (ms_ad 19 0) :: S) (ms_Z q w I J) := mz_getf (c := (2, 19)) rfl (by decide) rfl (by decide) rfl
theorem mi_5_4 : ms_G 5 4 L [.ref (ms_ad 19 0)] (ms_Z q w I J) = mo_cl 5 4 7 (ms_G 117 0 [.ref (ms_ad 19 0)] [] (ms_Z q false I J)) w L [] := (mz_call rfl rfl (mz_can1 rfl rfl rfl rfl rfl (by decide) rfl (by decide))).trans rfl
theorem mi_5_7 : ms_G 5 7 L (.int x :: S) σ = if x = nI 0 then ms_G 5 10 L S σ else ms_G 5 18 L S σ := mz_bra rfl rfl rfl
theorem mi_5_10 : ms_G 5 10 L [] (ms_Z q false I J) = some (.inr 1, ms_Z (q.1, q.2 + 1) true I J) := mz_thr rfl
theorem mi_5_18 : ms_G 5 18 [.ref a] S σ = ms_G 5 19 [.ref a] (.ref a :: S) σ := (ms_G_at rfl _ _ _).trans rfl
theorem mi_5_19 : ms_G 5 19 L (.ref (ms_ad 3 0) :: S) (ms_Z q w I J) = ms_G 5 22 L (.ref (ms_ad 19 0) :: S) (ms_Z q w I J) := mz_getf (c := (2, 19)) rfl (by decide) rfl (by decide) rfl
theorem mi_5_22 : ms_G 5 22 [.ref a] S σ = ms_G 5 23 [.ref a] (.ref a :: S) σ := (ms_G_at rfl _ _ _).trans rfl
theorem mi_5_23 : ms_G 5 23 L (.ref (ms_ad 3 0) :: S) (ms_Z q w I J) = ms_G 5 26 L (.ref (ms_ad 14 0) :: S) (ms_Z q w I J) := mz_getf (c := (2, 14)) rfl (by decide) rfl (by decide) rfl
theorem mi_5_26 : ms_G 5 26 [.ref a] S σ = ms_G 5 27 [.ref a] (.ref a :: S) σ := (ms_G_at rfl _ _ _).trans rfl
theorem mi_5_27 : ms_G 5 27 L (.ref (ms_ad 3 0) :: S) (ms_Z q w I J) = ms_G 5 30 L (.ref (ms_ad 4 0) :: S) (ms_Z q w I J) := mz_getf (c := (2, 4)) rfl (by decide) rfl (by decide) rfl
theorem mi_5_30 : ms_G 5 30 L [.ref a1, .ref a0, .ref (ms_ad 19 0)] (ms_Z q w I J) = mo_cl 5 30 33 (ms_G 122 0 [.ref (ms_ad 19 0), .ref a0, .ref a1] [] (ms_Z q false I J)) w L [] := (mz_call rfl rfl (mz_can1 rfl rfl rfl rfl rfl (by decide) rfl (by decide))).trans rfl
theorem mi_5_33 : ms_G 5 33 [.ref a] S σ = ms_G 5 34 [.ref a] (.ref a :: S) σ := (ms_G_at rfl _ _ _).trans rfl
theorem mi_5_34 : ms_G 5 34 L (.ref (ms_ad 3 0) :: S) (ms_Z q w I J) = ms_G 5 37 L (.ref (ms_ad 19 0) :: S) (ms_Z q w I J) := mz_getf (c := (2, 19)) rfl (by decide) rfl (by decide) rfl
theorem mi_5_37 : ms_G 5 37 L (.ref (ms_ad 19 0) :: S) (ms_Z q w I J) = ms_G 5 40 L (.int (I 19 0 2) :: S) (ms_Z q w I J) := mz_getf (c := (0, 2)) rfl (by decide) rfl (by decide) rfl
theorem mi_5_40 : ms_G 5 40 L [.int x] σ = some (.inl (some (.int x)), σ) := (ms_G_at rfl _ _ _).trans rfl
-- MaskedSum.deliver(I)Z
theorem mi_6_0 : ms_G 6 0 [.ref a, l1, l2] S σ = ms_G 6 1 [.ref a, l1, l2] (.ref a :: S) σ := (ms_G_at rfl _ _ _).trans rfl
theorem mi_6_1 : ms_G 6 1 L (.ref (ms_ad 3 0) :: S) (ms_Z q w I J) = ms_G 6 4 L (.ref (ms_ad 14 0) :: S) (ms_Z q w I J) := mz_getf (c := (2, 14)) rfl (by decide) rfl (by decide) rfl
theorem mi_6_4 : ms_G 6 4 [l0, .int x, l2] S σ = ms_G 6 5 [l0, .int x, l2] (.int x :: S) σ := (ms_G_at rfl _ _ _).trans rfl
theorem mi_6_5 : ms_G 6 5 L [.int x0, .ref (ms_ad 14 0)] (ms_Z q w I J) = mo_cl 6 5 8 (ms_G 76 0 [.ref (ms_ad 14 0), .int x0] [] (ms_Z q false I J)) w L [] := (mz_call rfl rfl (mz_can1 rfl rfl rfl rfl rfl (by decide) rfl (by decide))).trans rfl
theorem mi_6_8 : ms_G 6 8 L (.int x :: S) σ = if x = nI 0 then ms_G 6 11 L S σ else ms_G 6 19 L S σ := mz_bra rfl rfl rfl
theorem mi_6_11 : ms_G 6 11 L [] (ms_Z q false I J) = some (.inr 0, ms_Z (q.1, q.2 + 1) true I J) := mz_thr rfl
theorem mi_6_19 : ms_G 6 19 [.ref a, l1, l2] S σ = ms_G 6 20 [.ref a, l1, l2] (.ref a :: S) σ := (ms_G_at rfl _ _ _).trans rfl
theorem mi_6_20 : ms_G 6 20 L (.ref (ms_ad 3 0) :: S) (ms_Z q w I J) = ms_G 6 23 L (.ref (ms_ad 14 0) :: S) (ms_Z q w I J) := mz_getf (c := (2, 14)) rfl (by decide) rfl (by decide) rfl
theorem mi_6_23 : ms_G 6 23 [l0, .int x, l2] S σ = ms_G 6 24 [l0, .int x, l2] (.int x :: S) σ := (ms_G_at rfl _ _ _).trans rfl
theorem mi_6_24 : ms_G 6 24 L [.int x0, .ref (ms_ad 14 0)] (ms_Z q w I J) = mo_cl 6 24 27 (ms_G 78 0 [.ref (ms_ad 14 0), .int x0, .null] [] (ms_Z q false I J)) w L [] := (mz_call rfl rfl (mz_can1 rfl rfl rfl rfl rfl (by decide) rfl (by decide))).trans rfl
theorem mi_6_27 : ms_G 6 27 [l0, .int y, l2] (.ref a :: S) σ = ms_G 6 28 [l0, .int y, .ref a] S σ := (ms_G_at rfl _ _ _).trans rfl
theorem mi_6_28 : ms_G 6 28 [l0, l1, .ref a] S σ = ms_G 6 29 [l0, l1, .ref a] (.ref a :: S) σ := (ms_G_at rfl _ _ _).trans rfl
theorem mi_6_29 (hu : u < 56) : ms_G 6 29 L (.ref (ms_ad 17 u) :: S) (ms_Z q w I J) = ms_G 6 32 L (.int (nI (ms_sv 2 u)) :: S) (ms_Z q w I J) := mz_getf (c := (3, 2)) rfl hu rfl (by decide) rfl
theorem mi_6_32 : ms_G 6 32 L (.int x :: S) σ = if x = nI 0 then ms_G 6 63 L S σ else ms_G 6 35 L S σ := mz_bra rfl rfl rfl
theorem mi_6_35 : ms_G 6 35 [.ref a, l1, l2] S σ = ms_G 6 36 [.ref a, l1, l2] (.ref a :: S) σ := (ms_G_at rfl _ _ _).trans rfl
theorem mi_6_36 : ms_G 6 36 L (.ref (ms_ad 3 0) :: S) (ms_Z q w I J) = ms_G 6 39 L (.ref (ms_ad 30 0) :: S) (ms_Z q w I J) := mz_getf (c := (2, 30)) rfl (by decide) rfl (by decide) rfl
theorem mi_6_39 : ms_G 6 39 [l0, l1, .ref a] S σ = ms_G 6 40 [l0, l1, .ref a] (.ref a :: S) σ := (ms_G_at rfl _ _ _).trans rfl
theorem mi_6_40 (hu : u < 56) : ms_G 6 40 L (.ref (ms_ad 17 u) :: S) (ms_Z q w I J) = ms_G 6 43 L (.int (nI (ms_sv 1 u)) :: S) (ms_Z q w I J) := mz_getf (c := (3, 1)) rfl hu rfl (by decide) rfl
theorem mi_6_43 : ms_G 6 43 L (.int (nI i) :: .ref (ms_ad r u) :: S) (ms_Z q w I J) = cond (mo_2 q.1 r u i) (ms_G 6 44 L (.ref (ms_ad (ms_er r) i) :: S) (ms_Z q w I J)) (ms_raw 6 43 L (.int (nI i) :: .ref (ms_ad r u) :: S) (ms_Z q w I J)) := mz_aald rfl
theorem mi_6_44 : ms_G 6 44 [l0, l1, .ref a] S σ = ms_G 6 45 [l0, l1, .ref a] (.ref a :: S) σ := (ms_G_at rfl _ _ _).trans rfl
theorem mi_6_45 : ms_G 6 45 [.ref a, l1, l2] S σ = ms_G 6 46 [.ref a, l1, l2] (.ref a :: S) σ := (ms_G_at rfl _ _ _).trans rfl
theorem mi_6_46 : ms_G 6 46 L (.ref (ms_ad 3 0) :: S) (ms_Z q w I J) = ms_G 6 49 L (.ref (ms_ad 19 0) :: S) (ms_Z q w I J) := mz_getf (c := (2, 19)) rfl (by decide) rfl (by decide) rfl
theorem mi_6_49 : ms_G 6 49 L (.ref (ms_ad 19 0) :: S) (ms_Z q w I J) = ms_G 6 52 L (.int (I 19 0 0) :: S) (ms_Z q w I J) := mz_getf (c := (0, 0)) rfl (by decide) rfl (by decide) rfl
theorem mi_6_52 : ms_G 6 52 [.ref a, l1, l2] S σ = ms_G 6 53 [.ref a, l1, l2] (.ref a :: S) σ := (ms_G_at rfl _ _ _).trans rfl
theorem mi_6_53 : ms_G 6 53 L (.ref (ms_ad 3 0) :: S) (ms_Z q w I J) = ms_G 6 56 L (.ref (ms_ad 19 0) :: S) (ms_Z q w I J) := mz_getf (c := (2, 19)) rfl (by decide) rfl (by decide) rfl
theorem mi_6_56 : ms_G 6 56 L (.ref (ms_ad 19 0) :: S) (ms_Z q w I J) = ms_G 6 59 L (.int (I 19 0 1) :: S) (ms_Z q w I J) := mz_getf (c := (0, 1)) rfl (by decide) rfl (by decide) rfl
theorem mi_6_59 (hu : u < 8) : ms_G 6 59 L [.int x2, .int x1, .ref a0, .ref (ms_ad 31 u)] (ms_Z q w I J) = mo_cl 6 59 62 (ms_G 95 0 [.ref (ms_ad 31 u), .ref a0, .int x1, .int x2, .null, .null] [] (ms_Z q false I J)) w L [] := (mz_call rfl rfl (mz_can1 rfl rfl rfl rfl rfl hu rfl (by decide))).trans rfl
theorem mi_6_62 : ms_G 6 62 L [.int (nI 0)] σ = some (.inl (some (.int (nI 0))), σ) := (ms_G_at rfl _ _ _).trans rfl
theorem mi_6_62_1 : ms_G 6 62 L [.int (nI 1)] σ = some (.inl (some (.int (nI 1))), σ) := (ms_G_at rfl _ _ _).trans rfl
theorem mi_6_62_b (B : Bool) : ms_G 6 62 L [.int (ms_b B)] σ = some (.inl (some (.int (ms_b B))), σ) := by cases B <;> exact (ms_G_at rfl _ _ _).trans rfl
theorem mi_6_63 : ms_G 6 63 [.ref a, l1, l2] S σ = ms_G 6 64 [.ref a, l1, l2] (.ref a :: S) σ := (ms_G_at rfl _ _ _).trans rfl
theorem mi_6_64 : ms_G 6 64 L (.ref (ms_ad 3 0) :: S) (ms_Z q w I J) = ms_G 6 67 L (.ref (ms_ad 19 0) :: S) (ms_Z q w I J) := mz_getf (c := (2, 19)) rfl (by decide) rfl (by decide) rfl
theorem mi_6_67 : ms_G 6 67 [l0, l1, .ref a] S σ = ms_G 6 68 [l0, l1, .ref a] (.ref a :: S) σ := (ms_G_at rfl _ _ _).trans rfl
theorem mi_6_68 : ms_G 6 68 L [.ref a0, .ref (ms_ad 19 0)] (ms_Z q w I J) = mo_cl 6 68 71 (ms_G 119 0 [.ref (ms_ad 19 0), .ref a0, .null, .null] [] (ms_Z q false I J)) w L [] := (mz_call rfl rfl (mz_can1 rfl rfl rfl rfl rfl (by decide) rfl (by decide))).trans rfl
theorem mi_6_71 : ms_G 6 71 L [.int (nI 0)] σ = some (.inl (some (.int (nI 0))), σ) := (ms_G_at rfl _ _ _).trans rfl
theorem mi_6_71_1 : ms_G 6 71 L [.int (nI 1)] σ = some (.inl (some (.int (nI 1))), σ) := (ms_G_at rfl _ _ _).trans rfl
theorem mi_6_71_b (B : Bool) : ms_G 6 71 L [.int (ms_b B)] σ = some (.inl (some (.int (ms_b B))), σ) := by cases B <;> exact (ms_G_at rfl _ _ _).trans rfl
-- MaskedSum.lose(I)V
theorem mi_7_0 : ms_G 7 0 [.ref a, l1] S σ = ms_G 7 1 [.ref a, l1] (.ref a :: S) σ := (ms_G_at rfl _ _ _).trans rfl
theorem mi_7_1 : ms_G 7 1 L (.ref (ms_ad 3 0) :: S) (ms_Z q w I J) = ms_G 7 4 L (.ref (ms_ad 14 0) :: S) (ms_Z q w I J) := mz_getf (c := (2, 14)) rfl (by decide) rfl (by decide) rfl
theorem mi_7_4 : ms_G 7 4 [l0, .int x] S σ = ms_G 7 5 [l0, .int x] (.int x :: S) σ := (ms_G_at rfl _ _ _).trans rfl
theorem mi_7_5 : ms_G 7 5 L [.int x0, .ref (ms_ad 14 0)] (ms_Z q w I J) = mo_cl 7 5 8 (ms_G 76 0 [.ref (ms_ad 14 0), .int x0] [] (ms_Z q false I J)) w L [] := (mz_call rfl rfl (mz_can1 rfl rfl rfl rfl rfl (by decide) rfl (by decide))).trans rfl
theorem mi_7_8 : ms_G 7 8 L (.int x :: S) σ = if x = nI 0 then ms_G 7 11 L S σ else ms_G 7 19 L S σ := mz_bra rfl rfl rfl
theorem mi_7_11 : ms_G 7 11 L [] (ms_Z q false I J) = some (.inr 0, ms_Z (q.1, q.2 + 1) true I J) := mz_thr rfl
theorem mi_7_19 : ms_G 7 19 [.ref a, l1] S σ = ms_G 7 20 [.ref a, l1] (.ref a :: S) σ := (ms_G_at rfl _ _ _).trans rfl
theorem mi_7_20 : ms_G 7 20 L (.ref (ms_ad 3 0) :: S) (ms_Z q w I J) = ms_G 7 23 L (.ref (ms_ad 14 0) :: S) (ms_Z q w I J) := mz_getf (c := (2, 14)) rfl (by decide) rfl (by decide) rfl
theorem mi_7_23 : ms_G 7 23 [l0, .int x] S σ = ms_G 7 24 [l0, .int x] (.int x :: S) σ := (ms_G_at rfl _ _ _).trans rfl
theorem mi_7_24 : ms_G 7 24 L [.int x0, .ref (ms_ad 14 0)] (ms_Z q w I J) = mo_cl 7 24 27 (ms_G 78 0 [.ref (ms_ad 14 0), .int x0, .null] [] (ms_Z q false I J)) w L [] := (mz_call rfl rfl (mz_can1 rfl rfl rfl rfl rfl (by decide) rfl (by decide))).trans rfl
theorem mi_7_27 : ms_G 7 27 L (.ref a :: S) σ = ms_G 7 28 L S σ := (ms_G_at rfl _ _ _).trans rfl
theorem mi_7_28 : ms_G 7 28 L [] σ = some (.inl none, σ) := (ms_G_at rfl _ _ _).trans rfl
-- MaskedSum.alter(III)V
theorem mi_8_0 : ms_G 8 0 [.ref a, l1, l2, l3] S σ = ms_G 8 1 [.ref a, l1, l2, l3] (.ref a :: S) σ := (ms_G_at rfl _ _ _).trans rfl
theorem mi_8_1 : ms_G 8 1 L (.ref (ms_ad 3 0) :: S) (ms_Z q w I J) = ms_G 8 4 L (.ref (ms_ad 14 0) :: S) (ms_Z q w I J) := mz_getf (c := (2, 14)) rfl (by decide) rfl (by decide) rfl
theorem mi_8_4 : ms_G 8 4 [l0, .int x, l2, l3] S σ = ms_G 8 5 [l0, .int x, l2, l3] (.int x :: S) σ := (ms_G_at rfl _ _ _).trans rfl
theorem mi_8_5 : ms_G 8 5 L [.int x0, .ref (ms_ad 14 0)] (ms_Z q w I J) = mo_cl 8 5 8 (ms_G 76 0 [.ref (ms_ad 14 0), .int x0] [] (ms_Z q false I J)) w L [] := (mz_call rfl rfl (mz_can1 rfl rfl rfl rfl rfl (by decide) rfl (by decide))).trans rfl
theorem mi_8_8 : ms_G 8 8 L (.int x :: S) σ = if x = nI 0 then ms_G 8 31 L S σ else ms_G 8 11 L S σ := mz_bra rfl rfl rfl
theorem mi_8_11 : ms_G 8 11 [l0, l1, .int x, l3] S σ = ms_G 8 12 [l0, l1, .int x, l3] (.int x :: S) σ := (ms_G_at rfl _ _ _).trans rfl
theorem mi_8_12 : ms_G 8 12 L (.int x :: S) σ = if x < nI 0 then ms_G 8 31 L S σ else ms_G 8 15 L S σ := mz_bra rfl rfl rfl
theorem mi_8_15 : ms_G 8 15 [l0, l1, .int x, l3] S σ = ms_G 8 16 [l0, l1, .int x, l3] (.int x :: S) σ := (ms_G_at rfl _ _ _).trans rfl
theorem mi_8_16 : ms_G 8 16 [.ref a, l1, l2, l3] S σ = ms_G 8 17 [.ref a, l1, l2, l3] (.ref a :: S) σ := (ms_G_at rfl _ _ _).trans rfl
theorem mi_8_17 : ms_G 8 17 L (.ref (ms_ad 3 0) :: S) (ms_Z q w I J) = ms_G 8 20 L (.ref (ms_ad 14 0) :: S) (ms_Z q w I J) := mz_getf (c := (2, 14)) rfl (by decide) rfl (by decide) rfl
theorem mi_8_20 : ms_G 8 20 [l0, .int x, l2, l3] S σ = ms_G 8 21 [l0, .int x, l2, l3] (.int x :: S) σ := (ms_G_at rfl _ _ _).trans rfl
theorem mi_8_21 : ms_G 8 21 L (.int x0 :: .ref (ms_ad 14 0) :: [.int e0]) (ms_Z q w I J) = mo_cl 8 21 24 (ms_G 77 0 [.ref (ms_ad 14 0), .int x0] [] (ms_Z q false I J)) w L [.int e0] := (mz_call rfl rfl (mz_can1 rfl rfl rfl rfl rfl (by decide) rfl (by decide))).trans rfl
theorem mi_8_24 (hu : u < 56) : ms_G 8 24 L (.ref (ms_ad 17 u) :: S) (ms_Z q w I J) = ms_G 8 27 L (.ref (ms_ad 18 u) :: S) (ms_Z q w I J) := mz_getf (c := (2, 18)) rfl hu rfl (by decide) rfl
theorem mi_8_27 : ms_G 8 27 L (.ref (ms_ad r u) :: S) (ms_Z q w I J) = cond (mo_3 r u) (ms_G 8 28 L (.int (nI (ms_nr q.1 r u)) :: S) (ms_Z q w I J)) (ms_raw 8 27 L (.ref (ms_ad r u) :: S) (ms_Z q w I J)) := mz_alen rfl
theorem mi_8_28 : ms_G 8 28 L (.int y :: .int x :: S) σ = if x < y then ms_G 8 39 L S σ else ms_G 8 31 L S σ := mz_bra rfl rfl rfl
theorem mi_8_31 : ms_G 8 31 L [] (ms_Z q false I J) = some (.inr 0, ms_Z (q.1, q.2 + 1) true I J) := mz_thr rfl
theorem mi_8_39 : ms_G 8 39 [.ref a, l1, l2, l3] S σ = ms_G 8 40 [.ref a, l1, l2, l3] (.ref a :: S) σ := (ms_G_at rfl _ _ _).trans rfl
theorem mi_8_40 : ms_G 8 40 L (.ref (ms_ad 3 0) :: S) (ms_Z q w I J) = ms_G 8 43 L (.ref (ms_ad 14 0) :: S) (ms_Z q w I J) := mz_getf (c := (2, 14)) rfl (by decide) rfl (by decide) rfl
theorem mi_8_43 : ms_G 8 43 [l0, .int x, l2, l3] S σ = ms_G 8 44 [l0, .int x, l2, l3] (.int x :: S) σ := (ms_G_at rfl _ _ _).trans rfl
theorem mi_8_44 : ms_G 8 44 L [.int x0, .ref (ms_ad 14 0)] (ms_Z q w I J) = mo_cl 8 44 47 (ms_G 77 0 [.ref (ms_ad 14 0), .int x0] [] (ms_Z q false I J)) w L [] := (mz_call rfl rfl (mz_can1 rfl rfl rfl rfl rfl (by decide) rfl (by decide))).trans rfl
theorem mi_8_47 (hu : u < 56) : ms_G 8 47 L (.ref (ms_ad 17 u) :: S) (ms_Z q w I J) = ms_G 8 50 L (.ref (ms_ad 18 u) :: S) (ms_Z q w I J) := mz_getf (c := (2, 18)) rfl hu rfl (by decide) rfl
theorem mi_8_50 : ms_G 8 50 [l0, l1, .int x, l3] S σ = ms_G 8 51 [l0, l1, .int x, l3] (.int x :: S) σ := (ms_G_at rfl _ _ _).trans rfl
theorem mi_8_51 : ms_G 8 51 L (.int x :: .ref b :: S) σ = ms_G 8 52 L (.int x :: .ref b :: .int x :: .ref b :: S) σ := (ms_G_at rfl _ _ _).trans rfl
theorem mi_8_52 : ms_G 8 52 L (.int (nI i) :: .ref (ms_ad r u) :: S) (ms_Z q w I J) = cond (mo_0 q.1 r u i) (ms_G 8 53 L (.int (I r u i) :: S) (ms_Z q w I J)) (ms_raw 8 52 L (.int (nI i) :: .ref (ms_ad r u) :: S) (ms_Z q w I J)) := mz_iald rfl
theorem mi_8_53 : ms_G 8 53 [l0, l1, l2, .int x] S σ = ms_G 8 54 [l0, l1, l2, .int x] (.int x :: S) σ := (ms_G_at rfl _ _ _).trans rfl
theorem mi_8_54 : ms_G 8 54 L (.int y :: .int x :: S) σ = ms_G 8 55 L (.int (x ^^^ y) :: S) σ := (ms_G_at rfl _ _ _).trans rfl
theorem mi_8_55 : ms_G 8 55 L (.int x :: .int (nI i) :: .ref (ms_ad r u) :: S) (ms_Z q w I J) = cond (mo_0 q.1 r u i) (ms_G 8 56 L S (ms_Z q true (ms_u I r u (upd (I r u) i x)) J)) (ms_raw 8 55 L (.int x :: .int (nI i) :: .ref (ms_ad r u) :: S) (ms_Z q w I J)) := mz_iast rfl x
theorem mi_8_56 : ms_G 8 56 L [] σ = some (.inl none, σ) := (ms_G_at rfl _ _ _).trans rfl
-- MaskedSum.message(II)I
theorem mi_9_0 : ms_G 9 0 [.ref a, l1, l2] S σ = ms_G 9 1 [.ref a, l1, l2] (.ref a :: S) σ := (ms_G_at rfl _ _ _).trans rfl
theorem mi_9_1 : ms_G 9 1 L (.ref (ms_ad 3 0) :: S) (ms_Z q w I J) = ms_G 9 4 L (.ref (ms_ad 14 0) :: S) (ms_Z q w I J) := mz_getf (c := (2, 14)) rfl (by decide) rfl (by decide) rfl
theorem mi_9_4 : ms_G 9 4 [l0, .int x, l2] S σ = ms_G 9 5 [l0, .int x, l2] (.int x :: S) σ := (ms_G_at rfl _ _ _).trans rfl
theorem mi_9_5 : ms_G 9 5 L [.int x0, .ref (ms_ad 14 0)] (ms_Z q w I J) = mo_cl 9 5 8 (ms_G 76 0 [.ref (ms_ad 14 0), .int x0] [] (ms_Z q false I J)) w L [] := (mz_call rfl rfl (mz_can1 rfl rfl rfl rfl rfl (by decide) rfl (by decide))).trans rfl
theorem mi_9_8 : ms_G 9 8 L (.int x :: S) σ = if x = nI 0 then ms_G 9 33 L S σ else ms_G 9 11 L S σ := mz_bra rfl rfl rfl
theorem mi_9_11 : ms_G 9 11 [l0, l1, .int x] S σ = ms_G 9 12 [l0, l1, .int x] (.int x :: S) σ := (ms_G_at rfl _ _ _).trans rfl
theorem mi_9_12 : ms_G 9 12 L (.int x :: S) σ = if x < nI 0 then ms_G 9 33 L S σ else ms_G 9 15 L S σ := mz_bra rfl rfl rfl
theorem mi_9_15 : ms_G 9 15 [l0, l1, .int x] S σ = ms_G 9 16 [l0, l1, .int x] (.int x :: S) σ := (ms_G_at rfl _ _ _).trans rfl
theorem mi_9_16 : ms_G 9 16 L S σ = ms_G 9 17 L (.int (nI 4) :: S) σ := (ms_G_at rfl _ _ _).trans rfl
theorem mi_9_17 : ms_G 9 17 [.ref a, l1, l2] S σ = ms_G 9 18 [.ref a, l1, l2] (.ref a :: S) σ := (ms_G_at rfl _ _ _).trans rfl
theorem mi_9_18 : ms_G 9 18 L (.ref (ms_ad 3 0) :: S) (ms_Z q w I J) = ms_G 9 21 L (.ref (ms_ad 14 0) :: S) (ms_Z q w I J) := mz_getf (c := (2, 14)) rfl (by decide) rfl (by decide) rfl
theorem mi_9_21 : ms_G 9 21 [l0, .int x, l2] S σ = ms_G 9 22 [l0, .int x, l2] (.int x :: S) σ := (ms_G_at rfl _ _ _).trans rfl
theorem mi_9_22 : ms_G 9 22 L (.int x0 :: .ref (ms_ad 14 0) :: [.int e0, .int e1]) (ms_Z q w I J) = mo_cl 9 22 25 (ms_G 77 0 [.ref (ms_ad 14 0), .int x0] [] (ms_Z q false I J)) w L [.int e0, .int e1] := (mz_call rfl rfl (mz_can1 rfl rfl rfl rfl rfl (by decide) rfl (by decide))).trans rfl
theorem mi_9_25 (hu : u < 56) : ms_G 9 25 L (.ref (ms_ad 17 u) :: S) (ms_Z q w I J) = ms_G 9 28 L (.ref (ms_ad 18 u) :: S) (ms_Z q w I J) := mz_getf (c := (2, 18)) rfl hu rfl (by decide) rfl
theorem mi_9_28 : ms_G 9 28 L (.ref (ms_ad r u) :: S) (ms_Z q w I J) = cond (mo_3 r u) (ms_G 9 29 L (.int (nI (ms_nr q.1 r u)) :: S) (ms_Z q w I J)) (ms_raw 9 28 L (.ref (ms_ad r u) :: S) (ms_Z q w I J)) := mz_alen rfl
theorem mi_9_29 : ms_G 9 29 L (.int y :: .int x :: S) σ = ms_G 9 30 L (.int (x + y) :: S) σ := (ms_G_at rfl _ _ _).trans rfl
theorem mi_9_30 : ms_G 9 30 L (.int y :: .int x :: S) σ = if x < y then ms_G 9 41 L S σ else ms_G 9 33 L S σ := mz_bra rfl rfl rfl
theorem mi_9_33 : ms_G 9 33 L [] (ms_Z q false I J) = some (.inr 0, ms_Z (q.1, q.2 + 1) true I J) := mz_thr rfl
theorem mi_9_41 : ms_G 9 41 [.ref a, l1, l2] S σ = ms_G 9 42 [.ref a, l1, l2] (.ref a :: S) σ := (ms_G_at rfl _ _ _).trans rfl
theorem mi_9_42 : ms_G 9 42 L (.ref (ms_ad 3 0) :: S) (ms_Z q w I J) = ms_G 9 45 L (.ref (ms_ad 14 0) :: S) (ms_Z q w I J) := mz_getf (c := (2, 14)) rfl (by decide) rfl (by decide) rfl
theorem mi_9_45 : ms_G 9 45 [l0, .int x, l2] S σ = ms_G 9 46 [l0, .int x, l2] (.int x :: S) σ := (ms_G_at rfl _ _ _).trans rfl
theorem mi_9_46 : ms_G 9 46 L [.int x0, .ref (ms_ad 14 0)] (ms_Z q w I J) = mo_cl 9 46 49 (ms_G 77 0 [.ref (ms_ad 14 0), .int x0] [] (ms_Z q false I J)) w L [] := (mz_call rfl rfl (mz_can1 rfl rfl rfl rfl rfl (by decide) rfl (by decide))).trans rfl
theorem mi_9_49 : ms_G 9 49 [l0, l1, .int x] S σ = ms_G 9 50 [l0, l1, .int x] (.int x :: S) σ := (ms_G_at rfl _ _ _).trans rfl
theorem mi_9_50 (hu : u < 56) : ms_G 9 50 L [.int x0, .ref (ms_ad 17 u)] (ms_Z q w I J) = mo_cl 9 50 53 (ms_G 83 0 [.ref (ms_ad 17 u), .int x0] [] (ms_Z q false I J)) w L [] := (mz_call rfl rfl (mz_can1 rfl rfl rfl rfl rfl hu rfl (by decide))).trans rfl
theorem mi_9_53 : ms_G 9 53 L [.int x] σ = some (.inl (some (.int x)), σ) := (ms_G_at rfl _ _ _).trans rfl
-- MaskedSum.total(I)I
theorem mi_10_0 : ms_G 10 0 [l0, .int x] S σ = ms_G 10 1 [l0, .int x] (.int x :: S) σ := (ms_G_at rfl _ _ _).trans rfl
theorem mi_10_1 : ms_G 10 1 L (.int x :: S) σ = if x < nI 0 then ms_G 10 9 L S σ else ms_G 10 4 L S σ := mz_bra rfl rfl rfl
theorem mi_10_4 : ms_G 10 4 [l0, .int x] S σ = ms_G 10 5 [l0, .int x] (.int x :: S) σ := (ms_G_at rfl _ _ _).trans rfl
theorem mi_10_5 : ms_G 10 5 L S σ = ms_G 10 6 L (.int (nI 4) :: S) σ := (ms_G_at rfl _ _ _).trans rfl
theorem mi_10_6 : ms_G 10 6 L (.int y :: .int x :: S) σ = if x < y then ms_G 10 17 L S σ else ms_G 10 9 L S σ := mz_bra rfl rfl rfl
theorem mi_10_9 : ms_G 10 9 L [] (ms_Z q false I J) = some (.inr 0, ms_Z (q.1, q.2 + 1) true I J) := mz_thr rfl
theorem mi_10_17 : ms_G 10 17 [.ref a, l1] S σ = ms_G 10 18 [.ref a, l1] (.ref a :: S) σ := (ms_G_at rfl _ _ _).trans rfl
theorem mi_10_18 : ms_G 10 18 L (.ref (ms_ad 3 0) :: S) (ms_Z q w I J) = ms_G 10 21 L (.ref (ms_ad 19 0) :: S) (ms_Z q w I J) := mz_getf (c := (2, 19)) rfl (by decide) rfl (by decide) rfl
theorem mi_10_21 : ms_G 10 21 L (.ref (ms_ad 19 0) :: S) (ms_Z q w I J) = ms_G 10 24 L (.int (I 19 0 2) :: S) (ms_Z q w I J) := mz_getf (c := (0, 2)) rfl (by decide) rfl (by decide) rfl
theorem mi_10_24 : ms_G 10 24 L S σ = ms_G 10 25 L (.int (nI 4) :: S) σ := (ms_G_at rfl _ _ _).trans rfl
theorem mi_10_25 : ms_G 10 25 L (.int y :: .int x :: S) σ = if x = y then ms_G 10 36 L S σ else ms_G 10 28 L S σ := mz_bra rfl rfl rfl
theorem mi_10_28 : ms_G 10 28 L [] (ms_Z q false I J) = some (.inr 1, ms_Z (q.1, q.2 + 1) true I J) := mz_thr rfl
theorem mi_10_36 : ms_G 10 36 [.ref a, l1] S σ = ms_G 10 37 [.ref a, l1] (.ref a :: S) σ := (ms_G_at rfl _ _ _).trans rfl
theorem mi_10_37 : ms_G 10 37 L (.ref (ms_ad 3 0) :: S) (ms_Z q w I J) = ms_G 10 40 L (.ref (ms_ad 19 0) :: S) (ms_Z q w I J) := mz_getf (c := (2, 19)) rfl (by decide) rfl (by decide) rfl
theorem mi_10_40 : ms_G 10 40 L (.ref (ms_ad 19 0) :: S) (ms_Z q w I J) = ms_G 10 43 L (.ref (ms_ad 29 0) :: S) (ms_Z q w I J) := mz_getf (c := (2, 29)) rfl (by decide) rfl (by decide) rfl
theorem mi_10_43 : ms_G 10 43 [l0, .int x] S σ = ms_G 10 44 [l0, .int x] (.int x :: S) σ := (ms_G_at rfl _ _ _).trans rfl
theorem mi_10_44 : ms_G 10 44 L (.int (nI i) :: .ref (ms_ad r u) :: S) (ms_Z q w I J) = cond (mo_0 q.1 r u i) (ms_G 10 45 L (.int (I r u i) :: S) (ms_Z q w I J)) (ms_raw 10 44 L (.int (nI i) :: .ref (ms_ad r u) :: S) (ms_Z q w I J)) := mz_iald rfl
theorem mi_10_45 : ms_G 10 45 L [.int x] σ = some (.inl (some (.int x)), σ) := (ms_G_at rfl _ _ _).trans rfl
-- MaskedSum.phone(II)I
theorem mi_11_0 : ms_G 11 0 [.ref a, l1, l2] S σ = ms_G 11 1 [.ref a, l1, l2] (.ref a :: S) σ := (ms_G_at rfl _ _ _).trans rfl
theorem mi_11_1 : ms_G 11 1 [l0, .int x, l2] S σ = ms_G 11 2 [l0, .int x, l2] (.int x :: S) σ := (ms_G_at rfl _ _ _).trans rfl
theorem mi_11_2 : ms_G 11 2 L [.int x0, .ref (ms_ad 3 0)] (ms_Z q w I J) = mo_cl 11 2 5 (ms_G 14 0 [.ref (ms_ad 3 0), .int x0] [] (ms_Z q false I J)) w L [] := (mz_call rfl rfl (mz_can1 rfl rfl rfl rfl rfl (by decide) rfl (by decide))).trans rfl
theorem mi_11_5 : ms_G 11 5 L (.int x :: S) σ = if x = nI 0 then ms_G 11 17 L S σ else ms_G 11 8 L S σ := mz_bra rfl rfl rfl
theorem mi_11_8 : ms_G 11 8 [l0, l1, .int x] S σ = ms_G 11 9 [l0, l1, .int x] (.int x :: S) σ := (ms_G_at rfl _ _ _).trans rfl
theorem mi_11_9 : ms_G 11 9 L (.int x :: S) σ = if x < nI 0 then ms_G 11 17 L S σ else ms_G 11 12 L S σ := mz_bra rfl rfl rfl
theorem mi_11_12 : ms_G 11 12 [l0, l1, .int x] S σ = ms_G 11 13 [l0, l1, .int x] (.int x :: S) σ := (ms_G_at rfl _ _ _).trans rfl
theorem mi_11_13 : ms_G 11 13 L S σ = ms_G 11 14 L (.int (nI 3) :: S) σ := (ms_G_at rfl _ _ _).trans rfl
theorem mi_11_14 : ms_G 11 14 L (.int y :: .int x :: S) σ = if x ≤ y then ms_G 11 25 L S σ else ms_G 11 17 L S σ := mz_bra rfl rfl rfl
theorem mi_11_17 : ms_G 11 17 L [] (ms_Z q false I J) = some (.inr 0, ms_Z (q.1, q.2 + 1) true I J) := mz_thr rfl
theorem mi_11_25 : ms_G 11 25 [.ref a, l1, l2] S σ = ms_G 11 26 [.ref a, l1, l2] (.ref a :: S) σ := (ms_G_at rfl _ _ _).trans rfl
theorem mi_11_26 : ms_G 11 26 L (.ref (ms_ad 3 0) :: S) (ms_Z q w I J) = ms_G 11 29 L (.ref (ms_ad 30 0) :: S) (ms_Z q w I J) := mz_getf (c := (2, 30)) rfl (by decide) rfl (by decide) rfl
theorem mi_11_29 : ms_G 11 29 [l0, .int x, l2] S σ = ms_G 11 30 [l0, .int x, l2] (.int x :: S) σ := (ms_G_at rfl _ _ _).trans rfl
theorem mi_11_30 : ms_G 11 30 L (.int (nI i) :: .ref (ms_ad r u) :: S) (ms_Z q w I J) = cond (mo_2 q.1 r u i) (ms_G 11 31 L (.ref (ms_ad (ms_er r) i) :: S) (ms_Z q w I J)) (ms_raw 11 30 L (.int (nI i) :: .ref (ms_ad r u) :: S) (ms_Z q w I J)) := mz_aald rfl
theorem mi_11_31 : ms_G 11 31 [l0, l1, .int x] S σ = ms_G 11 32 [l0, l1, .int x] (.int x :: S) σ := (ms_G_at rfl _ _ _).trans rfl
theorem mi_11_32 (hu : u < 8) : ms_G 11 32 L [.int x0, .ref (ms_ad 31 u)] (ms_Z q w I J) = mo_cl 11 32 35 (ms_G 94 0 [.ref (ms_ad 31 u), .int x0] [] (ms_Z q false I J)) w L [] := (mz_call rfl rfl (mz_can1 rfl rfl rfl rfl rfl hu rfl (by decide))).trans rfl
theorem mi_11_35 : ms_G 11 35 L [.int x] σ = some (.inl (some (.int x)), σ) := (ms_G_at rfl _ _ _).trans rfl
-- MaskedSum.count(I)I
theorem mi_12_0 : ms_G 12 0 [l0, .int x] S σ = ms_G 12 1 [l0, .int x] (.int x :: S) σ := (ms_G_at rfl _ _ _).trans rfl
theorem mi_12_1 : ms_G 12 1 L (.int x :: S) σ = if x = nI 0 then ms_G 12 4 L S σ else ms_G 12 14 L S σ := mz_bra rfl rfl rfl
theorem mi_12_4 : ms_G 12 4 [.ref a, l1] S σ = ms_G 12 5 [.ref a, l1] (.ref a :: S) σ := (ms_G_at rfl _ _ _).trans rfl
theorem mi_12_5 : ms_G 12 5 L (.ref (ms_ad 3 0) :: S) (ms_Z q w I J) = ms_G 12 8 L (.ref (ms_ad 14 0) :: S) (ms_Z q w I J) := mz_getf (c := (2, 14)) rfl (by decide) rfl (by decide) rfl
theorem mi_12_8 : ms_G 12 8 L (.ref (ms_ad 14 0) :: S) (ms_Z q w I J) = ms_G 12 11 L (.int (I 14 0 2) :: S) (ms_Z q w I J) := mz_getf (c := (0, 2)) rfl (by decide) rfl (by decide) rfl
theorem mi_12_11 : ms_G 12 11 L S σ = ms_G 12 22 L S σ := (ms_G_at rfl _ _ _).trans rfl
theorem mi_12_14 : ms_G 12 14 [.ref a, l1] S σ = ms_G 12 15 [.ref a, l1] (.ref a :: S) σ := (ms_G_at rfl _ _ _).trans rfl
theorem mi_12_15 : ms_G 12 15 L (.ref (ms_ad 3 0) :: S) (ms_Z q w I J) = ms_G 12 18 L (.ref (ms_ad 19 0) :: S) (ms_Z q w I J) := mz_getf (c := (2, 19)) rfl (by decide) rfl (by decide) rfl
theorem mi_12_18 : ms_G 12 18 [l0, .int x] S σ = ms_G 12 19 [l0, .int x] (.int x :: S) σ := (ms_G_at rfl _ _ _).trans rfl
theorem mi_12_19 : ms_G 12 19 L [.int x0, .ref (ms_ad 19 0)] (ms_Z q w I J) = mo_cl 12 19 22 (ms_G 118 0 [.ref (ms_ad 19 0), .int x0] [] (ms_Z q false I J)) w L [] := (mz_call rfl rfl (mz_can1 rfl rfl rfl rfl rfl (by decide) rfl (by decide))).trans rfl
theorem mi_12_22 : ms_G 12 22 L [.int x] σ = some (.inl (some (.int x)), σ) := (ms_G_at rfl _ _ _).trans rfl
-- MaskedSum.stream(IIIII)I
theorem mi_13_0 : ms_G 13 0 [l0, l1, l2, l3, l4, .int x] S σ = ms_G 13 2 [l0, l1, l2, l3, l4, .int x] (.int x :: S) σ := (ms_G_at rfl _ _ _).trans rfl
theorem mi_13_2 : ms_G 13 2 L (.int x :: S) σ = if x < nI 0 then ms_G 13 12 L S σ else ms_G 13 5 L S σ := mz_bra rfl rfl rfl
theorem mi_13_5 : ms_G 13 5 [l0, l1, l2, l3, l4, .int x] S σ = ms_G 13 7 [l0, l1, l2, l3, l4, .int x] (.int x :: S) σ := (ms_G_at rfl _ _ _).trans rfl
theorem mi_13_7 : ms_G 13 7 L S σ = ms_G 13 9 L (.int (nI 64) :: S) σ := (ms_G_at rfl _ _ _).trans rfl
theorem mi_13_9 : ms_G 13 9 L (.int y :: .int x :: S) σ = if x < y then ms_G 13 20 L S σ else ms_G 13 12 L S σ := mz_bra rfl rfl rfl
theorem mi_13_12 : ms_G 13 12 L [] (ms_Z q false I J) = some (.inr 0, ms_Z (q.1, q.2 + 1) true I J) := mz_thr rfl
theorem mi_13_20 : ms_G 13 20 [.ref a, l1, l2, l3, l4, l5] S σ = ms_G 13 21 [.ref a, l1, l2, l3, l4, l5] (.ref a :: S) σ := (ms_G_at rfl _ _ _).trans rfl
theorem mi_13_21 : ms_G 13 21 L (.ref (ms_ad 3 0) :: S) (ms_Z q w I J) = ms_G 13 24 L (.ref (ms_ad 4 0) :: S) (ms_Z q w I J) := mz_getf (c := (2, 4)) rfl (by decide) rfl (by decide) rfl
theorem mi_13_24 : ms_G 13 24 [l0, .int x, l2, l3, l4, l5] S σ = ms_G 13 25 [l0, .int x, l2, l3, l4, l5] (.int x :: S) σ := (ms_G_at rfl _ _ _).trans rfl
theorem mi_13_25 : ms_G 13 25 [l0, l1, .int x, l3, l4, l5] S σ = ms_G 13 26 [l0, l1, .int x, l3, l4, l5] (.int x :: S) σ := (ms_G_at rfl _ _ _).trans rfl
theorem mi_13_26 : ms_G 13 26 L (.int x1 :: .int x0 :: [.ref g0]) (ms_Z q w I J) = mo_cl 13 26 29 (ms_G 84 0 [.int x0, .int x1, .null, .null] [] (ms_Z q false I J)) w L [.ref g0] := (mz_call rfl rfl (mz_can0 rfl rfl rfl rfl rfl)).trans rfl
theorem mi_13_29 : ms_G 13 29 [l0, l1, l2, .int x, l4, l5] S σ = ms_G 13 30 [l0, l1, l2, .int x, l4, l5] (.int x :: S) σ := (ms_G_at rfl _ _ _).trans rfl
theorem mi_13_30 : ms_G 13 30 [l0, l1, l2, l3, .int x, l5] S σ = ms_G 13 32 [l0, l1, l2, l3, .int x, l5] (.int x :: S) σ := (ms_G_at rfl _ _ _).trans rfl
theorem mi_13_32 : ms_G 13 32 [l0, l1, l2, l3, l4, .int x] S σ = ms_G 13 34 [l0, l1, l2, l3, l4, .int x] (.int x :: S) σ := (ms_G_at rfl _ _ _).trans rfl
theorem mi_13_34 : ms_G 13 34 L S σ = ms_G 13 36 L (.int (nI 16) :: S) σ := (ms_G_at rfl _ _ _).trans rfl
theorem mi_13_36 : ms_G 13 36 L (.int (nI 16) :: .int x :: S) σ = ms_G 13 37 L (.int (x / nI 16) :: S) σ := (ms_G_at rfl _ _ _).trans rfl
theorem mi_13_37 : ms_G 13 37 L [.int x3, .int x2, .int x1, .long X0, .ref (ms_ad 4 0)] (ms_Z q w I J) = mo_cl 13 37 40 (ms_G 69 0 [.ref (ms_ad 4 0), .long X0, .null, .int x1, .int x2, .int x3] [] (ms_Z q false I J)) w L [] := (mz_call rfl rfl (mz_can1 rfl rfl rfl rfl rfl (by decide) rfl (by decide))).trans rfl
theorem mi_13_40 : ms_G 13 40 [l0, l1, l2, l3, l4, .int x] S σ = ms_G 13 42 [l0, l1, l2, l3, l4, .int x] (.int x :: S) σ := (ms_G_at rfl _ _ _).trans rfl
theorem mi_13_42 : ms_G 13 42 L S σ = ms_G 13 44 L (.int (nI 16) :: S) σ := (ms_G_at rfl _ _ _).trans rfl
theorem mi_13_44 : ms_G 13 44 L (.int (nI 16) :: .int x :: S) σ = ms_G 13 45 L (.int (x - x / nI 16 * nI 16) :: S) σ := (ms_G_at rfl _ _ _).trans rfl
theorem mi_13_45 : ms_G 13 45 L (.int (nI i) :: .ref (ms_ad r u) :: S) (ms_Z q w I J) = cond (mo_0 q.1 r u i) (ms_G 13 46 L (.int (I r u i) :: S) (ms_Z q w I J)) (ms_raw 13 45 L (.int (nI i) :: .ref (ms_ad r u) :: S) (ms_Z q w I J)) := mz_iald rfl
theorem mi_13_46 : ms_G 13 46 L [.int x] σ = some (.inl (some (.int x)), σ) := (ms_G_at rfl _ _ _).trans rfl
-- MaskedSum.isInRound(I)Z
theorem mi_14_0 : ms_G 14 0 [l0, .int x] S σ = ms_G 14 1 [l0, .int x] (.int x :: S) σ := (ms_G_at rfl _ _ _).trans rfl
theorem mi_14_1 : ms_G 14 1 L (.int x :: S) σ = if x < nI 0 then ms_G 14 19 L S σ else ms_G 14 4 L S σ := mz_bra rfl rfl rfl
theorem mi_14_4 : ms_G 14 4 [l0, .int x] S σ = ms_G 14 5 [l0, .int x] (.int x :: S) σ := (ms_G_at rfl _ _ _).trans rfl
theorem mi_14_5 : ms_G 14 5 [.ref a, l1] S σ = ms_G 14 6 [.ref a, l1] (.ref a :: S) σ := (ms_G_at rfl _ _ _).trans rfl
theorem mi_14_6 : ms_G 14 6 L (.ref (ms_ad 3 0) :: S) (ms_Z q w I J) = ms_G 14 9 L (.ref (ms_ad 19 0) :: S) (ms_Z q w I J) := mz_getf (c := (2, 19)) rfl (by decide) rfl (by decide) rfl
theorem mi_14_9 : ms_G 14 9 L (.ref (ms_ad 19 0) :: S) (ms_Z q w I J) = ms_G 14 12 L (.int (I 19 0 0) :: S) (ms_Z q w I J) := mz_getf (c := (0, 0)) rfl (by decide) rfl (by decide) rfl
theorem mi_14_12 : ms_G 14 12 L (.int y :: .int x :: S) σ = if y ≤ x then ms_G 14 19 L S σ else ms_G 14 15 L S σ := mz_bra rfl rfl rfl
theorem mi_14_15 : ms_G 14 15 L S σ = ms_G 14 16 L (.int (nI 1) :: S) σ := (ms_G_at rfl _ _ _).trans rfl
theorem mi_14_16 : ms_G 14 16 L S σ = ms_G 14 20 L S σ := (ms_G_at rfl _ _ _).trans rfl
theorem mi_14_19 : ms_G 14 19 L S σ = ms_G 14 20 L (.int (nI 0) :: S) σ := (ms_G_at rfl _ _ _).trans rfl
theorem mi_14_20 : ms_G 14 20 L [.int (nI 0)] σ = some (.inl (some (.int (nI 0))), σ) := (ms_G_at rfl _ _ _).trans rfl
theorem mi_14_20_1 : ms_G 14 20 L [.int (nI 1)] σ = some (.inl (some (.int (nI 1))), σ) := (ms_G_at rfl _ _ _).trans rfl
theorem mi_14_20_b (B : Bool) : ms_G 14 20 L [.int (ms_b B)] σ = some (.inl (some (.int (ms_b B))), σ) := by cases B <;> exact (ms_G_at rfl _ _ _).trans rfl
-- MaskedSum.isNamed(II)Z
theorem mi_15_0 : ms_G 15 0 [.int x, l1] S σ = ms_G 15 1 [.int x, l1] (.int x :: S) σ := (ms_G_at rfl _ _ _).trans rfl
theorem mi_15_1 : ms_G 15 1 [l0, .int x] S σ = ms_G 15 2 [l0, .int x] (.int x :: S) σ := (ms_G_at rfl _ _ _).trans rfl
theorem mi_15_2 : ms_G 15 2 L (.int y :: .int x :: S) σ = ms_G 15 3 L (.int ((x.toUInt32 >>> (y.toUInt32 &&& Int32.toUInt32 31)).toInt32) :: S) σ := (ms_G_at rfl _ _ _).trans rfl
theorem mi_15_3 : ms_G 15 3 L S σ = ms_G 15 4 L (.int (nI 1) :: S) σ := (ms_G_at rfl _ _ _).trans rfl
theorem mi_15_4 : ms_G 15 4 L (.int y :: .int x :: S) σ = ms_G 15 5 L (.int (x &&& y) :: S) σ := (ms_G_at rfl _ _ _).trans rfl
theorem mi_15_5 : ms_G 15 5 L (.int x :: S) σ = if x = nI 0 then ms_G 15 12 L S σ else ms_G 15 8 L S σ := mz_bra rfl rfl rfl
theorem mi_15_8 : ms_G 15 8 L S σ = ms_G 15 9 L (.int (nI 1) :: S) σ := (ms_G_at rfl _ _ _).trans rfl
theorem mi_15_9 : ms_G 15 9 L S σ = ms_G 15 13 L S σ := (ms_G_at rfl _ _ _).trans rfl
theorem mi_15_12 : ms_G 15 12 L S σ = ms_G 15 13 L (.int (nI 0) :: S) σ := (ms_G_at rfl _ _ _).trans rfl
theorem mi_15_13 : ms_G 15 13 L [.int (nI 0)] σ = some (.inl (some (.int (nI 0))), σ) := (ms_G_at rfl _ _ _).trans rfl
theorem mi_15_13_1 : ms_G 15 13 L [.int (nI 1)] σ = some (.inl (some (.int (nI 1))), σ) := (ms_G_at rfl _ _ _).trans rfl
theorem mi_15_13_b (B : Bool) : ms_G 15 13 L [.int (ms_b B)] σ = some (.inl (some (.int (ms_b B))), σ) := by cases B <;> exact (ms_G_at rfl _ _ _).trans rfl
-- MaskedSumModel.thrown()I
theorem mi_17_0 : ms_G 17 0 [.ref a] S σ = ms_G 17 1 [.ref a] (.ref a :: S) σ := (ms_G_at rfl _ _ _).trans rfl
theorem mi_17_1 : ms_G 17 1 L (.ref (ms_ad 40 0) :: S) (ms_Z q w I J) = ms_G 17 4 L (.int (I 40 0 0) :: S) (ms_Z q w I J) := mz_getf (c := (0, 0)) rfl (by decide) rfl (by decide) rfl
theorem mi_17_4 : ms_G 17 4 L [.int x] σ = some (.inl (some (.int x)), σ) := (ms_G_at rfl _ _ _).trans rfl
-- MaskedSumModel.raise(I)I
theorem mi_18_0 : ms_G 18 0 [.ref a, l1] S σ = ms_G 18 1 [.ref a, l1] (.ref a :: S) σ := (ms_G_at rfl _ _ _).trans rfl
theorem mi_18_1 : ms_G 18 1 [l0, .int x] S σ = ms_G 18 2 [l0, .int x] (.int x :: S) σ := (ms_G_at rfl _ _ _).trans rfl
theorem mi_18_2 : ms_G 18 2 L (.int x :: .ref (ms_ad 40 0) :: S) (ms_Z q w I J) = ms_G 18 5 L S (ms_Z q true (ms_u I 40 0 (upd (I 40 0) 0 x)) J) := mz_putf rfl (by decide) rfl (by decide) rfl rfl
theorem mi_18_5 : ms_G 18 5 L S σ = ms_G 18 6 L (.int (nI 0) :: S) σ := (ms_G_at rfl _ _ _).trans rfl
theorem mi_18_6 : ms_G 18 6 L [.int x] σ = some (.inl (some (.int x)), σ) := (ms_G_at rfl _ _ _).trans rfl
-- MaskedSumModel.in(III)Z
theorem mi_19_0 : ms_G 19 0 [.int x, l1, l2] S σ = ms_G 19 1 [.int x, l1, l2] (.int x :: S) σ := (ms_G_at rfl _ _ _).trans rfl
theorem mi_19_1 : ms_G 19 1 [l0, .int x, l2] S σ = ms_G 19 2 [l0, .int x, l2] (.int x :: S) σ := (ms_G_at rfl _ _ _).trans rfl
theorem mi_19_2 : ms_G 19 2 L (.int y :: .int x :: S) σ = if x < y then ms_G 19 14 L S σ else ms_G 19 5 L S σ := mz_bra rfl rfl rfl
theorem mi_19_5 : ms_G 19 5 [.int x, l1, l2] S σ = ms_G 19 6 [.int x, l1, l2] (.int x :: S) σ := (ms_G_at rfl _ _ _).trans rfl
theorem mi_19_6 : ms_G 19 6 [l0, l1, .int x] S σ = ms_G 19 7 [l0, l1, .int x] (.int x :: S) σ := (ms_G_at rfl _ _ _).trans rfl
theorem mi_19_7 : ms_G 19 7 L (.int y :: .int x :: S) σ = if y < x then ms_G 19 14 L S σ else ms_G 19 10 L S σ := mz_bra rfl rfl rfl
theorem mi_19_10 : ms_G 19 10 L S σ = ms_G 19 11 L (.int (nI 1) :: S) σ := (ms_G_at rfl _ _ _).trans rfl
theorem mi_19_11 : ms_G 19 11 L S σ = ms_G 19 15 L S σ := (ms_G_at rfl _ _ _).trans rfl
theorem mi_19_14 : ms_G 19 14 L S σ = ms_G 19 15 L (.int (nI 0) :: S) σ := (ms_G_at rfl _ _ _).trans rfl
theorem mi_19_15 : ms_G 19 15 L [.int (nI 0)] σ = some (.inl (some (.int (nI 0))), σ) := (ms_G_at rfl _ _ _).trans rfl
theorem mi_19_15_1 : ms_G 19 15 L [.int (nI 1)] σ = some (.inl (some (.int (nI 1))), σ) := (ms_G_at rfl _ _ _).trans rfl
theorem mi_19_15_b (B : Bool) : ms_G 19 15 L [.int (ms_b B)] σ = some (.inl (some (.int (ms_b B))), σ) := by cases B <;> exact (ms_G_at rfl _ _ _).trans rfl
-- MaskedSumModel.plus(JJ)J
theorem mi_20_0 : ms_G 20 0 [.long X, l1, l2, l3, l4, l5] S σ = ms_G 20 1 [.long X, l1, l2, l3, l4, l5] (.long X :: S) σ := (ms_G_at rfl _ _ _).trans rfl
theorem mi_20_1 : ms_G 20 1 [l0, l1, .long X, l3, l4, l5] S σ = ms_G 20 2 [l0, l1, .long X, l3, l4, l5] (.long X :: S) σ := (ms_G_at rfl _ _ _).trans rfl
theorem mi_20_2 : ms_G 20 2 L (.long Y :: .long X :: S) σ = ms_G 20 3 L (.long (X + Y) :: S) σ := (ms_G_at rfl _ _ _).trans rfl
theorem mi_20_3 : ms_G 20 3 [l0, l1, l2, .null, l4, l5] (.long X :: S) σ = ms_G 20 5 [l0, l1, l2, .null, .long X, .null] S σ := (ms_G_at rfl _ _ _).trans rfl
theorem mi_20_5 : ms_G 20 5 [l0, l1, l2, l3, .long X, l5] S σ = ms_G 20 7 [l0, l1, l2, l3, .long X, l5] (.long X :: S) σ := (ms_G_at rfl _ _ _).trans rfl
theorem mi_20_7 : ms_G 20 7 L S σ = ms_G 20 10 L (.long (lN 2305843009213693951) :: S) σ := (ms_G_at rfl _ _ _).trans rfl
theorem mi_20_10 : ms_G 20 10 L (.long Y :: .long X :: S) σ = ms_G 20 11 L (.int (lg_cmp X Y) :: S) σ := (ms_G_at rfl _ _ _).trans rfl
theorem mi_20_11 : ms_G 20 11 L (.int x :: S) σ = if x < nI 0 then ms_G 20 23 L S σ else ms_G 20 14 L S σ := mz_bra rfl rfl rfl
theorem mi_20_14 : ms_G 20 14 [l0, l1, l2, l3, .long X, l5] S σ = ms_G 20 16 [l0, l1, l2, l3, .long X, l5] (.long X :: S) σ := (ms_G_at rfl _ _ _).trans rfl
theorem mi_20_16 : ms_G 20 16 L S σ = ms_G 20 19 L (.long (lN 2305843009213693951) :: S) σ := (ms_G_at rfl _ _ _).trans rfl
theorem mi_20_19 : ms_G 20 19 L (.long Y :: .long X :: S) σ = ms_G 20 20 L (.long (X - Y) :: S) σ := (ms_G_at rfl _ _ _).trans rfl
theorem mi_20_20 : ms_G 20 20 L S σ = ms_G 20 25 L S σ := (ms_G_at rfl _ _ _).trans rfl
theorem mi_20_23 : ms_G 20 23 [l0, l1, l2, l3, .long X, l5] S σ = ms_G 20 25 [l0, l1, l2, l3, .long X, l5] (.long X :: S) σ := (ms_G_at rfl _ _ _).trans rfl
theorem mi_20_25 : ms_G 20 25 L [.long X] σ = some (.inl (some (.long X)), σ) := (ms_G_at rfl _ _ _).trans rfl
-- MaskedSumModel.times(JJ)J
theorem mi_21_0 : ms_G 21 0 L S σ = ms_G 21 1 L (.long (lN 0) :: S) σ := (ms_G_at rfl _ _ _).trans rfl
theorem mi_21_1 : ms_G 21 1 [l0, l1, l2, .null, l4, l5, l6] (.long X :: S) σ = ms_G 21 3 [l0, l1, l2, .null, .long X, .null, l6] S σ := (ms_G_at rfl _ _ _).trans rfl
theorem mi_21_3 : ms_G 21 3 L S σ = ms_G 21 5 L (.int (nI 60) :: S) σ := (ms_G_at rfl _ _ _).trans rfl
theorem mi_21_5 : ms_G 21 5 [l0, l1, l2, l3, l4, .null, l6] (.int x :: S) σ = ms_G 21 7 [l0, l1, l2, l3, l4, .null, .int x] S σ := (ms_G_at rfl _ _ _).trans rfl
theorem mi_21_7 : ms_G 21 7 [l0, l1, l2, l3, l4, l5, .int x] S σ = ms_G 21 9 [l0, l1, l2, l3, l4, l5, .int x] (.int x :: S) σ := (ms_G_at rfl _ _ _).trans rfl
theorem mi_21_9 : ms_G 21 9 L (.int x :: S) σ = if x < nI 0 then ms_G 21 46 L S σ else ms_G 21 12 L S σ := mz_bra rfl rfl rfl
theorem mi_21_12 : ms_G 21 12 [l0, l1, l2, l3, .long X, l5, l6] S σ = ms_G 21 14 [l0, l1, l2, l3, .long X, l5, l6] (.long X :: S) σ := (ms_G_at rfl _ _ _).trans rfl
theorem mi_21_14 : ms_G 21 14 [l0, l1, l2, l3, .long X, l5, l6] S σ = ms_G 21 16 [l0, l1, l2, l3, .long X, l5, l6] (.long X :: S) σ := (ms_G_at rfl _ _ _).trans rfl
theorem mi_21_16 : ms_G 21 16 L [.long X1, .long X0] (ms_Z q w I J) = mo_cl 21 16 19 (ms_G 20 0 [.long X0, .null, .long X1, .null, .null, .null] [] (ms_Z q false I J)) w L [] := (mz_call rfl rfl (mz_can0 rfl rfl rfl rfl rfl)).trans rfl
theorem mi_21_19 : ms_G 21 19 [l0, l1, l2, .null, l4, l5, l6] (.long X :: S) σ = ms_G 21 21 [l0, l1, l2, .null, .long X, .null, l6] S σ := (ms_G_at rfl _ _ _).trans rfl
theorem mi_21_21 : ms_G 21 21 [l0, l1, .long X, l3, l4, l5, l6] S σ = ms_G 21 22 [l0, l1, .long X, l3, l4, l5, l6] (.long X :: S) σ := (ms_G_at rfl _ _ _).trans rfl
theorem mi_21_22 : ms_G 21 22 [l0, l1, l2, l3, l4, l5, .int x] S σ = ms_G 21 24 [l0, l1, l2, l3, l4, l5, .int x] (.int x :: S) σ := (ms_G_at rfl _ _ _).trans rfl
theorem mi_21_24 : ms_G 21 24 L (.int y :: .long X :: S) σ = ms_G 21 25 L (.long (X >>> (y.toInt64 &&& 63)) :: S) σ := (ms_G_at rfl _ _ _).trans rfl
theorem mi_21_25 : ms_G 21 25 L S σ = ms_G 21 26 L (.long (lN 1) :: S) σ := (ms_G_at rfl _ _ _).trans rfl
theorem mi_21_26 : ms_G 21 26 L (.long Y :: .long X :: S) σ = ms_G 21 27 L (.long (X &&& Y) :: S) σ := (ms_G_at rfl _ _ _).trans rfl
theorem mi_21_27 : ms_G 21 27 L S σ = ms_G 21 28 L (.long (lN 1) :: S) σ := (ms_G_at rfl _ _ _).trans rfl
theorem mi_21_28 : ms_G 21 28 L (.long Y :: .long X :: S) σ = ms_G 21 29 L (.int (lg_cmp X Y) :: S) σ := (ms_G_at rfl _ _ _).trans rfl
theorem mi_21_29 : ms_G 21 29 L (.int x :: S) σ = if x = nI 0 then ms_G 21 32 L S σ else ms_G 21 40 L S σ := mz_bra rfl rfl rfl
theorem mi_21_32 : ms_G 21 32 [l0, l1, l2, l3, .long X, l5, l6] S σ = ms_G 21 34 [l0, l1, l2, l3, .long X, l5, l6] (.long X :: S) σ := (ms_G_at rfl _ _ _).trans rfl
theorem mi_21_34 : ms_G 21 34 [.long X, l1, l2, l3, l4, l5, l6] S σ = ms_G 21 35 [.long X, l1, l2, l3, l4, l5, l6] (.long X :: S) σ := (ms_G_at rfl _ _ _).trans rfl
theorem mi_21_35 : ms_G 21 35 L [.long X1, .long X0] (ms_Z q w I J) = mo_cl 21 35 38 (ms_G 20 0 [.long X0, .null, .long X1, .null, .null, .null] [] (ms_Z q false I J)) w L [] := (mz_call rfl rfl (mz_can0 rfl rfl rfl rfl rfl)).trans rfl
theorem mi_21_38 : ms_G 21 38 [l0, l1, l2, .null, l4, l5, l6] (.long X :: S) σ = ms_G 21 40 [l0, l1, l2, .null, .long X, .null, l6] S σ := (ms_G_at rfl _ _ _).trans rfl
theorem mi_21_40 : ms_G 21 40 [l0, l1, l2, l3, l4, .null, .int x] S σ = ms_G 21 43 [l0, l1, l2, l3, l4, .null, .int (x + Int32.ofInt (-1))] S σ := (ms_G_at rfl _ _ _).trans rfl
theorem mi_21_43 : ms_G 21 43 L S σ = ms_G 21 7 L S σ := (ms_G_at rfl _ _ _).trans rfl
theorem mi_21_46 : ms_G 21 46 [l0, l1, l2, l3, .long X, l5, l6] S σ = ms_G 21 48 [l0, l1, l2, l3, .long X, l5, l6] (.long X :: S) σ := (ms_G_at rfl _ _ _).trans rfl
theorem mi_21_48 : ms_G 21 48 L [.long X] σ = some (.inl (some (.long X)), σ) := (ms_G_at rfl _ _ _).trans rfl
-- MaskedSumModel.power(JJ)J
theorem mi_22_0 : ms_G 22 0 L S σ = ms_G 22 1 L (.long (lN 1) :: S) σ := (ms_G_at rfl _ _ _).trans rfl
theorem mi_22_1 : ms_G 22 1 [l0, l1, l2, .null, l4, l5, l6] (.long X :: S) σ = ms_G 22 3 [l0, l1, l2, .null, .long X, .null, l6] S σ := (ms_G_at rfl _ _ _).trans rfl
theorem mi_22_3 : ms_G 22 3 L S σ = ms_G 22 5 L (.int (nI 60) :: S) σ := (ms_G_at rfl _ _ _).trans rfl
theorem mi_22_5 : ms_G 22 5 [l0, l1, l2, l3, l4, .null, l6] (.int x :: S) σ = ms_G 22 7 [l0, l1, l2, l3, l4, .null, .int x] S σ := (ms_G_at rfl _ _ _).trans rfl
theorem mi_22_7 : ms_G 22 7 [l0, l1, l2, l3, l4, l5, .int x] S σ = ms_G 22 9 [l0, l1, l2, l3, l4, l5, .int x] (.int x :: S) σ := (ms_G_at rfl _ _ _).trans rfl
theorem mi_22_9 : ms_G 22 9 L (.int x :: S) σ = if x < nI 0 then ms_G 22 46 L S σ else ms_G 22 12 L S σ := mz_bra rfl rfl rfl
theorem mi_22_12 : ms_G 22 12 [l0, l1, l2, l3, .long X, l5, l6] S σ = ms_G 22 14 [l0, l1, l2, l3, .long X, l5, l6] (.long X :: S) σ := (ms_G_at rfl _ _ _).trans rfl
theorem mi_22_14 : ms_G 22 14 [l0, l1, l2, l3, .long X, l5, l6] S σ = ms_G 22 16 [l0, l1, l2, l3, .long X, l5, l6] (.long X :: S) σ := (ms_G_at rfl _ _ _).trans rfl
theorem mi_22_16 : ms_G 22 16 L [.long X1, .long X0] (ms_Z q w I J) = mo_cl 22 16 19 (ms_G 21 0 [.long X0, .null, .long X1, .null, .null, .null, .null] [] (ms_Z q false I J)) w L [] := (mz_call rfl rfl (mz_can0 rfl rfl rfl rfl rfl)).trans rfl
theorem mi_22_19 : ms_G 22 19 [l0, l1, l2, .null, l4, l5, l6] (.long X :: S) σ = ms_G 22 21 [l0, l1, l2, .null, .long X, .null, l6] S σ := (ms_G_at rfl _ _ _).trans rfl
theorem mi_22_21 : ms_G 22 21 [l0, l1, .long X, l3, l4, l5, l6] S σ = ms_G 22 22 [l0, l1, .long X, l3, l4, l5, l6] (.long X :: S) σ := (ms_G_at rfl _ _ _).trans rfl
theorem mi_22_22 : ms_G 22 22 [l0, l1, l2, l3, l4, l5, .int x] S σ = ms_G 22 24 [l0, l1, l2, l3, l4, l5, .int x] (.int x :: S) σ := (ms_G_at rfl _ _ _).trans rfl
theorem mi_22_24 : ms_G 22 24 L (.int y :: .long X :: S) σ = ms_G 22 25 L (.long (X >>> (y.toInt64 &&& 63)) :: S) σ := (ms_G_at rfl _ _ _).trans rfl
theorem mi_22_25 : ms_G 22 25 L S σ = ms_G 22 26 L (.long (lN 1) :: S) σ := (ms_G_at rfl _ _ _).trans rfl
theorem mi_22_26 : ms_G 22 26 L (.long Y :: .long X :: S) σ = ms_G 22 27 L (.long (X &&& Y) :: S) σ := (ms_G_at rfl _ _ _).trans rfl
theorem mi_22_27 : ms_G 22 27 L S σ = ms_G 22 28 L (.long (lN 1) :: S) σ := (ms_G_at rfl _ _ _).trans rfl
theorem mi_22_28 : ms_G 22 28 L (.long Y :: .long X :: S) σ = ms_G 22 29 L (.int (lg_cmp X Y) :: S) σ := (ms_G_at rfl _ _ _).trans rfl
theorem mi_22_29 : ms_G 22 29 L (.int x :: S) σ = if x = nI 0 then ms_G 22 32 L S σ else ms_G 22 40 L S σ := mz_bra rfl rfl rfl
theorem mi_22_32 : ms_G 22 32 [l0, l1, l2, l3, .long X, l5, l6] S σ = ms_G 22 34 [l0, l1, l2, l3, .long X, l5, l6] (.long X :: S) σ := (ms_G_at rfl _ _ _).trans rfl
theorem mi_22_34 : ms_G 22 34 [.long X, l1, l2, l3, l4, l5, l6] S σ = ms_G 22 35 [.long X, l1, l2, l3, l4, l5, l6] (.long X :: S) σ := (ms_G_at rfl _ _ _).trans rfl
theorem mi_22_35 : ms_G 22 35 L [.long X1, .long X0] (ms_Z q w I J) = mo_cl 22 35 38 (ms_G 21 0 [.long X0, .null, .long X1, .null, .null, .null, .null] [] (ms_Z q false I J)) w L [] := (mz_call rfl rfl (mz_can0 rfl rfl rfl rfl rfl)).trans rfl
theorem mi_22_38 : ms_G 22 38 [l0, l1, l2, .null, l4, l5, l6] (.long X :: S) σ = ms_G 22 40 [l0, l1, l2, .null, .long X, .null, l6] S σ := (ms_G_at rfl _ _ _).trans rfl
theorem mi_22_40 : ms_G 22 40 [l0, l1, l2, l3, l4, .null, .int x] S σ = ms_G 22 43 [l0, l1, l2, l3, l4, .null, .int (x + Int32.ofInt (-1))] S σ := (ms_G_at rfl _ _ _).trans rfl
theorem mi_22_43 : ms_G 22 43 L S σ = ms_G 22 7 L S σ := (ms_G_at rfl _ _ _).trans rfl
theorem mi_22_46 : ms_G 22 46 [l0, l1, l2, l3, .long X, l5, l6] S σ = ms_G 22 48 [l0, l1, l2, l3, .long X, l5, l6] (.long X :: S) σ := (ms_G_at rfl _ _ _).trans rfl
theorem mi_22_48 : ms_G 22 48 L [.long X] σ = some (.inl (some (.long X)), σ) := (ms_G_at rfl _ _ _).trans rfl
-- MaskedSumModel.number(II)J
theorem mi_23_0 : ms_G 23 0 [l0, .int x, l2, l3] S σ = ms_G 23 1 [l0, .int x, l2, l3] (.int x :: S) σ := (ms_G_at rfl _ _ _).trans rfl
theorem mi_23_1 : ms_G 23 1 L S σ = ms_G 23 3 L (.int (nI 536870911) :: S) σ := (ms_G_at rfl _ _ _).trans rfl
theorem mi_23_3 : ms_G 23 3 L (.int y :: .int x :: S) σ = ms_G 23 4 L (.int (x &&& y) :: S) σ := (ms_G_at rfl _ _ _).trans rfl
theorem mi_23_4 : ms_G 23 4 L (.int x :: S) σ = ms_G 23 5 L (.long x.toInt64 :: S) σ := (ms_G_at rfl _ _ _).trans rfl
theorem mi_23_5 : ms_G 23 5 L S σ = ms_G 23 7 L (.int (nI 32) :: S) σ := (ms_G_at rfl _ _ _).trans rfl
theorem mi_23_7 : ms_G 23 7 L (.int y :: .long X :: S) σ = ms_G 23 8 L (.long (X <<< (y.toInt64 &&& 63)) :: S) σ := (ms_G_at rfl _ _ _).trans rfl
theorem mi_23_8 : ms_G 23 8 [.int x, l1, l2, l3] S σ = ms_G 23 9 [.int x, l1, l2, l3] (.int x :: S) σ := (ms_G_at rfl _ _ _).trans rfl
theorem mi_23_9 : ms_G 23 9 L (.int x :: S) σ = ms_G 23 10 L (.long x.toInt64 :: S) σ := (ms_G_at rfl _ _ _).trans rfl
theorem mi_23_10 : ms_G 23 10 L S σ = ms_G 23 13 L (.long (lN 4294967295) :: S) σ := (ms_G_at rfl _ _ _).trans rfl
theorem mi_23_13 : ms_G 23 13 L (.long Y :: .long X :: S) σ = ms_G 23 14 L (.long (X &&& Y) :: S) σ := (ms_G_at rfl _ _ _).trans rfl
theorem mi_23_14 : ms_G 23 14 L (.long Y :: .long X :: S) σ = ms_G 23 15 L (.long (X ||| Y) :: S) σ := (ms_G_at rfl _ _ _).trans rfl
theorem mi_23_15 : ms_G 23 15 [l0, .int y, l2, l3] (.long X :: S) σ = ms_G 23 16 [l0, .int y, .long X, .null] S σ := (ms_G_at rfl _ _ _).trans rfl
theorem mi_23_16 : ms_G 23 16 [l0, l1, .long X, l3] S σ = ms_G 23 17 [l0, l1, .long X, l3] (.long X :: S) σ := (ms_G_at rfl _ _ _).trans rfl
theorem mi_23_17 : ms_G 23 17 L S σ = ms_G 23 20 L (.long (lN 2305843009213693951) :: S) σ := (ms_G_at rfl _ _ _).trans rfl
theorem mi_23_20 : ms_G 23 20 L (.long Y :: .long X :: S) σ = ms_G 23 21 L (.int (lg_cmp X Y) :: S) σ := (ms_G_at rfl _ _ _).trans rfl
theorem mi_23_21 : ms_G 23 21 L (.int x :: S) σ = if x = nI 0 then ms_G 23 24 L S σ else ms_G 23 28 L S σ := mz_bra rfl rfl rfl
theorem mi_23_24 : ms_G 23 24 L S σ = ms_G 23 25 L (.long (lN 0) :: S) σ := (ms_G_at rfl _ _ _).trans rfl
theorem mi_23_25 : ms_G 23 25 L S σ = ms_G 23 29 L S σ := (ms_G_at rfl _ _ _).trans rfl
theorem mi_23_28 : ms_G 23 28 [l0, l1, .long X, l3] S σ = ms_G 23 29 [l0, l1, .long X, l3] (.long X :: S) σ := (ms_G_at rfl _ _ _).trans rfl
theorem mi_23_29 : ms_G 23 29 L [.long X] σ = some (.inl (some (.long X)), σ) := (ms_G_at rfl _ _ _).trans rfl
-- MaskedSumModel.turn(II)I
theorem mi_24_0 : ms_G 24 0 [.int x, l1] S σ = ms_G 24 1 [.int x, l1] (.int x :: S) σ := (ms_G_at rfl _ _ _).trans rfl
theorem mi_24_1 : ms_G 24 1 [l0, .int x] S σ = ms_G 24 2 [l0, .int x] (.int x :: S) σ := (ms_G_at rfl _ _ _).trans rfl
theorem mi_24_2 : ms_G 24 2 L (.int y :: .int x :: S) σ = ms_G 24 3 L (.int (x <<< (y &&& 31)) :: S) σ := (ms_G_at rfl _ _ _).trans rfl
theorem mi_24_3 : ms_G 24 3 [.int x, l1] S σ = ms_G 24 4 [.int x, l1] (.int x :: S) σ := (ms_G_at rfl _ _ _).trans rfl
theorem mi_24_4 : ms_G 24 4 L S σ = ms_G 24 6 L (.int (nI 32) :: S) σ := (ms_G_at rfl _ _ _).trans rfl
theorem mi_24_6 : ms_G 24 6 [l0, .int x] S σ = ms_G 24 7 [l0, .int x] (.int x :: S) σ := (ms_G_at rfl _ _ _).trans rfl
theorem mi_24_7 : ms_G 24 7 L (.int y :: .int x :: S) σ = ms_G 24 8 L (.int (x - y) :: S) σ := (ms_G_at rfl _ _ _).trans rfl
theorem mi_24_8 : ms_G 24 8 L (.int y :: .int x :: S) σ = ms_G 24 9 L (.int ((x.toUInt32 >>> (y.toUInt32 &&& Int32.toUInt32 31)).toInt32) :: S) σ := (ms_G_at rfl _ _ _).trans rfl
theorem mi_24_9 : ms_G 24 9 L (.int y :: .int x :: S) σ = ms_G 24 10 L (.int (x ||| y) :: S) σ := (ms_G_at rfl _ _ _).trans rfl
theorem mi_24_10 : ms_G 24 10 L [.int x] σ = some (.inl (some (.int x)), σ) := (ms_G_at rfl _ _ _).trans rfl
-- MaskedSumModel.quarter(IIII)V
theorem mi_25_0 : ms_G 25 0 L S σ = ms_G 25 1 L (.int (nI 0) :: S) σ := (ms_G_at rfl _ _ _).trans rfl
theorem mi_25_1 : ms_G 25 1 [l0, l1, l2, l3, .int y, l5] (.int x :: S) σ = ms_G 25 3 [l0, l1, l2, l3, .int y, .int x] S σ := (ms_G_at rfl _ _ _).trans rfl
theorem mi_25_3 : ms_G 25 3 [l0, l1, l2, l3, l4, .int x] S σ = ms_G 25 5 [l0, l1, l2, l3, l4, .int x] (.int x :: S) σ := (ms_G_at rfl _ _ _).trans rfl
theorem mi_25_5 : ms_G 25 5 L S σ = ms_G 25 6 L (.int (nI 2) :: S) σ := (ms_G_at rfl _ _ _).trans rfl
theorem mi_25_6 : ms_G 25 6 L (.int y :: .int x :: S) σ = if y ≤ x then ms_G 25 116 L S σ else ms_G 25 9 L S σ := mz_bra rfl rfl rfl
theorem mi_25_9 : ms_G 25 9 [.ref a, l1, l2, l3, l4, l5] S σ = ms_G 25 10 [.ref a, l1, l2, l3, l4, l5] (.ref a :: S) σ := (ms_G_at rfl _ _ _).trans rfl
theorem mi_25_10 : ms_G 25 10 L (.ref (ms_ad 40 0) :: S) (ms_Z q w I J) = ms_G 25 13 L (.ref (ms_ad 59 0) :: S) (ms_Z q w I J) := mz_getf (c := (2, 59)) rfl (by decide) rfl (by decide) rfl
theorem mi_25_13 : ms_G 25 13 [l0, .int x, l2, l3, l4, l5] S σ = ms_G 25 14 [l0, .int x, l2, l3, l4, l5] (.int x :: S) σ := (ms_G_at rfl _ _ _).trans rfl
theorem mi_25_14 : ms_G 25 14 L (.int x :: .ref b :: S) σ = ms_G 25 15 L (.int x :: .ref b :: .int x :: .ref b :: S) σ := (ms_G_at rfl _ _ _).trans rfl
theorem mi_25_15 : ms_G 25 15 L (.int (nI i) :: .ref (ms_ad r u) :: S) (ms_Z q w I J) = cond (mo_0 q.1 r u i) (ms_G 25 16 L (.int (I r u i) :: S) (ms_Z q w I J)) (ms_raw 25 15 L (.int (nI i) :: .ref (ms_ad r u) :: S) (ms_Z q w I J)) := mz_iald rfl
theorem mi_25_16 : ms_G 25 16 [.ref a, l1, l2, l3, l4, l5] S σ = ms_G 25 17 [.ref a, l1, l2, l3, l4, l5] (.ref a :: S) σ := (ms_G_at rfl _ _ _).trans rfl
theorem mi_25_17 : ms_G 25 17 L (.ref (ms_ad 40 0) :: S) (ms_Z q w I J) = ms_G 25 20 L (.ref (ms_ad 59 0) :: S) (ms_Z q w I J) := mz_getf (c := (2, 59)) rfl (by decide) rfl (by decide) rfl
theorem mi_25_20 : ms_G 25 20 [l0, l1, .int x, l3, l4, l5] S σ = ms_G 25 21 [l0, l1, .int x, l3, l4, l5] (.int x :: S) σ := (ms_G_at rfl _ _ _).trans rfl
theorem mi_25_21 : ms_G 25 21 L (.int (nI i) :: .ref (ms_ad r u) :: S) (ms_Z q w I J) = cond (mo_0 q.1 r u i) (ms_G 25 22 L (.int (I r u i) :: S) (ms_Z q w I J)) (ms_raw 25 21 L (.int (nI i) :: .ref (ms_ad r u) :: S) (ms_Z q w I J)) := mz_iald rfl
theorem mi_25_22 : ms_G 25 22 L (.int y :: .int x :: S) σ = ms_G 25 23 L (.int (x + y) :: S) σ := (ms_G_at rfl _ _ _).trans rfl
theorem mi_25_23 : ms_G 25 23 L (.int x :: .int (nI i) :: .ref (ms_ad r u) :: S) (ms_Z q w I J) = cond (mo_0 q.1 r u i) (ms_G 25 24 L S (ms_Z q true (ms_u I r u (upd (I r u) i x)) J)) (ms_raw 25 23 L (.int x :: .int (nI i) :: .ref (ms_ad r u) :: S) (ms_Z q w I J)) := mz_iast rfl x
theorem mi_25_24 : ms_G 25 24 [.ref a, l1, l2, l3, l4, l5] S σ = ms_G 25 25 [.ref a, l1, l2, l3, l4, l5] (.ref a :: S) σ := (ms_G_at rfl _ _ _).trans rfl
theorem mi_25_25 : ms_G 25 25 L (.ref (ms_ad 40 0) :: S) (ms_Z q w I J) = ms_G 25 28 L (.ref (ms_ad 59 0) :: S) (ms_Z q w I J) := mz_getf (c := (2, 59)) rfl (by decide) rfl (by decide) rfl
theorem mi_25_28 : ms_G 25 28 [l0, l1, l2, l3, .int x, l5] S σ = ms_G 25 30 [l0, l1, l2, l3, .int x, l5] (.int x :: S) σ := (ms_G_at rfl _ _ _).trans rfl
theorem mi_25_30 : ms_G 25 30 [.ref a, l1, l2, l3, l4, l5] S σ = ms_G 25 31 [.ref a, l1, l2, l3, l4, l5] (.ref a :: S) σ := (ms_G_at rfl _ _ _).trans rfl
theorem mi_25_31 : ms_G 25 31 L (.ref (ms_ad 40 0) :: S) (ms_Z q w I J) = ms_G 25 34 L (.ref (ms_ad 59 0) :: S) (ms_Z q w I J) := mz_getf (c := (2, 59)) rfl (by decide) rfl (by decide) rfl
theorem mi_25_34 : ms_G 25 34 [l0, l1, l2, l3, .int x, l5] S σ = ms_G 25 36 [l0, l1, l2, l3, .int x, l5] (.int x :: S) σ := (ms_G_at rfl _ _ _).trans rfl
theorem mi_25_36 : ms_G 25 36 L (.int (nI i) :: .ref (ms_ad r u) :: S) (ms_Z q w I J) = cond (mo_0 q.1 r u i) (ms_G 25 37 L (.int (I r u i) :: S) (ms_Z q w I J)) (ms_raw 25 36 L (.int (nI i) :: .ref (ms_ad r u) :: S) (ms_Z q w I J)) := mz_iald rfl
theorem mi_25_37 : ms_G 25 37 [.ref a, l1, l2, l3, l4, l5] S σ = ms_G 25 38 [.ref a, l1, l2, l3, l4, l5] (.ref a :: S) σ := (ms_G_at rfl _ _ _).trans rfl
theorem mi_25_38 : ms_G 25 38 L (.ref (ms_ad 40 0) :: S) (ms_Z q w I J) = ms_G 25 41 L (.ref (ms_ad 59 0) :: S) (ms_Z q w I J) := mz_getf (c := (2, 59)) rfl (by decide) rfl (by decide) rfl
theorem mi_25_41 : ms_G 25 41 [l0, .int x, l2, l3, l4, l5] S σ = ms_G 25 42 [l0, .int x, l2, l3, l4, l5] (.int x :: S) σ := (ms_G_at rfl _ _ _).trans rfl
theorem mi_25_42 : ms_G 25 42 L (.int (nI i) :: .ref (ms_ad r u) :: S) (ms_Z q w I J) = cond (mo_0 q.1 r u i) (ms_G 25 43 L (.int (I r u i) :: S) (ms_Z q w I J)) (ms_raw 25 42 L (.int (nI i) :: .ref (ms_ad r u) :: S) (ms_Z q w I J)) := mz_iald rfl
theorem mi_25_43 : ms_G 25 43 L (.int y :: .int x :: S) σ = ms_G 25 44 L (.int (x ^^^ y) :: S) σ := (ms_G_at rfl _ _ _).trans rfl
theorem mi_25_44 : ms_G 25 44 [l0, l1, l2, l3, l4, .int x] S σ = ms_G 25 46 [l0, l1, l2, l3, l4, .int x] (.int x :: S) σ := (ms_G_at rfl _ _ _).trans rfl
theorem mi_25_46 : ms_G 25 46 L (.int x :: S) σ = if x = nI 0 then ms_G 25 49 L S σ else ms_G 25 54 L S σ := mz_bra rfl rfl rfl
theorem mi_25_49 : ms_G 25 49 L S σ = ms_G 25 51 L (.int (nI 16) :: S) σ := (ms_G_at rfl _ _ _).trans rfl
theorem mi_25_51 : ms_G 25 51 L S σ = ms_G 25 56 L S σ := (ms_G_at rfl _ _ _).trans rfl
theorem mi_25_54 : ms_G 25 54 L S σ = ms_G 25 56 L (.int (nI 8) :: S) σ := (ms_G_at rfl _ _ _).trans rfl
theorem mi_25_56 : ms_G 25 56 L (.int x1 :: .int x0 :: [.int e0, .ref g1]) (ms_Z q w I J) = mo_cl 25 56 59 (ms_G 24 0 [.int x0, .int x1] [] (ms_Z q false I J)) w L [.int e0, .ref g1] := (mz_call rfl rfl (mz_can0 rfl rfl rfl rfl rfl)).trans rfl
theorem mi_25_59 : ms_G 25 59 L (.int x :: .int (nI i) :: .ref (ms_ad r u) :: S) (ms_Z q w I J) = cond (mo_0 q.1 r u i) (ms_G 25 60 L S (ms_Z q true (ms_u I r u (upd (I r u) i x)) J)) (ms_raw 25 59 L (.int x :: .int (nI i) :: .ref (ms_ad r u) :: S) (ms_Z q w I J)) := mz_iast rfl x
theorem mi_25_60 : ms_G 25 60 [.ref a, l1, l2, l3, l4, l5] S σ = ms_G 25 61 [.ref a, l1, l2, l3, l4, l5] (.ref a :: S) σ := (ms_G_at rfl _ _ _).trans rfl
theorem mi_25_61 : ms_G 25 61 L (.ref (ms_ad 40 0) :: S) (ms_Z q w I J) = ms_G 25 64 L (.ref (ms_ad 59 0) :: S) (ms_Z q w I J) := mz_getf (c := (2, 59)) rfl (by decide) rfl (by decide) rfl
theorem mi_25_64 : ms_G 25 64 [l0, l1, l2, .int x, l4, l5] S σ = ms_G 25 65 [l0, l1, l2, .int x, l4, l5] (.int x :: S) σ := (ms_G_at rfl _ _ _).trans rfl
theorem mi_25_65 : ms_G 25 65 L (.int x :: .ref b :: S) σ = ms_G 25 66 L (.int x :: .ref b :: .int x :: .ref b :: S) σ := (ms_G_at rfl _ _ _).trans rfl
theorem mi_25_66 : ms_G 25 66 L (.int (nI i) :: .ref (ms_ad r u) :: S) (ms_Z q w I J) = cond (mo_0 q.1 r u i) (ms_G 25 67 L (.int (I r u i) :: S) (ms_Z q w I J)) (ms_raw 25 66 L (.int (nI i) :: .ref (ms_ad r u) :: S) (ms_Z q w I J)) := mz_iald rfl
theorem mi_25_67 : ms_G 25 67 [.ref a, l1, l2, l3, l4, l5] S σ = ms_G 25 68 [.ref a, l1, l2, l3, l4, l5] (.ref a :: S) σ := (ms_G_at rfl _ _ _).trans rfl
theorem mi_25_68 : ms_G 25 68 L (.ref (ms_ad 40 0) :: S) (ms_Z q w I J) = ms_G 25 71 L (.ref (ms_ad 59 0) :: S) (ms_Z q w I J) := mz_getf (c := (2, 59)) rfl (by decide) rfl (by decide) rfl
theorem mi_25_71 : ms_G 25 71 [l0, l1, l2, l3, .int x, l5] S σ = ms_G 25 73 [l0, l1, l2, l3, .int x, l5] (.int x :: S) σ := (ms_G_at rfl _ _ _).trans rfl
theorem mi_25_73 : ms_G 25 73 L (.int (nI i) :: .ref (ms_ad r u) :: S) (ms_Z q w I J) = cond (mo_0 q.1 r u i) (ms_G 25 74 L (.int (I r u i) :: S) (ms_Z q w I J)) (ms_raw 25 73 L (.int (nI i) :: .ref (ms_ad r u) :: S) (ms_Z q w I J)) := mz_iald rfl
theorem mi_25_74 : ms_G 25 74 L (.int y :: .int x :: S) σ = ms_G 25 75 L (.int (x + y) :: S) σ := (ms_G_at rfl _ _ _).trans rfl
theorem mi_25_75 : ms_G 25 75 L (.int x :: .int (nI i) :: .ref (ms_ad r u) :: S) (ms_Z q w I J) = cond (mo_0 q.1 r u i) (ms_G 25 76 L S (ms_Z q true (ms_u I r u (upd (I r u) i x)) J)) (ms_raw 25 75 L (.int x :: .int (nI i) :: .ref (ms_ad r u) :: S) (ms_Z q w I J)) := mz_iast rfl x
theorem mi_25_76 : ms_G 25 76 [.ref a, l1, l2, l3, l4, l5] S σ = ms_G 25 77 [.ref a, l1, l2, l3, l4, l5] (.ref a :: S) σ := (ms_G_at rfl _ _ _).trans rfl
theorem mi_25_77 : ms_G 25 77 L (.ref (ms_ad 40 0) :: S) (ms_Z q w I J) = ms_G 25 80 L (.ref (ms_ad 59 0) :: S) (ms_Z q w I J) := mz_getf (c := (2, 59)) rfl (by decide) rfl (by decide) rfl
theorem mi_25_80 : ms_G 25 80 [l0, l1, .int x, l3, l4, l5] S σ = ms_G 25 81 [l0, l1, .int x, l3, l4, l5] (.int x :: S) σ := (ms_G_at rfl _ _ _).trans rfl
theorem mi_25_81 : ms_G 25 81 [.ref a, l1, l2, l3, l4, l5] S σ = ms_G 25 82 [.ref a, l1, l2, l3, l4, l5] (.ref a :: S) σ := (ms_G_at rfl _ _ _).trans rfl
theorem mi_25_82 : ms_G 25 82 L (.ref (ms_ad 40 0) :: S) (ms_Z q w I J) = ms_G 25 85 L (.ref (ms_ad 59 0) :: S) (ms_Z q w I J) := mz_getf (c := (2, 59)) rfl (by decide) rfl (by decide) rfl
theorem mi_25_85 : ms_G 25 85 [l0, l1, .int x, l3, l4, l5] S σ = ms_G 25 86 [l0, l1, .int x, l3, l4, l5] (.int x :: S) σ := (ms_G_at rfl _ _ _).trans rfl
theorem mi_25_86 : ms_G 25 86 L (.int (nI i) :: .ref (ms_ad r u) :: S) (ms_Z q w I J) = cond (mo_0 q.1 r u i) (ms_G 25 87 L (.int (I r u i) :: S) (ms_Z q w I J)) (ms_raw 25 86 L (.int (nI i) :: .ref (ms_ad r u) :: S) (ms_Z q w I J)) := mz_iald rfl
theorem mi_25_87 : ms_G 25 87 [.ref a, l1, l2, l3, l4, l5] S σ = ms_G 25 88 [.ref a, l1, l2, l3, l4, l5] (.ref a :: S) σ := (ms_G_at rfl _ _ _).trans rfl
theorem mi_25_88 : ms_G 25 88 L (.ref (ms_ad 40 0) :: S) (ms_Z q w I J) = ms_G 25 91 L (.ref (ms_ad 59 0) :: S) (ms_Z q w I J) := mz_getf (c := (2, 59)) rfl (by decide) rfl (by decide) rfl
theorem mi_25_91 : ms_G 25 91 [l0, l1, l2, .int x, l4, l5] S σ = ms_G 25 92 [l0, l1, l2, .int x, l4, l5] (.int x :: S) σ := (ms_G_at rfl _ _ _).trans rfl
theorem mi_25_92 : ms_G 25 92 L (.int (nI i) :: .ref (ms_ad r u) :: S) (ms_Z q w I J) = cond (mo_0 q.1 r u i) (ms_G 25 93 L (.int (I r u i) :: S) (ms_Z q w I J)) (ms_raw 25 92 L (.int (nI i) :: .ref (ms_ad r u) :: S) (ms_Z q w I J)) := mz_iald rfl
theorem mi_25_93 : ms_G 25 93 L (.int y :: .int x :: S) σ = ms_G 25 94 L (.int (x ^^^ y) :: S) σ := (ms_G_at rfl _ _ _).trans rfl
theorem mi_25_94 : ms_G 25 94 [l0, l1, l2, l3, l4, .int x] S σ = ms_G 25 96 [l0, l1, l2, l3, l4, .int x] (.int x :: S) σ := (ms_G_at rfl _ _ _).trans rfl
theorem mi_25_96 : ms_G 25 96 L (.int x :: S) σ = if x = nI 0 then ms_G 25 99 L S σ else ms_G 25 104 L S σ := mz_bra rfl rfl rfl
theorem mi_25_99 : ms_G 25 99 L S σ = ms_G 25 101 L (.int (nI 12) :: S) σ := (ms_G_at rfl _ _ _).trans rfl
theorem mi_25_101 : ms_G 25 101 L S σ = ms_G 25 106 L S σ := (ms_G_at rfl _ _ _).trans rfl
theorem mi_25_104 : ms_G 25 104 L S σ = ms_G 25 106 L (.int (nI 7) :: S) σ := (ms_G_at rfl _ _ _).trans rfl
theorem mi_25_106 : ms_G 25 106 L (.int x1 :: .int x0 :: [.int e0, .ref g1]) (ms_Z q w I J) = mo_cl 25 106 109 (ms_G 24 0 [.int x0, .int x1] [] (ms_Z q false I J)) w L [.int e0, .ref g1] := (mz_call rfl rfl (mz_can0 rfl rfl rfl rfl rfl)).trans rfl
theorem mi_25_109 : ms_G 25 109 L (.int x :: .int (nI i) :: .ref (ms_ad r u) :: S) (ms_Z q w I J) = cond (mo_0 q.1 r u i) (ms_G 25 110 L S (ms_Z q true (ms_u I r u (upd (I r u) i x)) J)) (ms_raw 25 109 L (.int x :: .int (nI i) :: .ref (ms_ad r u) :: S) (ms_Z q w I J)) := mz_iast rfl x
theorem mi_25_110 : ms_G 25 110 [l0, l1, l2, l3, .int y, .int x] S σ = ms_G 25 113 [l0, l1, l2, l3, .int y, .int (x + nI 1)] S σ := (ms_G_at rfl _ _ _).trans rfl
theorem mi_25_113 : ms_G 25 113 L S σ = ms_G 25 3 L S σ := (ms_G_at rfl _ _ _).trans rfl
theorem mi_25_116 : ms_G 25 116 L [] σ = some (.inl none, σ) := (ms_G_at rfl _ _ _).trans rfl
-- MaskedSumModel.mix(JIIII)V
theorem mi_26_0 : ms_G 26 0 L S σ = ms_G 26 1 L (.int (nI 0) :: S) σ := (ms_G_at rfl _ _ _).trans rfl
theorem mi_26_1 : ms_G 26 1 [l0, l1, l2, l3, l4, l5, .int y, l7, l8] (.int x :: S) σ = ms_G 26 3 [l0, l1, l2, l3, l4, l5, .int y, .int x, l8] S σ := (ms_G_at rfl _ _ _).trans rfl
theorem mi_26_3 : ms_G 26 3 [l0, l1, l2, l3, l4, l5, l6, .int x, l8] S σ = ms_G 26 5 [l0, l1, l2, l3, l4, l5, l6, .int x, l8] (.int x :: S) σ := (ms_G_at rfl _ _ _).trans rfl
theorem mi_26_5 : ms_G 26 5 L S σ = ms_G 26 7 L (.int (nI 16) :: S) σ := (ms_G_at rfl _ _ _).trans rfl
theorem mi_26_7 : ms_G 26 7 L (.int y :: .int x :: S) σ = if y ≤ x then ms_G 26 24 L S σ else ms_G 26 10 L S σ := mz_bra rfl rfl rfl
theorem mi_26_10 : ms_G 26 10 [.ref a, l1, l2, l3, l4, l5, l6, l7, l8] S σ = ms_G 26 11 [.ref a, l1, l2, l3, l4, l5, l6, l7, l8] (.ref a :: S) σ := (ms_G_at rfl _ _ _).trans rfl
theorem mi_26_11 : ms_G 26 11 L (.ref (ms_ad 40 0) :: S) (ms_Z q w I J) = ms_G 26 14 L (.ref (ms_ad 58 0) :: S) (ms_Z q w I J) := mz_getf (c := (2, 58)) rfl (by decide) rfl (by decide) rfl
theorem mi_26_14 : ms_G 26 14 [l0, l1, l2, l3, l4, l5, l6, .int x, l8] S σ = ms_G 26 16 [l0, l1, l2, l3, l4, l5, l6, .int x, l8] (.int x :: S) σ := (ms_G_at rfl _ _ _).trans rfl
theorem mi_26_16 : ms_G 26 16 L S σ = ms_G 26 17 L (.int (nI 0) :: S) σ := (ms_G_at rfl _ _ _).trans rfl
theorem mi_26_17 : ms_G 26 17 L (.int x :: .int (nI i) :: .ref (ms_ad r u) :: S) (ms_Z q w I J) = cond (mo_0 q.1 r u i) (ms_G 26 18 L S (ms_Z q true (ms_u I r u (upd (I r u) i x)) J)) (ms_raw 26 17 L (.int x :: .int (nI i) :: .ref (ms_ad r u) :: S) (ms_Z q w I J)) := mz_iast rfl x
theorem mi_26_18 : ms_G 26 18 [l0, l1, l2, l3, l4, l5, .int y, .int x, l8] S σ = ms_G 26 21 [l0, l1, l2, l3, l4, l5, .int y, .int (x + nI 1), l8] S σ := (ms_G_at rfl _ _ _).trans rfl
theorem mi_26_21 : ms_G 26 21 L S σ = ms_G 26 3 L S σ := (ms_G_at rfl _ _ _).trans rfl
theorem mi_26_24 : ms_G 26 24 [.ref a, l1, l2, l3, l4, l5, l6, l7, l8] S σ = ms_G 26 25 [.ref a, l1, l2, l3, l4, l5, l6, l7, l8] (.ref a :: S) σ := (ms_G_at rfl _ _ _).trans rfl
theorem mi_26_25 : ms_G 26 25 L (.ref (ms_ad 40 0) :: S) (ms_Z q w I J) = ms_G 26 28 L (.ref (ms_ad 58 0) :: S) (ms_Z q w I J) := mz_getf (c := (2, 58)) rfl (by decide) rfl (by decide) rfl
theorem mi_26_28 : ms_G 26 28 L S σ = ms_G 26 29 L (.int (nI 0) :: S) σ := (ms_G_at rfl _ _ _).trans rfl
theorem mi_26_29 : ms_G 26 29 L S σ = ms_G 26 31 L (.int (nI 1634760805) :: S) σ := (ms_G_at rfl _ _ _).trans rfl
theorem mi_26_31 : ms_G 26 31 L (.int x :: .int (nI i) :: .ref (ms_ad r u) :: S) (ms_Z q w I J) = cond (mo_0 q.1 r u i) (ms_G 26 32 L S (ms_Z q true (ms_u I r u (upd (I r u) i x)) J)) (ms_raw 26 31 L (.int x :: .int (nI i) :: .ref (ms_ad r u) :: S) (ms_Z q w I J)) := mz_iast rfl x
theorem mi_26_32 : ms_G 26 32 [.ref a, l1, l2, l3, l4, l5, l6, l7, l8] S σ = ms_G 26 33 [.ref a, l1, l2, l3, l4, l5, l6, l7, l8] (.ref a :: S) σ := (ms_G_at rfl _ _ _).trans rfl
theorem mi_26_33 : ms_G 26 33 L (.ref (ms_ad 40 0) :: S) (ms_Z q w I J) = ms_G 26 36 L (.ref (ms_ad 58 0) :: S) (ms_Z q w I J) := mz_getf (c := (2, 58)) rfl (by decide) rfl (by decide) rfl
theorem mi_26_36 : ms_G 26 36 L S σ = ms_G 26 37 L (.int (nI 1) :: S) σ := (ms_G_at rfl _ _ _).trans rfl
theorem mi_26_37 : ms_G 26 37 L S σ = ms_G 26 39 L (.int (nI 857760878) :: S) σ := (ms_G_at rfl _ _ _).trans rfl
theorem mi_26_39 : ms_G 26 39 L (.int x :: .int (nI i) :: .ref (ms_ad r u) :: S) (ms_Z q w I J) = cond (mo_0 q.1 r u i) (ms_G 26 40 L S (ms_Z q true (ms_u I r u (upd (I r u) i x)) J)) (ms_raw 26 39 L (.int x :: .int (nI i) :: .ref (ms_ad r u) :: S) (ms_Z q w I J)) := mz_iast rfl x
theorem mi_26_40 : ms_G 26 40 [.ref a, l1, l2, l3, l4, l5, l6, l7, l8] S σ = ms_G 26 41 [.ref a, l1, l2, l3, l4, l5, l6, l7, l8] (.ref a :: S) σ := (ms_G_at rfl _ _ _).trans rfl
theorem mi_26_41 : ms_G 26 41 L (.ref (ms_ad 40 0) :: S) (ms_Z q w I J) = ms_G 26 44 L (.ref (ms_ad 58 0) :: S) (ms_Z q w I J) := mz_getf (c := (2, 58)) rfl (by decide) rfl (by decide) rfl
theorem mi_26_44 : ms_G 26 44 L S σ = ms_G 26 45 L (.int (nI 2) :: S) σ := (ms_G_at rfl _ _ _).trans rfl
theorem mi_26_45 : ms_G 26 45 L S σ = ms_G 26 47 L (.int (nI 2036477234) :: S) σ := (ms_G_at rfl _ _ _).trans rfl
theorem mi_26_47 : ms_G 26 47 L (.int x :: .int (nI i) :: .ref (ms_ad r u) :: S) (ms_Z q w I J) = cond (mo_0 q.1 r u i) (ms_G 26 48 L S (ms_Z q true (ms_u I r u (upd (I r u) i x)) J)) (ms_raw 26 47 L (.int x :: .int (nI i) :: .ref (ms_ad r u) :: S) (ms_Z q w I J)) := mz_iast rfl x
theorem mi_26_48 : ms_G 26 48 [.ref a, l1, l2, l3, l4, l5, l6, l7, l8] S σ = ms_G 26 49 [.ref a, l1, l2, l3, l4, l5, l6, l7, l8] (.ref a :: S) σ := (ms_G_at rfl _ _ _).trans rfl
theorem mi_26_49 : ms_G 26 49 L (.ref (ms_ad 40 0) :: S) (ms_Z q w I J) = ms_G 26 52 L (.ref (ms_ad 58 0) :: S) (ms_Z q w I J) := mz_getf (c := (2, 58)) rfl (by decide) rfl (by decide) rfl
theorem mi_26_52 : ms_G 26 52 L S σ = ms_G 26 53 L (.int (nI 3) :: S) σ := (ms_G_at rfl _ _ _).trans rfl
theorem mi_26_53 : ms_G 26 53 L S σ = ms_G 26 55 L (.int (nI 1797285236) :: S) σ := (ms_G_at rfl _ _ _).trans rfl
theorem mi_26_55 : ms_G 26 55 L (.int x :: .int (nI i) :: .ref (ms_ad r u) :: S) (ms_Z q w I J) = cond (mo_0 q.1 r u i) (ms_G 26 56 L S (ms_Z q true (ms_u I r u (upd (I r u) i x)) J)) (ms_raw 26 55 L (.int x :: .int (nI i) :: .ref (ms_ad r u) :: S) (ms_Z q w I J)) := mz_iast rfl x
theorem mi_26_56 : ms_G 26 56 [.ref a, l1, l2, l3, l4, l5, l6, l7, l8] S σ = ms_G 26 57 [.ref a, l1, l2, l3, l4, l5, l6, l7, l8] (.ref a :: S) σ := (ms_G_at rfl _ _ _).trans rfl
theorem mi_26_57 : ms_G 26 57 L (.ref (ms_ad 40 0) :: S) (ms_Z q w I J) = ms_G 26 60 L (.ref (ms_ad 58 0) :: S) (ms_Z q w I J) := mz_getf (c := (2, 58)) rfl (by decide) rfl (by decide) rfl
theorem mi_26_60 : ms_G 26 60 L S σ = ms_G 26 61 L (.int (nI 4) :: S) σ := (ms_G_at rfl _ _ _).trans rfl
theorem mi_26_61 : ms_G 26 61 [l0, .long X, l2, l3, l4, l5, l6, l7, l8] S σ = ms_G 26 62 [l0, .long X, l2, l3, l4, l5, l6, l7, l8] (.long X :: S) σ := (ms_G_at rfl _ _ _).trans rfl
theorem mi_26_62 : ms_G 26 62 L (.long X :: S) σ = ms_G 26 63 L (.int X.toInt32 :: S) σ := (ms_G_at rfl _ _ _).trans rfl
theorem mi_26_63 : ms_G 26 63 L (.int x :: .int (nI i) :: .ref (ms_ad r u) :: S) (ms_Z q w I J) = cond (mo_0 q.1 r u i) (ms_G 26 64 L S (ms_Z q true (ms_u I r u (upd (I r u) i x)) J)) (ms_raw 26 63 L (.int x :: .int (nI i) :: .ref (ms_ad r u) :: S) (ms_Z q w I J)) := mz_iast rfl x
theorem mi_26_64 : ms_G 26 64 [.ref a, l1, l2, l3, l4, l5, l6, l7, l8] S σ = ms_G 26 65 [.ref a, l1, l2, l3, l4, l5, l6, l7, l8] (.ref a :: S) σ := (ms_G_at rfl _ _ _).trans rfl
theorem mi_26_65 : ms_G 26 65 L (.ref (ms_ad 40 0) :: S) (ms_Z q w I J) = ms_G 26 68 L (.ref (ms_ad 58 0) :: S) (ms_Z q w I J) := mz_getf (c := (2, 58)) rfl (by decide) rfl (by decide) rfl
theorem mi_26_68 : ms_G 26 68 L S σ = ms_G 26 69 L (.int (nI 5) :: S) σ := (ms_G_at rfl _ _ _).trans rfl
theorem mi_26_69 : ms_G 26 69 [l0, .long X, l2, l3, l4, l5, l6, l7, l8] S σ = ms_G 26 70 [l0, .long X, l2, l3, l4, l5, l6, l7, l8] (.long X :: S) σ := (ms_G_at rfl _ _ _).trans rfl
theorem mi_26_70 : ms_G 26 70 L S σ = ms_G 26 72 L (.int (nI 32) :: S) σ := (ms_G_at rfl _ _ _).trans rfl
theorem mi_26_72 : ms_G 26 72 L (.int y :: .long X :: S) σ = ms_G 26 73 L (.long (X >>> (y.toInt64 &&& 63)) :: S) σ := (ms_G_at rfl _ _ _).trans rfl
theorem mi_26_73 : ms_G 26 73 L (.long X :: S) σ = ms_G 26 74 L (.int X.toInt32 :: S) σ := (ms_G_at rfl _ _ _).trans rfl
theorem mi_26_74 : ms_G 26 74 L (.int x :: .int (nI i) :: .ref (ms_ad r u) :: S) (ms_Z q w I J) = cond (mo_0 q.1 r u i) (ms_G 26 75 L S (ms_Z q true (ms_u I r u (upd (I r u) i x)) J)) (ms_raw 26 74 L (.int x :: .int (nI i) :: .ref (ms_ad r u) :: S) (ms_Z q w I J)) := mz_iast rfl x
theorem mi_26_75 : ms_G 26 75 [.ref a, l1, l2, l3, l4, l5, l6, l7, l8] S σ = ms_G 26 76 [.ref a, l1, l2, l3, l4, l5, l6, l7, l8] (.ref a :: S) σ := (ms_G_at rfl _ _ _).trans rfl
theorem mi_26_76 : ms_G 26 76 L (.ref (ms_ad 40 0) :: S) (ms_Z q w I J) = ms_G 26 79 L (.ref (ms_ad 58 0) :: S) (ms_Z q w I J) := mz_getf (c := (2, 58)) rfl (by decide) rfl (by decide) rfl
theorem mi_26_79 : ms_G 26 79 L S σ = ms_G 26 81 L (.int (nI 12) :: S) σ := (ms_G_at rfl _ _ _).trans rfl
theorem mi_26_81 : ms_G 26 81 [l0, l1, l2, l3, l4, l5, .int x, l7, l8] S σ = ms_G 26 83 [l0, l1, l2, l3, l4, l5, .int x, l7, l8] (.int x :: S) σ := (ms_G_at rfl _ _ _).trans rfl
theorem mi_26_83 : ms_G 26 83 L (.int x :: .int (nI i) :: .ref (ms_ad r u) :: S) (ms_Z q w I J) = cond (mo_0 q.1 r u i) (ms_G 26 84 L S (ms_Z q true (ms_u I r u (upd (I r u) i x)) J)) (ms_raw 26 83 L (.int x :: .int (nI i) :: .ref (ms_ad r u) :: S) (ms_Z q w I J)) := mz_iast rfl x
theorem mi_26_84 : ms_G 26 84 [.ref a, l1, l2, l3, l4, l5, l6, l7, l8] S σ = ms_G 26 85 [.ref a, l1, l2, l3, l4, l5, l6, l7, l8] (.ref a :: S) σ := (ms_G_at rfl _ _ _).trans rfl
theorem mi_26_85 : ms_G 26 85 L (.ref (ms_ad 40 0) :: S) (ms_Z q w I J) = ms_G 26 88 L (.ref (ms_ad 58 0) :: S) (ms_Z q w I J) := mz_getf (c := (2, 58)) rfl (by decide) rfl (by decide) rfl
theorem mi_26_88 : ms_G 26 88 L S σ = ms_G 26 90 L (.int (nI 13) :: S) σ := (ms_G_at rfl _ _ _).trans rfl
theorem mi_26_90 : ms_G 26 90 [l0, l1, l2, .int x, l4, l5, l6, l7, l8] S σ = ms_G 26 91 [l0, l1, l2, .int x, l4, l5, l6, l7, l8] (.int x :: S) σ := (ms_G_at rfl _ _ _).trans rfl
theorem mi_26_91 : ms_G 26 91 L (.int x :: .int (nI i) :: .ref (ms_ad r u) :: S) (ms_Z q w I J) = cond (mo_0 q.1 r u i) (ms_G 26 92 L S (ms_Z q true (ms_u I r u (upd (I r u) i x)) J)) (ms_raw 26 91 L (.int x :: .int (nI i) :: .ref (ms_ad r u) :: S) (ms_Z q w I J)) := mz_iast rfl x
theorem mi_26_92 : ms_G 26 92 [.ref a, l1, l2, l3, l4, l5, l6, l7, l8] S σ = ms_G 26 93 [.ref a, l1, l2, l3, l4, l5, l6, l7, l8] (.ref a :: S) σ := (ms_G_at rfl _ _ _).trans rfl
theorem mi_26_93 : ms_G 26 93 L (.ref (ms_ad 40 0) :: S) (ms_Z q w I J) = ms_G 26 96 L (.ref (ms_ad 58 0) :: S) (ms_Z q w I J) := mz_getf (c := (2, 58)) rfl (by decide) rfl (by decide) rfl
theorem mi_26_96 : ms_G 26 96 L S σ = ms_G 26 98 L (.int (nI 14) :: S) σ := (ms_G_at rfl _ _ _).trans rfl
theorem mi_26_98 : ms_G 26 98 [l0, l1, l2, l3, .int x, l5, l6, l7, l8] S σ = ms_G 26 100 [l0, l1, l2, l3, .int x, l5, l6, l7, l8] (.int x :: S) σ := (ms_G_at rfl _ _ _).trans rfl
theorem mi_26_100 : ms_G 26 100 L (.int x :: .int (nI i) :: .ref (ms_ad r u) :: S) (ms_Z q w I J) = cond (mo_0 q.1 r u i) (ms_G 26 101 L S (ms_Z q true (ms_u I r u (upd (I r u) i x)) J)) (ms_raw 26 100 L (.int x :: .int (nI i) :: .ref (ms_ad r u) :: S) (ms_Z q w I J)) := mz_iast rfl x
theorem mi_26_101 : ms_G 26 101 [.ref a, l1, l2, l3, l4, l5, l6, l7, l8] S σ = ms_G 26 102 [.ref a, l1, l2, l3, l4, l5, l6, l7, l8] (.ref a :: S) σ := (ms_G_at rfl _ _ _).trans rfl
theorem mi_26_102 : ms_G 26 102 L (.ref (ms_ad 40 0) :: S) (ms_Z q w I J) = ms_G 26 105 L (.ref (ms_ad 58 0) :: S) (ms_Z q w I J) := mz_getf (c := (2, 58)) rfl (by decide) rfl (by decide) rfl
theorem mi_26_105 : ms_G 26 105 L S σ = ms_G 26 107 L (.int (nI 15) :: S) σ := (ms_G_at rfl _ _ _).trans rfl
theorem mi_26_107 : ms_G 26 107 [l0, l1, l2, l3, l4, .int x, l6, l7, l8] S σ = ms_G 26 109 [l0, l1, l2, l3, l4, .int x, l6, l7, l8] (.int x :: S) σ := (ms_G_at rfl _ _ _).trans rfl
theorem mi_26_109 : ms_G 26 109 L (.int x :: .int (nI i) :: .ref (ms_ad r u) :: S) (ms_Z q w I J) = cond (mo_0 q.1 r u i) (ms_G 26 110 L S (ms_Z q true (ms_u I r u (upd (I r u) i x)) J)) (ms_raw 26 109 L (.int x :: .int (nI i) :: .ref (ms_ad r u) :: S) (ms_Z q w I J)) := mz_iast rfl x
theorem mi_26_110 : ms_G 26 110 L S σ = ms_G 26 111 L (.int (nI 0) :: S) σ := (ms_G_at rfl _ _ _).trans rfl
theorem mi_26_111 : ms_G 26 111 [l0, l1, l2, l3, l4, l5, .int y, l7, l8] (.int x :: S) σ = ms_G 26 113 [l0, l1, l2, l3, l4, l5, .int y, .int x, l8] S σ := (ms_G_at rfl _ _ _).trans rfl
theorem mi_26_113 : ms_G 26 113 [l0, l1, l2, l3, l4, l5, l6, .int x, l8] S σ = ms_G 26 115 [l0, l1, l2, l3, l4, l5, l6, .int x, l8] (.int x :: S) σ := (ms_G_at rfl _ _ _).trans rfl
theorem mi_26_115 : ms_G 26 115 L S σ = ms_G 26 117 L (.int (nI 16) :: S) σ := (ms_G_at rfl _ _ _).trans rfl
theorem mi_26_117 : ms_G 26 117 L (.int y :: .int x :: S) σ = if y ≤ x then ms_G 26 140 L S σ else ms_G 26 120 L S σ := mz_bra rfl rfl rfl
theorem mi_26_120 : ms_G 26 120 [.ref a, l1, l2, l3, l4, l5, l6, l7, l8] S σ = ms_G 26 121 [.ref a, l1, l2, l3, l4, l5, l6, l7, l8] (.ref a :: S) σ := (ms_G_at rfl _ _ _).trans rfl
theorem mi_26_121 : ms_G 26 121 L (.ref (ms_ad 40 0) :: S) (ms_Z q w I J) = ms_G 26 124 L (.ref (ms_ad 59 0) :: S) (ms_Z q w I J) := mz_getf (c := (2, 59)) rfl (by decide) rfl (by decide) rfl
theorem mi_26_124 : ms_G 26 124 [l0, l1, l2, l3, l4, l5, l6, .int x, l8] S σ = ms_G 26 126 [l0, l1, l2, l3, l4, l5, l6, .int x, l8] (.int x :: S) σ := (ms_G_at rfl _ _ _).trans rfl
theorem mi_26_126 : ms_G 26 126 [.ref a, l1, l2, l3, l4, l5, l6, l7, l8] S σ = ms_G 26 127 [.ref a, l1, l2, l3, l4, l5, l6, l7, l8] (.ref a :: S) σ := (ms_G_at rfl _ _ _).trans rfl
theorem mi_26_127 : ms_G 26 127 L (.ref (ms_ad 40 0) :: S) (ms_Z q w I J) = ms_G 26 130 L (.ref (ms_ad 58 0) :: S) (ms_Z q w I J) := mz_getf (c := (2, 58)) rfl (by decide) rfl (by decide) rfl
theorem mi_26_130 : ms_G 26 130 [l0, l1, l2, l3, l4, l5, l6, .int x, l8] S σ = ms_G 26 132 [l0, l1, l2, l3, l4, l5, l6, .int x, l8] (.int x :: S) σ := (ms_G_at rfl _ _ _).trans rfl
theorem mi_26_132 : ms_G 26 132 L (.int (nI i) :: .ref (ms_ad r u) :: S) (ms_Z q w I J) = cond (mo_0 q.1 r u i) (ms_G 26 133 L (.int (I r u i) :: S) (ms_Z q w I J)) (ms_raw 26 132 L (.int (nI i) :: .ref (ms_ad r u) :: S) (ms_Z q w I J)) := mz_iald rfl
theorem mi_26_133 : ms_G 26 133 L (.int x :: .int (nI i) :: .ref (ms_ad r u) :: S) (ms_Z q w I J) = cond (mo_0 q.1 r u i) (ms_G 26 134 L S (ms_Z q true (ms_u I r u (upd (I r u) i x)) J)) (ms_raw 26 133 L (.int x :: .int (nI i) :: .ref (ms_ad r u) :: S) (ms_Z q w I J)) := mz_iast rfl x
theorem mi_26_134 : ms_G 26 134 [l0, l1, l2, l3, l4, l5, .int y, .int x, l8] S σ = ms_G 26 137 [l0, l1, l2, l3, l4, l5, .int y, .int (x + nI 1), l8] S σ := (ms_G_at rfl _ _ _).trans rfl
theorem mi_26_137 : ms_G 26 137 L S σ = ms_G 26 113 L S σ := (ms_G_at rfl _ _ _).trans rfl
theorem mi_26_140 : ms_G 26 140 L S σ = ms_G 26 141 L (.int (nI 0) :: S) σ := (ms_G_at rfl _ _ _).trans rfl
theorem mi_26_141 : ms_G 26 141 [l0, l1, l2, l3, l4, l5, .int y, l7, l8] (.int x :: S) σ = ms_G 26 143 [l0, l1, l2, l3, l4, l5, .int y, .int x, l8] S σ := (ms_G_at rfl _ _ _).trans rfl
theorem mi_26_143 : ms_G 26 143 [l0, l1, l2, l3, l4, l5, l6, .int x, l8] S σ = ms_G 26 145 [l0, l1, l2, l3, l4, l5, l6, .int x, l8] (.int x :: S) σ := (ms_G_at rfl _ _ _).trans rfl
theorem mi_26_145 : ms_G 26 145 L S σ = ms_G 26 147 L (.int (nI 10) :: S) σ := (ms_G_at rfl _ _ _).trans rfl
theorem mi_26_147 : ms_G 26 147 L (.int y :: .int x :: S) σ = if y ≤ x then ms_G 26 238 L S σ else ms_G 26 150 L S σ := mz_bra rfl rfl rfl
theorem mi_26_150 : ms_G 26 150 L S σ = ms_G 26 151 L (.int (nI 0) :: S) σ := (ms_G_at rfl _ _ _).trans rfl
theorem mi_26_151 : ms_G 26 151 [l0, l1, l2, l3, l4, l5, l6, .int y, l8] (.int x :: S) σ = ms_G 26 153 [l0, l1, l2, l3, l4, l5, l6, .int y, .int x] S σ := (ms_G_at rfl _ _ _).trans rfl
theorem mi_26_153 : ms_G 26 153 [l0, l1, l2, l3, l4, l5, l6, l7, .int x] S σ = ms_G 26 155 [l0, l1, l2, l3, l4, l5, l6, l7, .int x] (.int x :: S) σ := (ms_G_at rfl _ _ _).trans rfl
theorem mi_26_155 : ms_G 26 155 L S σ = ms_G 26 156 L (.int (nI 4) :: S) σ := (ms_G_at rfl _ _ _).trans rfl
theorem mi_26_156 : ms_G 26 156 L (.int y :: .int x :: S) σ = if y ≤ x then ms_G 26 185 L S σ else ms_G 26 159 L S σ := mz_bra rfl rfl rfl
theorem mi_26_159 : ms_G 26 159 [.ref a, l1, l2, l3, l4, l5, l6, l7, l8] S σ = ms_G 26 160 [.ref a, l1, l2, l3, l4, l5, l6, l7, l8] (.ref a :: S) σ := (ms_G_at rfl _ _ _).trans rfl
theorem mi_26_160 : ms_G 26 160 [l0, l1, l2, l3, l4, l5, l6, l7, .int x] S σ = ms_G 26 162 [l0, l1, l2, l3, l4, l5, l6, l7, .int x] (.int x :: S) σ := (ms_G_at rfl _ _ _).trans rfl
theorem mi_26_162 : ms_G 26 162 L S σ = ms_G 26 163 L (.int (nI 4) :: S) σ := (ms_G_at rfl _ _ _).trans rfl
theorem mi_26_163 : ms_G 26 163 [l0, l1, l2, l3, l4, l5, l6, l7, .int x] S σ = ms_G 26 165 [l0, l1, l2, l3, l4, l5, l6, l7, .int x] (.int x :: S) σ := (ms_G_at rfl _ _ _).trans rfl
theorem mi_26_165 : ms_G 26 165 L (.int y :: .int x :: S) σ = ms_G 26 166 L (.int (x + y) :: S) σ := (ms_G_at rfl _ _ _).trans rfl
theorem mi_26_166 : ms_G 26 166 L S σ = ms_G 26 168 L (.int (nI 8) :: S) σ := (ms_G_at rfl _ _ _).trans rfl
theorem mi_26_168 : ms_G 26 168 [l0, l1, l2, l3, l4, l5, l6, l7, .int x] S σ = ms_G 26 170 [l0, l1, l2, l3, l4, l5, l6, l7, .int x] (.int x :: S) σ := (ms_G_at rfl _ _ _).trans rfl
theorem mi_26_170 : ms_G 26 170 L (.int y :: .int x :: S) σ = ms_G 26 171 L (.int (x + y) :: S) σ := (ms_G_at rfl _ _ _).trans rfl
theorem mi_26_171 : ms_G 26 171 L S σ = ms_G 26 173 L (.int (nI 12) :: S) σ := (ms_G_at rfl _ _ _).trans rfl
theorem mi_26_173 : ms_G 26 173 [l0, l1, l2, l3, l4, l5, l6, l7, .int x] S σ = ms_G 26 175 [l0, l1, l2, l3, l4, l5, l6, l7, .int x] (.int x :: S) σ := (ms_G_at rfl _ _ _).trans rfl
theorem mi_26_175 : ms_G 26 175 L (.int y :: .int x :: S) σ = ms_G 26 176 L (.int (x + y) :: S) σ := (ms_G_at rfl _ _ _).trans rfl
theorem mi_26_176 : ms_G 26 176 L [.int x3, .int x2, .int x1, .int x0, .ref (ms_ad 40 0)] (ms_Z q w I J) = mo_cl 26 176 179 (ms_G 25 0 [.ref (ms_ad 40 0), .int x0, .int x1, .int x2, .int x3, .null] [] (ms_Z q false I J)) w L [] := (mz_call rfl rfl (mz_can1 rfl rfl rfl rfl rfl (by decide) rfl (by decide))).trans rfl
theorem mi_26_179 : ms_G 26 179 [l0, l1, l2, l3, l4, l5, l6, .int y, .int x] S σ = ms_G 26 182 [l0, l1, l2, l3, l4, l5, l6, .int y, .int (x + nI 1)] S σ := (ms_G_at rfl _ _ _).trans rfl
theorem mi_26_182 : ms_G 26 182 L S σ = ms_G 26 153 L S σ := (ms_G_at rfl _ _ _).trans rfl
theorem mi_26_185 : ms_G 26 185 L S σ = ms_G 26 186 L (.int (nI 0) :: S) σ := (ms_G_at rfl _ _ _).trans rfl
theorem mi_26_186 : ms_G 26 186 [l0, l1, l2, l3, l4, l5, l6, .int y, l8] (.int x :: S) σ = ms_G 26 188 [l0, l1, l2, l3, l4, l5, l6, .int y, .int x] S σ := (ms_G_at rfl _ _ _).trans rfl
theorem mi_26_188 : ms_G 26 188 [l0, l1, l2, l3, l4, l5, l6, l7, .int x] S σ = ms_G 26 190 [l0, l1, l2, l3, l4, l5, l6, l7, .int x] (.int x :: S) σ := (ms_G_at rfl _ _ _).trans rfl
theorem mi_26_190 : ms_G 26 190 L S σ = ms_G 26 191 L (.int (nI 4) :: S) σ := (ms_G_at rfl _ _ _).trans rfl
theorem mi_26_191 : ms_G 26 191 L (.int y :: .int x :: S) σ = if y ≤ x then ms_G 26 232 L S σ else ms_G 26 194 L S σ := mz_bra rfl rfl rfl
theorem mi_26_194 : ms_G 26 194 [.ref a, l1, l2, l3, l4, l5, l6, l7, l8] S σ = ms_G 26 195 [.ref a, l1, l2, l3, l4, l5, l6, l7, l8] (.ref a :: S) σ := (ms_G_at rfl _ _ _).trans rfl
theorem mi_26_195 : ms_G 26 195 [l0, l1, l2, l3, l4, l5, l6, l7, .int x] S σ = ms_G 26 197 [l0, l1, l2, l3, l4, l5, l6, l7, .int x] (.int x :: S) σ := (ms_G_at rfl _ _ _).trans rfl
theorem mi_26_197 : ms_G 26 197 L S σ = ms_G 26 198 L (.int (nI 4) :: S) σ := (ms_G_at rfl _ _ _).trans rfl
theorem mi_26_198 : ms_G 26 198 [l0, l1, l2, l3, l4, l5, l6, l7, .int x] S σ = ms_G 26 200 [l0, l1, l2, l3, l4, l5, l6, l7, .int x] (.int x :: S) σ := (ms_G_at rfl _ _ _).trans rfl
theorem mi_26_200 : ms_G 26 200 L S σ = ms_G 26 201 L (.int (nI 1) :: S) σ := (ms_G_at rfl _ _ _).trans rfl
theorem mi_26_201 : ms_G 26 201 L (.int y :: .int x :: S) σ = ms_G 26 202 L (.int (x + y) :: S) σ := (ms_G_at rfl _ _ _).trans rfl
theorem mi_26_202 : ms_G 26 202 L S σ = ms_G 26 203 L (.int (nI 4) :: S) σ := (ms_G_at rfl _ _ _).trans rfl
theorem mi_26_203 : ms_G 26 203 L (.int (nI 4) :: .int x :: S) σ = ms_G 26 204 L (.int (x - x / nI 4 * nI 4) :: S) σ := (ms_G_at rfl _ _ _).trans rfl
theorem mi_26_204 : ms_G 26 204 L (.int y :: .int x :: S) σ = ms_G 26 205 L (.int (x + y) :: S) σ := (ms_G_at rfl _ _ _).trans rfl
theorem mi_26_205 : ms_G 26 205 L S σ = ms_G 26 207 L (.int (nI 8) :: S) σ := (ms_G_at rfl _ _ _).trans rfl
theorem mi_26_207 : ms_G 26 207 [l0, l1, l2, l3, l4, l5, l6, l7, .int x] S σ = ms_G 26 209 [l0, l1, l2, l3, l4, l5, l6, l7, .int x] (.int x :: S) σ := (ms_G_at rfl _ _ _).trans rfl
theorem mi_26_209 : ms_G 26 209 L S σ = ms_G 26 210 L (.int (nI 2) :: S) σ := (ms_G_at rfl _ _ _).trans rfl
theorem mi_26_210 : ms_G 26 210 L (.int y :: .int x :: S) σ = ms_G 26 211 L (.int (x + y) :: S) σ := (ms_G_at rfl _ _ _).trans rfl
theorem mi_26_211 : ms_G 26 211 L S σ = ms_G 26 212 L (.int (nI 4) :: S) σ := (ms_G_at rfl _ _ _).trans rfl
theorem mi_26_212 : ms_G 26 212 L (.int (nI 4) :: .int x :: S) σ = ms_G 26 213 L (.int (x - x / nI 4 * nI 4) :: S) σ := (ms_G_at rfl _ _ _).trans rfl
theorem mi_26_213 : ms_G 26 213 L (.int y :: .int x :: S) σ = ms_G 26 214 L (.int (x + y) :: S) σ := (ms_G_at rfl _ _ _).trans rfl
theorem mi_26_214 : ms_G 26 214 L S σ = ms_G 26 216 L (.int (nI 12) :: S) σ := (ms_G_at rfl _ _ _).trans rfl
theorem mi_26_216 : ms_G 26 216 [l0, l1, l2, l3, l4, l5, l6, l7, .int x] S σ = ms_G 26 218 [l0, l1, l2, l3, l4, l5, l6, l7, .int x] (.int x :: S) σ := (ms_G_at rfl _ _ _).trans rfl
theorem mi_26_218 : ms_G 26 218 L S σ = ms_G 26 219 L (.int (nI 3) :: S) σ := (ms_G_at rfl _ _ _).trans rfl
theorem mi_26_219 : ms_G 26 219 L (.int y :: .int x :: S) σ = ms_G 26 220 L (.int (x + y) :: S) σ := (ms_G_at rfl _ _ _).trans rfl
theorem mi_26_220 : ms_G 26 220 L S σ = ms_G 26 221 L (.int (nI 4) :: S) σ := (ms_G_at rfl _ _ _).trans rfl
theorem mi_26_221 : ms_G 26 221 L (.int (nI 4) :: .int x :: S) σ = ms_G 26 222 L (.int (x - x / nI 4 * nI 4) :: S) σ := (ms_G_at rfl _ _ _).trans rfl
theorem mi_26_222 : ms_G 26 222 L (.int y :: .int x :: S) σ = ms_G 26 223 L (.int (x + y) :: S) σ := (ms_G_at rfl _ _ _).trans rfl
theorem mi_26_223 : ms_G 26 223 L [.int x3, .int x2, .int x1, .int x0, .ref (ms_ad 40 0)] (ms_Z q w I J) = mo_cl 26 223 226 (ms_G 25 0 [.ref (ms_ad 40 0), .int x0, .int x1, .int x2, .int x3, .null] [] (ms_Z q false I J)) w L [] := (mz_call rfl rfl (mz_can1 rfl rfl rfl rfl rfl (by decide) rfl (by decide))).trans rfl
theorem mi_26_226 : ms_G 26 226 [l0, l1, l2, l3, l4, l5, l6, .int y, .int x] S σ = ms_G 26 229 [l0, l1, l2, l3, l4, l5, l6, .int y, .int (x + nI 1)] S σ := (ms_G_at rfl _ _ _).trans rfl
theorem mi_26_229 : ms_G 26 229 L S σ = ms_G 26 188 L S σ := (ms_G_at rfl _ _ _).trans rfl
theorem mi_26_232 : ms_G 26 232 [l0, l1, l2, l3, l4, l5, .int y, .int x, l8] S σ = ms_G 26 235 [l0, l1, l2, l3, l4, l5, .int y, .int (x + nI 1), l8] S σ := (ms_G_at rfl _ _ _).trans rfl
theorem mi_26_235 : ms_G 26 235 L S σ = ms_G 26 143 L S σ := (ms_G_at rfl _ _ _).trans rfl
theorem mi_26_238 : ms_G 26 238 L S σ = ms_G 26 239 L (.int (nI 0) :: S) σ := (ms_G_at rfl _ _ _).trans rfl
theorem mi_26_239 : ms_G 26 239 [l0, l1, l2, l3, l4, l5, .int y, l7, l8] (.int x :: S) σ = ms_G 26 241 [l0, l1, l2, l3, l4, l5, .int y, .int x, l8] S σ := (ms_G_at rfl _ _ _).trans rfl
theorem mi_26_241 : ms_G 26 241 [l0, l1, l2, l3, l4, l5, l6, .int x, l8] S σ = ms_G 26 243 [l0, l1, l2, l3, l4, l5, l6, .int x, l8] (.int x :: S) σ := (ms_G_at rfl _ _ _).trans rfl
theorem mi_26_243 : ms_G 26 243 L S σ = ms_G 26 245 L (.int (nI 16) :: S) σ := (ms_G_at rfl _ _ _).trans rfl
theorem mi_26_245 : ms_G 26 245 L (.int y :: .int x :: S) σ = if y ≤ x then ms_G 26 271 L S σ else ms_G 26 248 L S σ := mz_bra rfl rfl rfl
theorem mi_26_248 : ms_G 26 248 [.ref a, l1, l2, l3, l4, l5, l6, l7, l8] S σ = ms_G 26 249 [.ref a, l1, l2, l3, l4, l5, l6, l7, l8] (.ref a :: S) σ := (ms_G_at rfl _ _ _).trans rfl
theorem mi_26_249 : ms_G 26 249 L (.ref (ms_ad 40 0) :: S) (ms_Z q w I J) = ms_G 26 252 L (.ref (ms_ad 59 0) :: S) (ms_Z q w I J) := mz_getf (c := (2, 59)) rfl (by decide) rfl (by decide) rfl
theorem mi_26_252 : ms_G 26 252 [l0, l1, l2, l3, l4, l5, l6, .int x, l8] S σ = ms_G 26 254 [l0, l1, l2, l3, l4, l5, l6, .int x, l8] (.int x :: S) σ := (ms_G_at rfl _ _ _).trans rfl
theorem mi_26_254 : ms_G 26 254 L (.int x :: .ref b :: S) σ = ms_G 26 255 L (.int x :: .ref b :: .int x :: .ref b :: S) σ := (ms_G_at rfl _ _ _).trans rfl
theorem mi_26_255 : ms_G 26 255 L (.int (nI i) :: .ref (ms_ad r u) :: S) (ms_Z q w I J) = cond (mo_0 q.1 r u i) (ms_G 26 256 L (.int (I r u i) :: S) (ms_Z q w I J)) (ms_raw 26 255 L (.int (nI i) :: .ref (ms_ad r u) :: S) (ms_Z q w I J)) := mz_iald rfl
theorem mi_26_256 : ms_G 26 256 [.ref a, l1, l2, l3, l4, l5, l6, l7, l8] S σ = ms_G 26 257 [.ref a, l1, l2, l3, l4, l5, l6, l7, l8] (.ref a :: S) σ := (ms_G_at rfl _ _ _).trans rfl
theorem mi_26_257 : ms_G 26 257 L (.ref (ms_ad 40 0) :: S) (ms_Z q w I J) = ms_G 26 260 L (.ref (ms_ad 58 0) :: S) (ms_Z q w I J) := mz_getf (c := (2, 58)) rfl (by decide) rfl (by decide) rfl
theorem mi_26_260 : ms_G 26 260 [l0, l1, l2, l3, l4, l5, l6, .int x, l8] S σ = ms_G 26 262 [l0, l1, l2, l3, l4, l5, l6, .int x, l8] (.int x :: S) σ := (ms_G_at rfl _ _ _).trans rfl
theorem mi_26_262 : ms_G 26 262 L (.int (nI i) :: .ref (ms_ad r u) :: S) (ms_Z q w I J) = cond (mo_0 q.1 r u i) (ms_G 26 263 L (.int (I r u i) :: S) (ms_Z q w I J)) (ms_raw 26 262 L (.int (nI i) :: .ref (ms_ad r u) :: S) (ms_Z q w I J)) := mz_iald rfl
theorem mi_26_263 : ms_G 26 263 L (.int y :: .int x :: S) σ = ms_G 26 264 L (.int (x + y) :: S) σ := (ms_G_at rfl _ _ _).trans rfl
theorem mi_26_264 : ms_G 26 264 L (.int x :: .int (nI i) :: .ref (ms_ad r u) :: S) (ms_Z q w I J) = cond (mo_0 q.1 r u i) (ms_G 26 265 L S (ms_Z q true (ms_u I r u (upd (I r u) i x)) J)) (ms_raw 26 264 L (.int x :: .int (nI i) :: .ref (ms_ad r u) :: S) (ms_Z q w I J)) := mz_iast rfl x
theorem mi_26_265 : ms_G 26 265 [l0, l1, l2, l3, l4, l5, .int y, .int x, l8] S σ = ms_G 26 268 [l0, l1, l2, l3, l4, l5, .int y, .int (x + nI 1), l8] S σ := (ms_G_at rfl _ _ _).trans rfl
theorem mi_26_268 : ms_G 26 268 L S σ = ms_G 26 241 L S σ := (ms_G_at rfl _ _ _).trans rfl
theorem mi_26_271 : ms_G 26 271 L [] σ = some (.inl none, σ) := (ms_G_at rfl _ _ _).trans rfl
-- MaskedSumModel.word(JIII)I
theorem mi_27_0 : ms_G 27 0 [.ref a, l1, l2, l3, l4, l5] S σ = ms_G 27 1 [.ref a, l1, l2, l3, l4, l5] (.ref a :: S) σ := (ms_G_at rfl _ _ _).trans rfl
theorem mi_27_1 : ms_G 27 1 [l0, .long X, l2, l3, l4, l5] S σ = ms_G 27 2 [l0, .long X, l2, l3, l4, l5] (.long X :: S) σ := (ms_G_at rfl _ _ _).trans rfl
theorem mi_27_2 : ms_G 27 2 [l0, l1, l2, .int x, l4, l5] S σ = ms_G 27 3 [l0, l1, l2, .int x, l4, l5] (.int x :: S) σ := (ms_G_at rfl _ _ _).trans rfl
theorem mi_27_3 : ms_G 27 3 [l0, l1, l2, l3, .int x, l5] S σ = ms_G 27 5 [l0, l1, l2, l3, .int x, l5] (.int x :: S) σ := (ms_G_at rfl _ _ _).trans rfl
theorem mi_27_5 : ms_G 27 5 L S σ = ms_G 27 6 L (.int (nI 0) :: S) σ := (ms_G_at rfl _ _ _).trans rfl
theorem mi_27_6 : ms_G 27 6 [l0, l1, l2, l3, l4, .int x] S σ = ms_G 27 8 [l0, l1, l2, l3, l4, .int x] (.int x :: S) σ := (ms_G_at rfl _ _ _).trans rfl
theorem mi_27_8 : ms_G 27 8 L S σ = ms_G 27 10 L (.int (nI 16) :: S) σ := (ms_G_at rfl _ _ _).trans rfl
theorem mi_27_10 : ms_G 27 10 L (.int (nI 16) :: .int x :: S) σ = ms_G 27 11 L (.int (x / nI 16) :: S) σ := (ms_G_at rfl _ _ _).trans rfl
theorem mi_27_11 : ms_G 27 11 L [.int x4, .int x3, .int x2, .int x1, .long X0, .ref (ms_ad 40 0)] (ms_Z q w I J) = mo_cl 27 11 14 (ms_G 26 0 [.ref (ms_ad 40 0), .long X0, .null, .int x1, .int x2, .int x3, .int x4, .null, .null] [] (ms_Z q false I J)) w L [] := (mz_call rfl rfl (mz_can1 rfl rfl rfl rfl rfl (by decide) rfl (by decide))).trans rfl
theorem mi_27_14 : ms_G 27 14 [.ref a, l1, l2, l3, l4, l5] S σ = ms_G 27 15 [.ref a, l1, l2, l3, l4, l5] (.ref a :: S) σ := (ms_G_at rfl _ _ _).trans rfl
theorem mi_27_15 : ms_G 27 15 L (.ref (ms_ad 40 0) :: S) (ms_Z q w I J) = ms_G 27 18 L (.ref (ms_ad 59 0) :: S) (ms_Z q w I J) := mz_getf (c := (2, 59)) rfl (by decide) rfl (by decide) rfl
theorem mi_27_18 : ms_G 27 18 [l0, l1, l2, l3, l4, .int x] S σ = ms_G 27 20 [l0, l1, l2, l3, l4, .int x] (.int x :: S) σ := (ms_G_at rfl _ _ _).trans rfl
theorem mi_27_20 : ms_G 27 20 L S σ = ms_G 27 22 L (.int (nI 16) :: S) σ := (ms_G_at rfl _ _ _).trans rfl
theorem mi_27_22 : ms_G 27 22 L (.int (nI 16) :: .int x :: S) σ = ms_G 27 23 L (.int (x - x / nI 16 * nI 16) :: S) σ := (ms_G_at rfl _ _ _).trans rfl
theorem mi_27_23 : ms_G 27 23 L (.int (nI i) :: .ref (ms_ad r u) :: S) (ms_Z q w I J) = cond (mo_0 q.1 r u i) (ms_G 27 24 L (.int (I r u i) :: S) (ms_Z q w I J)) (ms_raw 27 23 L (.int (nI i) :: .ref (ms_ad r u) :: S) (ms_Z q w I J)) := mz_iald rfl
theorem mi_27_24 : ms_G 27 24 L [.int x] σ = some (.inl (some (.int x)), σ) := (ms_G_at rfl _ _ _).trans rfl
-- MaskedSumModel.spread([J[II)V
theorem mi_28_0 : ms_G 28 0 L S σ = ms_G 28 1 L (.int (nI 0) :: S) σ := (ms_G_at rfl _ _ _).trans rfl
theorem mi_28_1 : ms_G 28 1 [l0, l1, .int y, l3, l4, l5, l6, l7, l8, l9] (.int x :: S) σ = ms_G 28 2 [l0, l1, .int y, .int x, l4, l5, l6, l7, l8, l9] S σ := (ms_G_at rfl _ _ _).trans rfl
theorem mi_28_2 : ms_G 28 2 [l0, l1, l2, .int x, l4, l5, l6, l7, l8, l9] S σ = ms_G 28 3 [l0, l1, l2, .int x, l4, l5, l6, l7, l8, l9] (.int x :: S) σ := (ms_G_at rfl _ _ _).trans rfl
theorem mi_28_3 : ms_G 28 3 L S σ = ms_G 28 5 L (.int (nI 10) :: S) σ := (ms_G_at rfl _ _ _).trans rfl
theorem mi_28_5 : ms_G 28 5 L (.int y :: .int x :: S) σ = if y ≤ x then ms_G 28 100 L S σ else ms_G 28 8 L S σ := mz_bra rfl rfl rfl
theorem mi_28_8 : ms_G 28 8 L S σ = ms_G 28 9 L (.long (lN 0) :: S) σ := (ms_G_at rfl _ _ _).trans rfl
theorem mi_28_9 : ms_G 28 9 [l0, l1, l2, .int y, l4, l5, l6, l7, l8, l9] (.long X :: S) σ = ms_G 28 11 [l0, l1, l2, .int y, .long X, .null, l6, l7, l8, l9] S σ := (ms_G_at rfl _ _ _).trans rfl
theorem mi_28_11 : ms_G 28 11 L S σ = ms_G 28 12 L (.int (nI 0) :: S) σ := (ms_G_at rfl _ _ _).trans rfl
theorem mi_28_12 : ms_G 28 12 [l0, l1, l2, l3, l4, .null, l6, l7, l8, l9] (.int x :: S) σ = ms_G 28 14 [l0, l1, l2, l3, l4, .null, .int x, l7, l8, l9] S σ := (ms_G_at rfl _ _ _).trans rfl
theorem mi_28_14 : ms_G 28 14 [l0, l1, l2, l3, l4, l5, .int x, l7, l8, l9] S σ = ms_G 28 16 [l0, l1, l2, l3, l4, l5, .int x, l7, l8, l9] (.int x :: S) σ := (ms_G_at rfl _ _ _).trans rfl
theorem mi_28_16 : ms_G 28 16 L S σ = ms_G 28 18 L (.int (nI 13) :: S) σ := (ms_G_at rfl _ _ _).trans rfl
theorem mi_28_18 : ms_G 28 18 L (.int y :: .int x :: S) σ = if y ≤ x then ms_G 28 89 L S σ else ms_G 28 21 L S σ := mz_bra rfl rfl rfl
theorem mi_28_21 : ms_G 28 21 L S σ = ms_G 28 23 L (.int (nI 13) :: S) σ := (ms_G_at rfl _ _ _).trans rfl
theorem mi_28_23 : ms_G 28 23 [l0, l1, l2, .int x, l4, l5, l6, l7, l8, l9] S σ = ms_G 28 24 [l0, l1, l2, .int x, l4, l5, l6, l7, l8, l9] (.int x :: S) σ := (ms_G_at rfl _ _ _).trans rfl
theorem mi_28_24 : ms_G 28 24 L (.int y :: .int x :: S) σ = ms_G 28 25 L (.int (x * y) :: S) σ := (ms_G_at rfl _ _ _).trans rfl
theorem mi_28_25 : ms_G 28 25 [l0, l1, l2, l3, l4, l5, .int x, l7, l8, l9] S σ = ms_G 28 27 [l0, l1, l2, l3, l4, l5, .int x, l7, l8, l9] (.int x :: S) σ := (ms_G_at rfl _ _ _).trans rfl
theorem mi_28_27 : ms_G 28 27 L (.int y :: .int x :: S) σ = ms_G 28 28 L (.int (x + y) :: S) σ := (ms_G_at rfl _ _ _).trans rfl
theorem mi_28_28 : ms_G 28 28 [l0, l1, l2, l3, l4, l5, .int y, l7, l8, l9] (.int x :: S) σ = ms_G 28 30 [l0, l1, l2, l3, l4, l5, .int y, .int x, l8, l9] S σ := (ms_G_at rfl _ _ _).trans rfl
theorem mi_28_30 : ms_G 28 30 [l0, l1, l2, l3, l4, l5, l6, .int x, l8, l9] S σ = ms_G 28 32 [l0, l1, l2, l3, l4, l5, l6, .int x, l8, l9] (.int x :: S) σ := (ms_G_at rfl _ _ _).trans rfl
theorem mi_28_32 : ms_G 28 32 L S σ = ms_G 28 35 L (.int (nI 128) :: S) σ := (ms_G_at rfl _ _ _).trans rfl
theorem mi_28_35 : ms_G 28 35 L (.int y :: .int x :: S) σ = if y ≤ x then ms_G 28 57 L S σ else ms_G 28 38 L S σ := mz_bra rfl rfl rfl
theorem mi_28_38 : ms_G 28 38 [l0, .ref a, l2, l3, l4, l5, l6, l7, l8, l9] S σ = ms_G 28 39 [l0, .ref a, l2, l3, l4, l5, l6, l7, l8, l9] (.ref a :: S) σ := (ms_G_at rfl _ _ _).trans rfl
theorem mi_28_39 : ms_G 28 39 [l0, l1, l2, l3, l4, l5, l6, .int x, l8, l9] S σ = ms_G 28 41 [l0, l1, l2, l3, l4, l5, l6, .int x, l8, l9] (.int x :: S) σ := (ms_G_at rfl _ _ _).trans rfl
theorem mi_28_41 : ms_G 28 41 L S σ = ms_G 28 43 L (.int (nI 32) :: S) σ := (ms_G_at rfl _ _ _).trans rfl
theorem mi_28_43 : ms_G 28 43 L (.int (nI 32) :: .int x :: S) σ = ms_G 28 44 L (.int (x / nI 32) :: S) σ := (ms_G_at rfl _ _ _).trans rfl
theorem mi_28_44 : ms_G 28 44 L (.int (nI i) :: .ref (ms_ad r u) :: S) (ms_Z q w I J) = cond (mo_0 q.1 r u i) (ms_G 28 45 L (.int (I r u i) :: S) (ms_Z q w I J)) (ms_raw 28 44 L (.int (nI i) :: .ref (ms_ad r u) :: S) (ms_Z q w I J)) := mz_iald rfl
theorem mi_28_45 : ms_G 28 45 [l0, l1, l2, l3, l4, l5, l6, .int x, l8, l9] S σ = ms_G 28 47 [l0, l1, l2, l3, l4, l5, l6, .int x, l8, l9] (.int x :: S) σ := (ms_G_at rfl _ _ _).trans rfl
theorem mi_28_47 : ms_G 28 47 L S σ = ms_G 28 49 L (.int (nI 32) :: S) σ := (ms_G_at rfl _ _ _).trans rfl
theorem mi_28_49 : ms_G 28 49 L (.int (nI 32) :: .int x :: S) σ = ms_G 28 50 L (.int (x - x / nI 32 * nI 32) :: S) σ := (ms_G_at rfl _ _ _).trans rfl
theorem mi_28_50 : ms_G 28 50 L (.int y :: .int x :: S) σ = ms_G 28 51 L (.int ((x.toUInt32 >>> (y.toUInt32 &&& Int32.toUInt32 31)).toInt32) :: S) σ := (ms_G_at rfl _ _ _).trans rfl
theorem mi_28_51 : ms_G 28 51 L S σ = ms_G 28 52 L (.int (nI 1) :: S) σ := (ms_G_at rfl _ _ _).trans rfl
theorem mi_28_52 : ms_G 28 52 L (.int y :: .int x :: S) σ = ms_G 28 53 L (.int (x &&& y) :: S) σ := (ms_G_at rfl _ _ _).trans rfl
theorem mi_28_53 : ms_G 28 53 L (.int x :: S) σ = ms_G 28 54 L (.long x.toInt64 :: S) σ := (ms_G_at rfl _ _ _).trans rfl
theorem mi_28_54 : ms_G 28 54 L S σ = ms_G 28 71 L S σ := (ms_G_at rfl _ _ _).trans rfl
theorem mi_28_57 : ms_G 28 57 [l0, l1, l2, l3, l4, l5, l6, .int x, l8, l9] S σ = ms_G 28 59 [l0, l1, l2, l3, l4, l5, l6, .int x, l8, l9] (.int x :: S) σ := (ms_G_at rfl _ _ _).trans rfl
theorem mi_28_59 : ms_G 28 59 L S σ = ms_G 28 62 L (.int (nI 128) :: S) σ := (ms_G_at rfl _ _ _).trans rfl
theorem mi_28_62 : ms_G 28 62 L (.int y :: .int x :: S) σ = if x = y then ms_G 28 65 L S σ else ms_G 28 70 L S σ := mz_bra rfl rfl rfl
theorem mi_28_65 : ms_G 28 65 [l0, l1, .int x, l3, l4, l5, l6, l7, l8, l9] S σ = ms_G 28 66 [l0, l1, .int x, l3, l4, l5, l6, l7, l8, l9] (.int x :: S) σ := (ms_G_at rfl _ _ _).trans rfl
theorem mi_28_66 : ms_G 28 66 L (.int x :: S) σ = ms_G 28 67 L (.long x.toInt64 :: S) σ := (ms_G_at rfl _ _ _).trans rfl
theorem mi_28_67 : ms_G 28 67 L S σ = ms_G 28 71 L S σ := (ms_G_at rfl _ _ _).trans rfl
theorem mi_28_70 : ms_G 28 70 L S σ = ms_G 28 71 L (.long (lN 0) :: S) σ := (ms_G_at rfl _ _ _).trans rfl
theorem mi_28_71 : ms_G 28 71 [l0, l1, l2, l3, l4, l5, l6, .int y, l8, l9] (.long X :: S) σ = ms_G 28 73 [l0, l1, l2, l3, l4, l5, l6, .int y, .long X, .null] S σ := (ms_G_at rfl _ _ _).trans rfl
theorem mi_28_73 : ms_G 28 73 [l0, l1, l2, l3, .long X, l5, l6, l7, l8, l9] S σ = ms_G 28 75 [l0, l1, l2, l3, .long X, l5, l6, l7, l8, l9] (.long X :: S) σ := (ms_G_at rfl _ _ _).trans rfl
theorem mi_28_75 : ms_G 28 75 [l0, l1, l2, l3, l4, l5, l6, l7, .long X, l9] S σ = ms_G 28 77 [l0, l1, l2, l3, l4, l5, l6, l7, .long X, l9] (.long X :: S) σ := (ms_G_at rfl _ _ _).trans rfl
theorem mi_28_77 : ms_G 28 77 [l0, l1, l2, l3, l4, l5, .int x, l7, l8, l9] S σ = ms_G 28 79 [l0, l1, l2, l3, l4, l5, .int x, l7, l8, l9] (.int x :: S) σ := (ms_G_at rfl _ _ _).trans rfl
theorem mi_28_79 : ms_G 28 79 L (.int y :: .long X :: S) σ = ms_G 28 80 L (.long (X <<< (y.toInt64 &&& 63)) :: S) σ := (ms_G_at rfl _ _ _).trans rfl
theorem mi_28_80 : ms_G 28 80 L (.long Y :: .long X :: S) σ = ms_G 28 81 L (.long (X ||| Y) :: S) σ := (ms_G_at rfl _ _ _).trans rfl
theorem mi_28_81 : ms_G 28 81 [l0, l1, l2, .int y, l4, l5, l6, l7, l8, l9] (.long X :: S) σ = ms_G 28 83 [l0, l1, l2, .int y, .long X, .null, l6, l7, l8, l9] S σ := (ms_G_at rfl _ _ _).trans rfl
theorem mi_28_83 : ms_G 28 83 [l0, l1, l2, l3, l4, .null, .int x, l7, l8, l9] S σ = ms_G 28 86 [l0, l1, l2, l3, l4, .null, .int (x + nI 1), l7, l8, l9] S σ := (ms_G_at rfl _ _ _).trans rfl
theorem mi_28_86 : ms_G 28 86 L S σ = ms_G 28 14 L S σ := (ms_G_at rfl _ _ _).trans rfl
theorem mi_28_89 : ms_G 28 89 [.ref a, l1, l2, l3, l4, l5, l6, l7, l8, l9] S σ = ms_G 28 90 [.ref a, l1, l2, l3, l4, l5, l6, l7, l8, l9] (.ref a :: S) σ := (ms_G_at rfl _ _ _).trans rfl
theorem mi_28_90 : ms_G 28 90 [l0, l1, l2, .int x, l4, l5, l6, l7, l8, l9] S σ = ms_G 28 91 [l0, l1, l2, .int x, l4, l5, l6, l7, l8, l9] (.int x :: S) σ := (ms_G_at rfl _ _ _).trans rfl
theorem mi_28_91 : ms_G 28 91 [l0, l1, l2, l3, .long X, l5, l6, l7, l8, l9] S σ = ms_G 28 93 [l0, l1, l2, l3, .long X, l5, l6, l7, l8, l9] (.long X :: S) σ := (ms_G_at rfl _ _ _).trans rfl
theorem mi_28_93 : ms_G 28 93 L (.long X :: .int (nI i) :: .ref (ms_ad r u) :: S) (ms_Z q w I J) = cond (mo_1 q.1 r u i) (ms_G 28 94 L S (ms_Z q true I (ms_u J r u (vp_updL (J r u) i X)))) (ms_raw 28 93 L (.long X :: .int (nI i) :: .ref (ms_ad r u) :: S) (ms_Z q w I J)) := mz_last rfl X
theorem mi_28_94 : ms_G 28 94 [l0, l1, .int y, .int x, l4, l5, l6, l7, l8, l9] S σ = ms_G 28 97 [l0, l1, .int y, .int (x + nI 1), l4, l5, l6, l7, l8, l9] S σ := (ms_G_at rfl _ _ _).trans rfl
theorem mi_28_97 : ms_G 28 97 L S σ = ms_G 28 2 L S σ := (ms_G_at rfl _ _ _).trans rfl
theorem mi_28_100 : ms_G 28 100 L [] σ = some (.inl none, σ) := (ms_G_at rfl _ _ _).trans rfl
-- MaskedSumModel.absorb()V
theorem mi_29_0 : ms_G 29 0 [.ref a, l1, l2] S σ = ms_G 29 1 [.ref a, l1, l2] (.ref a :: S) σ := (ms_G_at rfl _ _ _).trans rfl
theorem mi_29_1 : ms_G 29 1 L (.ref (ms_ad 40 0) :: S) (ms_Z q w I J) = ms_G 29 4 L (.ref (ms_ad 65 0) :: S) (ms_Z q w I J) := mz_getf (c := (2, 65)) rfl (by decide) rfl (by decide) rfl
theorem mi_29_4 : ms_G 29 4 [.ref a, l1, l2] S σ = ms_G 29 5 [.ref a, l1, l2] (.ref a :: S) σ := (ms_G_at rfl _ _ _).trans rfl
theorem mi_29_5 : ms_G 29 5 L (.ref (ms_ad 40 0) :: S) (ms_Z q w I J) = ms_G 29 8 L (.ref (ms_ad 63 0) :: S) (ms_Z q w I J) := mz_getf (c := (2, 63)) rfl (by decide) rfl (by decide) rfl
theorem mi_29_8 : ms_G 29 8 L S σ = ms_G 29 9 L (.int (nI 1) :: S) σ := (ms_G_at rfl _ _ _).trans rfl
theorem mi_29_9 : ms_G 29 9 L [.int x2, .ref a1, .ref a0] (ms_Z q w I J) = mo_cl 29 9 12 (ms_G 28 0 [.ref a0, .ref a1, .int x2, .null, .null, .null, .null, .null, .null, .null] [] (ms_Z q false I J)) w L [] := (mz_call rfl rfl (mz_can0 rfl rfl rfl rfl rfl)).trans rfl
theorem mi_29_12 : ms_G 29 12 L S σ = ms_G 29 13 L (.int (nI 0) :: S) σ := (ms_G_at rfl _ _ _).trans rfl
theorem mi_29_13 : ms_G 29 13 [.ref b, l1, l2] (.int x :: S) σ = ms_G 29 14 [.ref b, .int x, l2] S σ := (ms_G_at rfl _ _ _).trans rfl
theorem mi_29_14 : ms_G 29 14 [l0, .int x, l2] S σ = ms_G 29 15 [l0, .int x, l2] (.int x :: S) σ := (ms_G_at rfl _ _ _).trans rfl
theorem mi_29_15 : ms_G 29 15 L S σ = ms_G 29 17 L (.int (nI 10) :: S) σ := (ms_G_at rfl _ _ _).trans rfl
theorem mi_29_17 : ms_G 29 17 L (.int y :: .int x :: S) σ = if y ≤ x then ms_G 29 41 L S σ else ms_G 29 20 L S σ := mz_bra rfl rfl rfl
theorem mi_29_20 : ms_G 29 20 [.ref a, l1, l2] S σ = ms_G 29 21 [.ref a, l1, l2] (.ref a :: S) σ := (ms_G_at rfl _ _ _).trans rfl
theorem mi_29_21 : ms_G 29 21 L (.ref (ms_ad 40 0) :: S) (ms_Z q w I J) = ms_G 29 24 L (.ref (ms_ad 60 0) :: S) (ms_Z q w I J) := mz_getf (c := (2, 60)) rfl (by decide) rfl (by decide) rfl
theorem mi_29_24 : ms_G 29 24 [l0, .int x, l2] S σ = ms_G 29 25 [l0, .int x, l2] (.int x :: S) σ := (ms_G_at rfl _ _ _).trans rfl
theorem mi_29_25 : ms_G 29 25 L (.int x :: .ref b :: S) σ = ms_G 29 26 L (.int x :: .ref b :: .int x :: .ref b :: S) σ := (ms_G_at rfl _ _ _).trans rfl
theorem mi_29_26 : ms_G 29 26 L (.int (nI i) :: .ref (ms_ad r u) :: S) (ms_Z q w I J) = cond (mo_1 q.1 r u i) (ms_G 29 27 L (.long (J r u i) :: S) (ms_Z q w I J)) (ms_raw 29 26 L (.int (nI i) :: .ref (ms_ad r u) :: S) (ms_Z q w I J)) := mz_lald rfl
theorem mi_29_27 : ms_G 29 27 [.ref a, l1, l2] S σ = ms_G 29 28 [.ref a, l1, l2] (.ref a :: S) σ := (ms_G_at rfl _ _ _).trans rfl
theorem mi_29_28 : ms_G 29 28 L (.ref (ms_ad 40 0) :: S) (ms_Z q w I J) = ms_G 29 31 L (.ref (ms_ad 65 0) :: S) (ms_Z q w I J) := mz_getf (c := (2, 65)) rfl (by decide) rfl (by decide) rfl
theorem mi_29_31 : ms_G 29 31 [l0, .int x, l2] S σ = ms_G 29 32 [l0, .int x, l2] (.int x :: S) σ := (ms_G_at rfl _ _ _).trans rfl
theorem mi_29_32 : ms_G 29 32 L (.int (nI i) :: .ref (ms_ad r u) :: S) (ms_Z q w I J) = cond (mo_1 q.1 r u i) (ms_G 29 33 L (.long (J r u i) :: S) (ms_Z q w I J)) (ms_raw 29 32 L (.int (nI i) :: .ref (ms_ad r u) :: S) (ms_Z q w I J)) := mz_lald rfl
theorem mi_29_33 : ms_G 29 33 L (.long Y :: .long X :: S) σ = ms_G 29 34 L (.long (X + Y) :: S) σ := (ms_G_at rfl _ _ _).trans rfl
theorem mi_29_34 : ms_G 29 34 L (.long X :: .int (nI i) :: .ref (ms_ad r u) :: S) (ms_Z q w I J) = cond (mo_1 q.1 r u i) (ms_G 29 35 L S (ms_Z q true I (ms_u J r u (vp_updL (J r u) i X)))) (ms_raw 29 34 L (.long X :: .int (nI i) :: .ref (ms_ad r u) :: S) (ms_Z q w I J)) := mz_last rfl X
theorem mi_29_35 : ms_G 29 35 [.ref b, .int x, l2] S σ = ms_G 29 38 [.ref b, .int (x + nI 1), l2] S σ := (ms_G_at rfl _ _ _).trans rfl
theorem mi_29_38 : ms_G 29 38 L S σ = ms_G 29 14 L S σ := (ms_G_at rfl _ _ _).trans rfl
theorem mi_29_41 : ms_G 29 41 L S σ = ms_G 29 42 L (.int (nI 0) :: S) σ := (ms_G_at rfl _ _ _).trans rfl
theorem mi_29_42 : ms_G 29 42 [.ref b, l1, l2] (.int x :: S) σ = ms_G 29 43 [.ref b, .int x, l2] S σ := (ms_G_at rfl _ _ _).trans rfl
theorem mi_29_43 : ms_G 29 43 [l0, .int x, l2] S σ = ms_G 29 44 [l0, .int x, l2] (.int x :: S) σ := (ms_G_at rfl _ _ _).trans rfl
theorem mi_29_44 : ms_G 29 44 L S σ = ms_G 29 46 L (.int (nI 20) :: S) σ := (ms_G_at rfl _ _ _).trans rfl
theorem mi_29_46 : ms_G 29 46 L (.int y :: .int x :: S) σ = if y ≤ x then ms_G 29 62 L S σ else ms_G 29 49 L S σ := mz_bra rfl rfl rfl
theorem mi_29_49 : ms_G 29 49 [.ref a, l1, l2] S σ = ms_G 29 50 [.ref a, l1, l2] (.ref a :: S) σ := (ms_G_at rfl _ _ _).trans rfl
theorem mi_29_50 : ms_G 29 50 L (.ref (ms_ad 40 0) :: S) (ms_Z q w I J) = ms_G 29 53 L (.ref (ms_ad 62 0) :: S) (ms_Z q w I J) := mz_getf (c := (2, 62)) rfl (by decide) rfl (by decide) rfl
theorem mi_29_53 : ms_G 29 53 [l0, .int x, l2] S σ = ms_G 29 54 [l0, .int x, l2] (.int x :: S) σ := (ms_G_at rfl _ _ _).trans rfl
theorem mi_29_54 : ms_G 29 54 L S σ = ms_G 29 55 L (.long (lN 0) :: S) σ := (ms_G_at rfl _ _ _).trans rfl
theorem mi_29_55 : ms_G 29 55 L (.long X :: .int (nI i) :: .ref (ms_ad r u) :: S) (ms_Z q w I J) = cond (mo_1 q.1 r u i) (ms_G 29 56 L S (ms_Z q true I (ms_u J r u (vp_updL (J r u) i X)))) (ms_raw 29 55 L (.long X :: .int (nI i) :: .ref (ms_ad r u) :: S) (ms_Z q w I J)) := mz_last rfl X
theorem mi_29_56 : ms_G 29 56 [.ref b, .int x, l2] S σ = ms_G 29 59 [.ref b, .int (x + nI 1), l2] S σ := (ms_G_at rfl _ _ _).trans rfl
theorem mi_29_59 : ms_G 29 59 L S σ = ms_G 29 43 L S σ := (ms_G_at rfl _ _ _).trans rfl
theorem mi_29_62 : ms_G 29 62 L S σ = ms_G 29 63 L (.int (nI 0) :: S) σ := (ms_G_at rfl _ _ _).trans rfl
theorem mi_29_63 : ms_G 29 63 [.ref b, l1, l2] (.int x :: S) σ = ms_G 29 64 [.ref b, .int x, l2] S σ := (ms_G_at rfl _ _ _).trans rfl
theorem mi_29_64 : ms_G 29 64 [l0, .int x, l2] S σ = ms_G 29 65 [l0, .int x, l2] (.int x :: S) σ := (ms_G_at rfl _ _ _).trans rfl
theorem mi_29_65 : ms_G 29 65 L S σ = ms_G 29 67 L (.int (nI 10) :: S) σ := (ms_G_at rfl _ _ _).trans rfl
theorem mi_29_67 : ms_G 29 67 L (.int y :: .int x :: S) σ = if y ≤ x then ms_G 29 114 L S σ else ms_G 29 70 L S σ := mz_bra rfl rfl rfl
theorem mi_29_70 : ms_G 29 70 L S σ = ms_G 29 71 L (.int (nI 0) :: S) σ := (ms_G_at rfl _ _ _).trans rfl
theorem mi_29_71 : ms_G 29 71 [l0, .int y, l2] (.int x :: S) σ = ms_G 29 72 [l0, .int y, .int x] S σ := (ms_G_at rfl _ _ _).trans rfl
theorem mi_29_72 : ms_G 29 72 [l0, l1, .int x] S σ = ms_G 29 73 [l0, l1, .int x] (.int x :: S) σ := (ms_G_at rfl _ _ _).trans rfl
theorem mi_29_73 : ms_G 29 73 L S σ = ms_G 29 75 L (.int (nI 10) :: S) σ := (ms_G_at rfl _ _ _).trans rfl
theorem mi_29_75 : ms_G 29 75 L (.int y :: .int x :: S) σ = if y ≤ x then ms_G 29 108 L S σ else ms_G 29 78 L S σ := mz_bra rfl rfl rfl
theorem mi_29_78 : ms_G 29 78 [.ref a, l1, l2] S σ = ms_G 29 79 [.ref a, l1, l2] (.ref a :: S) σ := (ms_G_at rfl _ _ _).trans rfl
theorem mi_29_79 : ms_G 29 79 L (.ref (ms_ad 40 0) :: S) (ms_Z q w I J) = ms_G 29 82 L (.ref (ms_ad 62 0) :: S) (ms_Z q w I J) := mz_getf (c := (2, 62)) rfl (by decide) rfl (by decide) rfl
theorem mi_29_82 : ms_G 29 82 [l0, .int x, l2] S σ = ms_G 29 83 [l0, .int x, l2] (.int x :: S) σ := (ms_G_at rfl _ _ _).trans rfl
theorem mi_29_83 : ms_G 29 83 [l0, l1, .int x] S σ = ms_G 29 84 [l0, l1, .int x] (.int x :: S) σ := (ms_G_at rfl _ _ _).trans rfl
theorem mi_29_84 : ms_G 29 84 L (.int y :: .int x :: S) σ = ms_G 29 85 L (.int (x + y) :: S) σ := (ms_G_at rfl _ _ _).trans rfl
theorem mi_29_85 : ms_G 29 85 L (.int x :: .ref b :: S) σ = ms_G 29 86 L (.int x :: .ref b :: .int x :: .ref b :: S) σ := (ms_G_at rfl _ _ _).trans rfl
theorem mi_29_86 : ms_G 29 86 L (.int (nI i) :: .ref (ms_ad r u) :: S) (ms_Z q w I J) = cond (mo_1 q.1 r u i) (ms_G 29 87 L (.long (J r u i) :: S) (ms_Z q w I J)) (ms_raw 29 86 L (.int (nI i) :: .ref (ms_ad r u) :: S) (ms_Z q w I J)) := mz_lald rfl
theorem mi_29_87 : ms_G 29 87 [.ref a, l1, l2] S σ = ms_G 29 88 [.ref a, l1, l2] (.ref a :: S) σ := (ms_G_at rfl _ _ _).trans rfl
theorem mi_29_88 : ms_G 29 88 L (.ref (ms_ad 40 0) :: S) (ms_Z q w I J) = ms_G 29 91 L (.ref (ms_ad 60 0) :: S) (ms_Z q w I J) := mz_getf (c := (2, 60)) rfl (by decide) rfl (by decide) rfl
theorem mi_29_91 : ms_G 29 91 [l0, .int x, l2] S σ = ms_G 29 92 [l0, .int x, l2] (.int x :: S) σ := (ms_G_at rfl _ _ _).trans rfl
theorem mi_29_92 : ms_G 29 92 L (.int (nI i) :: .ref (ms_ad r u) :: S) (ms_Z q w I J) = cond (mo_1 q.1 r u i) (ms_G 29 93 L (.long (J r u i) :: S) (ms_Z q w I J)) (ms_raw 29 92 L (.int (nI i) :: .ref (ms_ad r u) :: S) (ms_Z q w I J)) := mz_lald rfl
theorem mi_29_93 : ms_G 29 93 [.ref a, l1, l2] S σ = ms_G 29 94 [.ref a, l1, l2] (.ref a :: S) σ := (ms_G_at rfl _ _ _).trans rfl
theorem mi_29_94 : ms_G 29 94 L (.ref (ms_ad 40 0) :: S) (ms_Z q w I J) = ms_G 29 97 L (.ref (ms_ad 61 0) :: S) (ms_Z q w I J) := mz_getf (c := (2, 61)) rfl (by decide) rfl (by decide) rfl
theorem mi_29_97 : ms_G 29 97 [l0, l1, .int x] S σ = ms_G 29 98 [l0, l1, .int x] (.int x :: S) σ := (ms_G_at rfl _ _ _).trans rfl
theorem mi_29_98 : ms_G 29 98 L (.int (nI i) :: .ref (ms_ad r u) :: S) (ms_Z q w I J) = cond (mo_1 q.1 r u i) (ms_G 29 99 L (.long (J r u i) :: S) (ms_Z q w I J)) (ms_raw 29 98 L (.int (nI i) :: .ref (ms_ad r u) :: S) (ms_Z q w I J)) := mz_lald rfl
theorem mi_29_99 : ms_G 29 99 L (.long Y :: .long X :: S) σ = ms_G 29 100 L (.long (X * Y) :: S) σ := (ms_G_at rfl _ _ _).trans rfl
theorem mi_29_100 : ms_G 29 100 L (.long Y :: .long X :: S) σ = ms_G 29 101 L (.long (X + Y) :: S) σ := (ms_G_at rfl _ _ _).trans rfl
theorem mi_29_101 : ms_G 29 101 L (.long X :: .int (nI i) :: .ref (ms_ad r u) :: S) (ms_Z q w I J) = cond (mo_1 q.1 r u i) (ms_G 29 102 L S (ms_Z q true I (ms_u J r u (vp_updL (J r u) i X)))) (ms_raw 29 101 L (.long X :: .int (nI i) :: .ref (ms_ad r u) :: S) (ms_Z q w I J)) := mz_last rfl X
theorem mi_29_102 : ms_G 29 102 [l0, .int y, .int x] S σ = ms_G 29 105 [l0, .int y, .int (x + nI 1)] S σ := (ms_G_at rfl _ _ _).trans rfl
theorem mi_29_105 : ms_G 29 105 L S σ = ms_G 29 72 L S σ := (ms_G_at rfl _ _ _).trans rfl
theorem mi_29_108 : ms_G 29 108 [.ref b, .int x, l2] S σ = ms_G 29 111 [.ref b, .int (x + nI 1), l2] S σ := (ms_G_at rfl _ _ _).trans rfl
theorem mi_29_111 : ms_G 29 111 L S σ = ms_G 29 64 L S σ := (ms_G_at rfl _ _ _).trans rfl
theorem mi_29_114 : ms_G 29 114 L S σ = ms_G 29 115 L (.int (nI 0) :: S) σ := (ms_G_at rfl _ _ _).trans rfl
theorem mi_29_115 : ms_G 29 115 [.ref b, l1, l2] (.int x :: S) σ = ms_G 29 116 [.ref b, .int x, l2] S σ := (ms_G_at rfl _ _ _).trans rfl
theorem mi_29_116 : ms_G 29 116 [l0, .int x, l2] S σ = ms_G 29 117 [l0, .int x, l2] (.int x :: S) σ := (ms_G_at rfl _ _ _).trans rfl
theorem mi_29_117 : ms_G 29 117 L S σ = ms_G 29 119 L (.int (nI 10) :: S) σ := (ms_G_at rfl _ _ _).trans rfl
theorem mi_29_119 : ms_G 29 119 L (.int y :: .int x :: S) σ = if y ≤ x then ms_G 29 154 L S σ else ms_G 29 122 L S σ := mz_bra rfl rfl rfl
theorem mi_29_122 : ms_G 29 122 [.ref a, l1, l2] S σ = ms_G 29 123 [.ref a, l1, l2] (.ref a :: S) σ := (ms_G_at rfl _ _ _).trans rfl
theorem mi_29_123 : ms_G 29 123 L (.ref (ms_ad 40 0) :: S) (ms_Z q w I J) = ms_G 29 126 L (.ref (ms_ad 60 0) :: S) (ms_Z q w I J) := mz_getf (c := (2, 60)) rfl (by decide) rfl (by decide) rfl
theorem mi_29_126 : ms_G 29 126 [l0, .int x, l2] S σ = ms_G 29 127 [l0, .int x, l2] (.int x :: S) σ := (ms_G_at rfl _ _ _).trans rfl
theorem mi_29_127 : ms_G 29 127 [.ref a, l1, l2] S σ = ms_G 29 128 [.ref a, l1, l2] (.ref a :: S) σ := (ms_G_at rfl _ _ _).trans rfl
theorem mi_29_128 : ms_G 29 128 L (.ref (ms_ad 40 0) :: S) (ms_Z q w I J) = ms_G 29 131 L (.ref (ms_ad 62 0) :: S) (ms_Z q w I J) := mz_getf (c := (2, 62)) rfl (by decide) rfl (by decide) rfl
theorem mi_29_131 : ms_G 29 131 [l0, .int x, l2] S σ = ms_G 29 132 [l0, .int x, l2] (.int x :: S) σ := (ms_G_at rfl _ _ _).trans rfl
theorem mi_29_132 : ms_G 29 132 L (.int (nI i) :: .ref (ms_ad r u) :: S) (ms_Z q w I J) = cond (mo_1 q.1 r u i) (ms_G 29 133 L (.long (J r u i) :: S) (ms_Z q w I J)) (ms_raw 29 132 L (.int (nI i) :: .ref (ms_ad r u) :: S) (ms_Z q w I J)) := mz_lald rfl
theorem mi_29_133 : ms_G 29 133 L S σ = ms_G 29 136 L (.long (lN 5) :: S) σ := (ms_G_at rfl _ _ _).trans rfl
theorem mi_29_136 : ms_G 29 136 [.ref a, l1, l2] S σ = ms_G 29 137 [.ref a, l1, l2] (.ref a :: S) σ := (ms_G_at rfl _ _ _).trans rfl
theorem mi_29_137 : ms_G 29 137 L (.ref (ms_ad 40 0) :: S) (ms_Z q w I J) = ms_G 29 140 L (.ref (ms_ad 62 0) :: S) (ms_Z q w I J) := mz_getf (c := (2, 62)) rfl (by decide) rfl (by decide) rfl
theorem mi_29_140 : ms_G 29 140 [l0, .int x, l2] S σ = ms_G 29 141 [l0, .int x, l2] (.int x :: S) σ := (ms_G_at rfl _ _ _).trans rfl
theorem mi_29_141 : ms_G 29 141 L S σ = ms_G 29 143 L (.int (nI 10) :: S) σ := (ms_G_at rfl _ _ _).trans rfl
theorem mi_29_143 : ms_G 29 143 L (.int y :: .int x :: S) σ = ms_G 29 144 L (.int (x + y) :: S) σ := (ms_G_at rfl _ _ _).trans rfl
theorem mi_29_144 : ms_G 29 144 L (.int (nI i) :: .ref (ms_ad r u) :: S) (ms_Z q w I J) = cond (mo_1 q.1 r u i) (ms_G 29 145 L (.long (J r u i) :: S) (ms_Z q w I J)) (ms_raw 29 144 L (.int (nI i) :: .ref (ms_ad r u) :: S) (ms_Z q w I J)) := mz_lald rfl
theorem mi_29_145 : ms_G 29 145 L (.long Y :: .long X :: S) σ = ms_G 29 146 L (.long (X * Y) :: S) σ := (ms_G_at rfl _ _ _).trans rfl
theorem mi_29_146 : ms_G 29 146 L (.long Y :: .long X :: S) σ = ms_G 29 147 L (.long (X + Y) :: S) σ := (ms_G_at rfl _ _ _).trans rfl
theorem mi_29_147 : ms_G 29 147 L (.long X :: .int (nI i) :: .ref (ms_ad r u) :: S) (ms_Z q w I J) = cond (mo_1 q.1 r u i) (ms_G 29 148 L S (ms_Z q true I (ms_u J r u (vp_updL (J r u) i X)))) (ms_raw 29 147 L (.long X :: .int (nI i) :: .ref (ms_ad r u) :: S) (ms_Z q w I J)) := mz_last rfl X
theorem mi_29_148 : ms_G 29 148 [.ref b, .int x, l2] S σ = ms_G 29 151 [.ref b, .int (x + nI 1), l2] S σ := (ms_G_at rfl _ _ _).trans rfl
theorem mi_29_151 : ms_G 29 151 L S σ = ms_G 29 116 L S σ := (ms_G_at rfl _ _ _).trans rfl
theorem mi_29_154 : ms_G 29 154 [.ref a, l1, l2] S σ = ms_G 29 155 [.ref a, l1, l2] (.ref a :: S) σ := (ms_G_at rfl _ _ _).trans rfl
theorem mi_29_155 : ms_G 29 155 L [.ref (ms_ad 40 0)] (ms_Z q w I J) = mo_cl 29 155 158 (ms_G 30 0 [.ref (ms_ad 40 0), .null, .null, .null] [] (ms_Z q false I J)) w L [] := (mz_call rfl rfl (mz_can1 rfl rfl rfl rfl rfl (by decide) rfl (by decide))).trans rfl
theorem mi_29_158 : ms_G 29 158 [.ref a, l1, l2] S σ = ms_G 29 159 [.ref a, l1, l2] (.ref a :: S) σ := (ms_G_at rfl _ _ _).trans rfl
theorem mi_29_159 : ms_G 29 159 L [.ref (ms_ad 40 0)] (ms_Z q w I J) = mo_cl 29 159 162 (ms_G 30 0 [.ref (ms_ad 40 0), .null, .null, .null] [] (ms_Z q false I J)) w L [] := (mz_call rfl rfl (mz_can1 rfl rfl rfl rfl rfl (by decide) rfl (by decide))).trans rfl
theorem mi_29_162 : ms_G 29 162 L [] σ = some (.inl none, σ) := (ms_G_at rfl _ _ _).trans rfl
-- MaskedSumModel.settle()V
theorem mi_30_0 : ms_G 30 0 L S σ = ms_G 30 1 L (.long (lN 0) :: S) σ := (ms_G_at rfl _ _ _).trans rfl
theorem mi_30_1 : ms_G 30 1 [.ref b, l1, l2, l3] (.long X :: S) σ = ms_G 30 2 [.ref b, .long X, .null, l3] S σ := (ms_G_at rfl _ _ _).trans rfl
theorem mi_30_2 : ms_G 30 2 L S σ = ms_G 30 3 L (.int (nI 0) :: S) σ := (ms_G_at rfl _ _ _).trans rfl
theorem mi_30_3 : ms_G 30 3 [l0, l1, .null, l3] (.int x :: S) σ = ms_G 30 4 [l0, l1, .null, .int x] S σ := (ms_G_at rfl _ _ _).trans rfl
theorem mi_30_4 : ms_G 30 4 [l0, l1, l2, .int x] S σ = ms_G 30 5 [l0, l1, l2, .int x] (.int x :: S) σ := (ms_G_at rfl _ _ _).trans rfl
theorem mi_30_5 : ms_G 30 5 L S σ = ms_G 30 7 L (.int (nI 10) :: S) σ := (ms_G_at rfl _ _ _).trans rfl
theorem mi_30_7 : ms_G 30 7 L (.int y :: .int x :: S) σ = if y ≤ x then ms_G 30 41 L S σ else ms_G 30 10 L S σ := mz_bra rfl rfl rfl
theorem mi_30_10 : ms_G 30 10 [l0, .long X, l2, l3] S σ = ms_G 30 11 [l0, .long X, l2, l3] (.long X :: S) σ := (ms_G_at rfl _ _ _).trans rfl
theorem mi_30_11 : ms_G 30 11 [.ref a, l1, l2, l3] S σ = ms_G 30 12 [.ref a, l1, l2, l3] (.ref a :: S) σ := (ms_G_at rfl _ _ _).trans rfl
theorem mi_30_12 : ms_G 30 12 L (.ref (ms_ad 40 0) :: S) (ms_Z q w I J) = ms_G 30 15 L (.ref (ms_ad 60 0) :: S) (ms_Z q w I J) := mz_getf (c := (2, 60)) rfl (by decide) rfl (by decide) rfl
theorem mi_30_15 : ms_G 30 15 [l0, l1, l2, .int x] S σ = ms_G 30 16 [l0, l1, l2, .int x] (.int x :: S) σ := (ms_G_at rfl _ _ _).trans rfl
theorem mi_30_16 : ms_G 30 16 L (.int (nI i) :: .ref (ms_ad r u) :: S) (ms_Z q w I J) = cond (mo_1 q.1 r u i) (ms_G 30 17 L (.long (J r u i) :: S) (ms_Z q w I J)) (ms_raw 30 16 L (.int (nI i) :: .ref (ms_ad r u) :: S) (ms_Z q w I J)) := mz_lald rfl
theorem mi_30_17 : ms_G 30 17 L (.long Y :: .long X :: S) σ = ms_G 30 18 L (.long (X + Y) :: S) σ := (ms_G_at rfl _ _ _).trans rfl
theorem mi_30_18 : ms_G 30 18 [.ref b, l1, l2, l3] (.long X :: S) σ = ms_G 30 19 [.ref b, .long X, .null, l3] S σ := (ms_G_at rfl _ _ _).trans rfl
theorem mi_30_19 : ms_G 30 19 [.ref a, l1, l2, l3] S σ = ms_G 30 20 [.ref a, l1, l2, l3] (.ref a :: S) σ := (ms_G_at rfl _ _ _).trans rfl
theorem mi_30_20 : ms_G 30 20 L (.ref (ms_ad 40 0) :: S) (ms_Z q w I J) = ms_G 30 23 L (.ref (ms_ad 60 0) :: S) (ms_Z q w I J) := mz_getf (c := (2, 60)) rfl (by decide) rfl (by decide) rfl
theorem mi_30_23 : ms_G 30 23 [l0, l1, l2, .int x] S σ = ms_G 30 24 [l0, l1, l2, .int x] (.int x :: S) σ := (ms_G_at rfl _ _ _).trans rfl
theorem mi_30_24 : ms_G 30 24 [l0, .long X, l2, l3] S σ = ms_G 30 25 [l0, .long X, l2, l3] (.long X :: S) σ := (ms_G_at rfl _ _ _).trans rfl
theorem mi_30_25 : ms_G 30 25 L S σ = ms_G 30 28 L (.long (lN 8191) :: S) σ := (ms_G_at rfl _ _ _).trans rfl
theorem mi_30_28 : ms_G 30 28 L (.long Y :: .long X :: S) σ = ms_G 30 29 L (.long (X &&& Y) :: S) σ := (ms_G_at rfl _ _ _).trans rfl
theorem mi_30_29 : ms_G 30 29 L (.long X :: .int (nI i) :: .ref (ms_ad r u) :: S) (ms_Z q w I J) = cond (mo_1 q.1 r u i) (ms_G 30 30 L S (ms_Z q true I (ms_u J r u (vp_updL (J r u) i X)))) (ms_raw 30 29 L (.long X :: .int (nI i) :: .ref (ms_ad r u) :: S) (ms_Z q w I J)) := mz_last rfl X
theorem mi_30_30 : ms_G 30 30 [l0, .long X, l2, l3] S σ = ms_G 30 31 [l0, .long X, l2, l3] (.long X :: S) σ := (ms_G_at rfl _ _ _).trans rfl
theorem mi_30_31 : ms_G 30 31 L S σ = ms_G 30 33 L (.int (nI 13) :: S) σ := (ms_G_at rfl _ _ _).trans rfl
theorem mi_30_33 : ms_G 30 33 L (.int y :: .long X :: S) σ = ms_G 30 34 L (.long (X >>> (y.toInt64 &&& 63)) :: S) σ := (ms_G_at rfl _ _ _).trans rfl
theorem mi_30_34 : ms_G 30 34 [.ref b, l1, l2, l3] (.long X :: S) σ = ms_G 30 35 [.ref b, .long X, .null, l3] S σ := (ms_G_at rfl _ _ _).trans rfl
theorem mi_30_35 : ms_G 30 35 [l0, l1, .null, .int x] S σ = ms_G 30 38 [l0, l1, .null, .int (x + nI 1)] S σ := (ms_G_at rfl _ _ _).trans rfl
theorem mi_30_38 : ms_G 30 38 L S σ = ms_G 30 4 L S σ := (ms_G_at rfl _ _ _).trans rfl
theorem mi_30_41 : ms_G 30 41 [.ref a, l1, l2, l3] S σ = ms_G 30 42 [.ref a, l1, l2, l3] (.ref a :: S) σ := (ms_G_at rfl _ _ _).trans rfl
theorem mi_30_42 : ms_G 30 42 L (.ref (ms_ad 40 0) :: S) (ms_Z q w I J) = ms_G 30 45 L (.ref (ms_ad 60 0) :: S) (ms_Z q w I J) := mz_getf (c := (2, 60)) rfl (by decide) rfl (by decide) rfl
theorem mi_30_45 : ms_G 30 45 L S σ = ms_G 30 46 L (.int (nI 0) :: S) σ := (ms_G_at rfl _ _ _).trans rfl
theorem mi_30_46 : ms_G 30 46 L (.int x :: .ref b :: S) σ = ms_G 30 47 L (.int x :: .ref b :: .int x :: .ref b :: S) σ := (ms_G_at rfl _ _ _).trans rfl
theorem mi_30_47 : ms_G 30 47 L (.int (nI i) :: .ref (ms_ad r u) :: S) (ms_Z q w I J) = cond (mo_1 q.1 r u i) (ms_G 30 48 L (.long (J r u i) :: S) (ms_Z q w I J)) (ms_raw 30 47 L (.int (nI i) :: .ref (ms_ad r u) :: S) (ms_Z q w I J)) := mz_lald rfl
theorem mi_30_48 : ms_G 30 48 L S σ = ms_G 30 51 L (.long (lN 5) :: S) σ := (ms_G_at rfl _ _ _).trans rfl
theorem mi_30_51 : ms_G 30 51 [l0, .long X, l2, l3] S σ = ms_G 30 52 [l0, .long X, l2, l3] (.long X :: S) σ := (ms_G_at rfl _ _ _).trans rfl
theorem mi_30_52 : ms_G 30 52 L (.long Y :: .long X :: S) σ = ms_G 30 53 L (.long (X * Y) :: S) σ := (ms_G_at rfl _ _ _).trans rfl
theorem mi_30_53 : ms_G 30 53 L (.long Y :: .long X :: S) σ = ms_G 30 54 L (.long (X + Y) :: S) σ := (ms_G_at rfl _ _ _).trans rfl
theorem mi_30_54 : ms_G 30 54 L (.long X :: .int (nI i) :: .ref (ms_ad r u) :: S) (ms_Z q w I J) = cond (mo_1 q.1 r u i) (ms_G 30 55 L S (ms_Z q true I (ms_u J r u (vp_updL (J r u) i X)))) (ms_raw 30 54 L (.long X :: .int (nI i) :: .ref (ms_ad r u) :: S) (ms_Z q w I J)) := mz_last rfl X
theorem mi_30_55 : ms_G 30 55 L [] σ = some (.inl none, σ) := (ms_G_at rfl _ _ _).trans rfl
end MsI
