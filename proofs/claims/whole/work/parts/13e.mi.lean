/-! ONE LEMMA AN INSTRUCTION, by gen3.py. -/
section MsI
variable {l0 l1 l2 l3 l4 l5 l6 l7 l8 l9 l10 l11 l12 l13 l14 l15 l16 l17 : Value} {L S : List Value} {σ : ms_M} {q : Nat × Nat} {w B : Bool} {I : ms_i} {J : ms_j} {r u r' u' i sp dp n a b a0 a1 a2 a3 a4 a5 a6 a7 g0 g1 g2 g3 g4 g5 g6 g7 : Nat}
variable {x y x0 x1 x2 x3 x4 x5 x6 x7 e0 e1 e2 e3 e4 e5 e6 e7 : Int32} {X Y X0 X1 X2 X3 X4 X5 X6 X7 f0 f1 f2 f3 f4 f5 f6 f7 : Int64}
-- MaskedSum$Phone.writeBoxes([ILMaskedSum$Crypto;)V
theorem mi_100_0 : ms_G 100 0 [l0, .ref a, l2, l3, l4] S σ = ms_G 100 1 [l0, .ref a, l2, l3, l4] (.ref a :: S) σ := (ms_G_at rfl _ _ _).trans rfl
theorem mi_100_1 : ms_G 100 1 L S σ = ms_G 100 2 L (.int (nI 0) :: S) σ := (ms_G_at rfl _ _ _).trans rfl
theorem mi_100_2 : ms_G 100 2 L [.int x1, .ref a0] (ms_Z q w I J) = mo_cl 100 2 5 (ms_G 148 0 [.ref a0, .int x1, .null, .null] [] (ms_Z q false I J)) w L [] := (mz_call rfl rfl (mz_can0 rfl rfl rfl rfl rfl)).trans rfl
theorem mi_100_5 : ms_G 100 5 L S σ = ms_G 100 6 L (.int (nI 0) :: S) σ := (ms_G_at rfl _ _ _).trans rfl
theorem mi_100_6 : ms_G 100 6 [l0, l1, .ref b, l3, l4] (.int x :: S) σ = ms_G 100 7 [l0, l1, .ref b, .int x, l4] S σ := (ms_G_at rfl _ _ _).trans rfl
theorem mi_100_7 : ms_G 100 7 [l0, l1, l2, .int x, l4] S σ = ms_G 100 8 [l0, l1, l2, .int x, l4] (.int x :: S) σ := (ms_G_at rfl _ _ _).trans rfl
theorem mi_100_8 : ms_G 100 8 L S σ = ms_G 100 10 L (.int (nI 8) :: S) σ := (ms_G_at rfl _ _ _).trans rfl
theorem mi_100_10 : ms_G 100 10 L (.int y :: .int x :: S) σ = if y ≤ x then ms_G 100 92 L S σ else ms_G 100 13 L S σ := mz_bra rfl rfl rfl
theorem mi_100_13 : ms_G 100 13 [l0, l1, l2, .int x, l4] S σ = ms_G 100 14 [l0, l1, l2, .int x, l4] (.int x :: S) σ := (ms_G_at rfl _ _ _).trans rfl
theorem mi_100_14 : ms_G 100 14 [.ref a, l1, l2, l3, l4] S σ = ms_G 100 15 [.ref a, l1, l2, l3, l4] (.ref a :: S) σ := (ms_G_at rfl _ _ _).trans rfl
theorem mi_100_15 (hu : u < 8) : ms_G 100 15 L (.ref (ms_ad 31 u) :: S) (ms_Z q w I J) = ms_G 100 18 L (.int (nI (ms_sv 3 u)) :: S) (ms_Z q w I J) := mz_getf (c := (3, 3)) rfl hu rfl (by decide) rfl
theorem mi_100_18 : ms_G 100 18 L (.int y :: .int x :: S) σ = if x = y then ms_G 100 86 L S σ else ms_G 100 21 L S σ := mz_bra rfl rfl rfl
theorem mi_100_21 : ms_G 100 21 [.ref a, l1, l2, l3, l4] S σ = ms_G 100 22 [.ref a, l1, l2, l3, l4] (.ref a :: S) σ := (ms_G_at rfl _ _ _).trans rfl
theorem mi_100_22 (hu : u < 8) : ms_G 100 22 L (.ref (ms_ad 31 u) :: S) (ms_Z q w I J) = ms_G 100 25 L (.ref (ms_ad 36 u) :: S) (ms_Z q w I J) := mz_getf (c := (2, 36)) rfl hu rfl (by decide) rfl
theorem mi_100_25 : ms_G 100 25 L S σ = ms_G 100 26 L (.int (nI 0) :: S) σ := (ms_G_at rfl _ _ _).trans rfl
theorem mi_100_26 : ms_G 100 26 L (.int (nI i) :: .ref (ms_ad r u) :: S) (ms_Z q w I J) = cond (mo_0 q.1 r u i) (ms_G 100 27 L (.int (I r u i) :: S) (ms_Z q w I J)) (ms_raw 100 26 L (.int (nI i) :: .ref (ms_ad r u) :: S) (ms_Z q w I J)) := mz_iald rfl
theorem mi_100_27 : ms_G 100 27 [l0, l1, l2, .int x, l4] S σ = ms_G 100 28 [l0, l1, l2, .int x, l4] (.int x :: S) σ := (ms_G_at rfl _ _ _).trans rfl
theorem mi_100_28 : ms_G 100 28 L [.int x1, .int x0] (ms_Z q w I J) = mo_cl 100 28 31 (ms_G 15 0 [.int x0, .int x1] [] (ms_Z q false I J)) w L [] := (mz_call rfl rfl (mz_can0 rfl rfl rfl rfl rfl)).trans rfl
theorem mi_100_31 : ms_G 100 31 L (.int x :: S) σ = if x = nI 0 then ms_G 100 86 L S σ else ms_G 100 34 L S σ := mz_bra rfl rfl rfl
theorem mi_100_34 : ms_G 100 34 L S σ = ms_G 100 36 L (.int (nI 8) :: S) σ := (ms_G_at rfl _ _ _).trans rfl
theorem mi_100_36 : ms_G 100 36 [l0, l1, l2, .int x, l4] S σ = ms_G 100 37 [l0, l1, l2, .int x, l4] (.int x :: S) σ := (ms_G_at rfl _ _ _).trans rfl
theorem mi_100_37 : ms_G 100 37 L (.int y :: .int x :: S) σ = ms_G 100 38 L (.int (x * y) :: S) σ := (ms_G_at rfl _ _ _).trans rfl
theorem mi_100_38 : ms_G 100 38 [l0, l1, l2, .int y, l4] (.int x :: S) σ = ms_G 100 40 [l0, l1, l2, .int y, .int x] S σ := (ms_G_at rfl _ _ _).trans rfl
theorem mi_100_40 : ms_G 100 40 [.ref a, l1, l2, l3, l4] S σ = ms_G 100 41 [.ref a, l1, l2, l3, l4] (.ref a :: S) σ := (ms_G_at rfl _ _ _).trans rfl
theorem mi_100_41 (hu : u < 8) : ms_G 100 41 L (.ref (ms_ad 31 u) :: S) (ms_Z q w I J) = ms_G 100 44 L (.ref (ms_ad 34 u) :: S) (ms_Z q w I J) := mz_getf (c := (2, 34)) rfl hu rfl (by decide) rfl
theorem mi_100_44 : ms_G 100 44 [l0, l1, l2, .int x, l4] S σ = ms_G 100 45 [l0, l1, l2, .int x, l4] (.int x :: S) σ := (ms_G_at rfl _ _ _).trans rfl
theorem mi_100_45 : ms_G 100 45 L (.int (nI i) :: .ref (ms_ad r u) :: S) (ms_Z q w I J) = cond (mo_1 q.1 r u i) (ms_G 100 46 L (.long (J r u i) :: S) (ms_Z q w I J)) (ms_raw 100 45 L (.int (nI i) :: .ref (ms_ad r u) :: S) (ms_Z q w I J)) := mz_lald rfl
theorem mi_100_46 : ms_G 100 46 [l0, .ref a, l2, l3, l4] S σ = ms_G 100 47 [l0, .ref a, l2, l3, l4] (.ref a :: S) σ := (ms_G_at rfl _ _ _).trans rfl
theorem mi_100_47 : ms_G 100 47 [l0, l1, l2, l3, .int x] S σ = ms_G 100 49 [l0, l1, l2, l3, .int x] (.int x :: S) σ := (ms_G_at rfl _ _ _).trans rfl
theorem mi_100_49 : ms_G 100 49 L S σ = ms_G 100 50 L (.int (nI 0) :: S) σ := (ms_G_at rfl _ _ _).trans rfl
theorem mi_100_50 : ms_G 100 50 L (.int y :: .int x :: S) σ = ms_G 100 51 L (.int (x + y) :: S) σ := (ms_G_at rfl _ _ _).trans rfl
theorem mi_100_51 : ms_G 100 51 L [.int x2, .ref a1, .long X0] (ms_Z q w I J) = mo_cl 100 51 54 (ms_G 86 0 [.long X0, .null, .ref a1, .int x2] [] (ms_Z q false I J)) w L [] := (mz_call rfl rfl (mz_can0 rfl rfl rfl rfl rfl)).trans rfl
theorem mi_100_54 : ms_G 100 54 [.ref a, l1, l2, l3, l4] S σ = ms_G 100 55 [.ref a, l1, l2, l3, l4] (.ref a :: S) σ := (ms_G_at rfl _ _ _).trans rfl
theorem mi_100_55 (hu : u < 8) : ms_G 100 55 L (.ref (ms_ad 31 u) :: S) (ms_Z q w I J) = ms_G 100 58 L (.ref (ms_ad 35 u) :: S) (ms_Z q w I J) := mz_getf (c := (2, 35)) rfl hu rfl (by decide) rfl
theorem mi_100_58 : ms_G 100 58 [l0, l1, l2, .int x, l4] S σ = ms_G 100 59 [l0, l1, l2, .int x, l4] (.int x :: S) σ := (ms_G_at rfl _ _ _).trans rfl
theorem mi_100_59 : ms_G 100 59 L (.int (nI i) :: .ref (ms_ad r u) :: S) (ms_Z q w I J) = cond (mo_1 q.1 r u i) (ms_G 100 60 L (.long (J r u i) :: S) (ms_Z q w I J)) (ms_raw 100 59 L (.int (nI i) :: .ref (ms_ad r u) :: S) (ms_Z q w I J)) := mz_lald rfl
theorem mi_100_60 : ms_G 100 60 [l0, .ref a, l2, l3, l4] S σ = ms_G 100 61 [l0, .ref a, l2, l3, l4] (.ref a :: S) σ := (ms_G_at rfl _ _ _).trans rfl
theorem mi_100_61 : ms_G 100 61 [l0, l1, l2, l3, .int x] S σ = ms_G 100 63 [l0, l1, l2, l3, .int x] (.int x :: S) σ := (ms_G_at rfl _ _ _).trans rfl
theorem mi_100_63 : ms_G 100 63 L S σ = ms_G 100 64 L (.int (nI 2) :: S) σ := (ms_G_at rfl _ _ _).trans rfl
theorem mi_100_64 : ms_G 100 64 L (.int y :: .int x :: S) σ = ms_G 100 65 L (.int (x + y) :: S) σ := (ms_G_at rfl _ _ _).trans rfl
theorem mi_100_65 : ms_G 100 65 L [.int x2, .ref a1, .long X0] (ms_Z q w I J) = mo_cl 100 65 68 (ms_G 86 0 [.long X0, .null, .ref a1, .int x2] [] (ms_Z q false I J)) w L [] := (mz_call rfl rfl (mz_can0 rfl rfl rfl rfl rfl)).trans rfl
theorem mi_100_68 : ms_G 100 68 [l0, l1, .ref a, l3, l4] S σ = ms_G 100 69 [l0, l1, .ref a, l3, l4] (.ref a :: S) σ := (ms_G_at rfl _ _ _).trans rfl
theorem mi_100_69 : ms_G 100 69 [.ref a, l1, l2, l3, l4] S σ = ms_G 100 70 [.ref a, l1, l2, l3, l4] (.ref a :: S) σ := (ms_G_at rfl _ _ _).trans rfl
theorem mi_100_70 : ms_G 100 70 [l0, l1, l2, .int x, l4] S σ = ms_G 100 71 [l0, l1, l2, .int x, l4] (.int x :: S) σ := (ms_G_at rfl _ _ _).trans rfl
theorem mi_100_71 : ms_G 100 71 L S σ = ms_G 100 72 L (.int (nI 1) :: S) σ := (ms_G_at rfl _ _ _).trans rfl
theorem mi_100_72 (hu : u < 8) : ms_G 100 72 L (.int x1 :: .int x0 :: .ref (ms_ad 31 u) :: [.ref g0]) (ms_Z q w I J) = mo_cl 100 72 75 (ms_G 104 0 [.ref (ms_ad 31 u), .int x0, .int x1] [] (ms_Z q false I J)) w L [.ref g0] := (mz_call rfl rfl (mz_can1 rfl rfl rfl rfl rfl hu rfl (by decide))).trans rfl
theorem mi_100_75 : ms_G 100 75 [.ref a, l1, l2, l3, l4] S σ = ms_G 100 76 [.ref a, l1, l2, l3, l4] (.ref a :: S) σ := (ms_G_at rfl _ _ _).trans rfl
theorem mi_100_76 (hu : u < 8) : ms_G 100 76 L (.ref (ms_ad 31 u) :: S) (ms_Z q w I J) = ms_G 100 79 L (.int (nI (ms_sv 3 u)) :: S) (ms_Z q w I J) := mz_getf (c := (3, 3)) rfl hu rfl (by decide) rfl
theorem mi_100_79 : ms_G 100 79 [l0, l1, l2, .int x, l4] S σ = ms_G 100 80 [l0, l1, l2, .int x, l4] (.int x :: S) σ := (ms_G_at rfl _ _ _).trans rfl
theorem mi_100_80 : ms_G 100 80 [l0, .ref a, l2, l3, l4] S σ = ms_G 100 81 [l0, .ref a, l2, l3, l4] (.ref a :: S) σ := (ms_G_at rfl _ _ _).trans rfl
theorem mi_100_81 : ms_G 100 81 [l0, l1, l2, l3, .int x] S σ = ms_G 100 83 [l0, l1, l2, l3, .int x] (.int x :: S) σ := (ms_G_at rfl _ _ _).trans rfl
theorem mi_100_83 : ms_G 100 83 L [.int x4, .ref a3, .int x2, .int x1, .long X0, .ref (ms_ad 4 0)] (ms_Z q w I J) = mo_cl 100 83 86 (ms_G 71 0 [.ref (ms_ad 4 0), .long X0, .null, .int x1, .int x2, .ref a3, .int x4, .null, .null] [] (ms_Z q false I J)) w L [] := (mz_call rfl rfl (mz_can1 rfl rfl rfl rfl rfl (by decide) rfl (by decide))).trans rfl
theorem mi_100_86 : ms_G 100 86 [l0, l1, .ref b, .int x, l4] S σ = ms_G 100 89 [l0, l1, .ref b, .int (x + nI 1), l4] S σ := (ms_G_at rfl _ _ _).trans rfl
theorem mi_100_89 : ms_G 100 89 L S σ = ms_G 100 7 L S σ := (ms_G_at rfl _ _ _).trans rfl
theorem mi_100_92 : ms_G 100 92 L [] σ = some (.inl none, σ) := (ms_G_at rfl _ _ _).trans rfl
-- MaskedSum$Phone.writeMasked([ILMaskedSum$Crypto;)V
theorem mi_101_0 : ms_G 101 0 [.ref a, l1, l2, l3] S σ = ms_G 101 1 [.ref a, l1, l2, l3] (.ref a :: S) σ := (ms_G_at rfl _ _ _).trans rfl
theorem mi_101_1 (hu : u < 8) : ms_G 101 1 L (.ref (ms_ad 31 u) :: S) (ms_Z q w I J) = ms_G 101 4 L (.ref (ms_ad 33 u) :: S) (ms_Z q w I J) := mz_getf (c := (2, 33)) rfl hu rfl (by decide) rfl
theorem mi_101_4 : ms_G 101 4 L S σ = ms_G 101 5 L (.int (nI 0) :: S) σ := (ms_G_at rfl _ _ _).trans rfl
theorem mi_101_5 : ms_G 101 5 [l0, .ref a, l2, l3] S σ = ms_G 101 6 [l0, .ref a, l2, l3] (.ref a :: S) σ := (ms_G_at rfl _ _ _).trans rfl
theorem mi_101_6 : ms_G 101 6 L S σ = ms_G 101 7 L (.int (nI 0) :: S) σ := (ms_G_at rfl _ _ _).trans rfl
theorem mi_101_7 : ms_G 101 7 L S σ = ms_G 101 8 L (.int (nI 4) :: S) σ := (ms_G_at rfl _ _ _).trans rfl
theorem mi_101_8 : ms_G 101 8 L (.int (nI n) :: .int (nI dp) :: .ref (ms_ad r' u') :: .int (nI sp) :: .ref (ms_ad r u) :: []) (ms_Z q w I J) = cond (mo_c q.1 r u r' u' sp dp n) (ms_G 101 11 L [] (ms_Z q true (ms_u I r' u' (va_cpy (I r u) (I r' u') sp dp n)) J)) (ms_raw 101 8 L (.int (nI n) :: .int (nI dp) :: .ref (ms_ad r' u') :: .int (nI sp) :: .ref (ms_ad r u) :: []) (ms_Z q w I J)) := mz_acp rfl (Nat.le_of_ble_eq_true rfl)
theorem mi_101_11 : ms_G 101 11 [l0, l1, .ref a, l3] S σ = ms_G 101 12 [l0, l1, .ref a, l3] (.ref a :: S) σ := (ms_G_at rfl _ _ _).trans rfl
theorem mi_101_12 : ms_G 101 12 [l0, .ref a, l2, l3] S σ = ms_G 101 13 [l0, .ref a, l2, l3] (.ref a :: S) σ := (ms_G_at rfl _ _ _).trans rfl
theorem mi_101_13 : ms_G 101 13 L S σ = ms_G 101 14 L (.int (nI 1) :: S) σ := (ms_G_at rfl _ _ _).trans rfl
theorem mi_101_14 : ms_G 101 14 [.ref a, l1, l2, l3] S σ = ms_G 101 15 [.ref a, l1, l2, l3] (.ref a :: S) σ := (ms_G_at rfl _ _ _).trans rfl
theorem mi_101_15 (hu : u < 8) : ms_G 101 15 L (.ref (ms_ad 31 u) :: S) (ms_Z q w I J) = ms_G 101 18 L (.ref (ms_ad 32 u) :: S) (ms_Z q w I J) := mz_getf (c := (2, 32)) rfl hu rfl (by decide) rfl
theorem mi_101_18 : ms_G 101 18 L S σ = ms_G 101 19 L (.int (nI 2) :: S) σ := (ms_G_at rfl _ _ _).trans rfl
theorem mi_101_19 : ms_G 101 19 L (.int (nI i) :: .ref (ms_ad r u) :: S) (ms_Z q w I J) = cond (mo_1 q.1 r u i) (ms_G 101 20 L (.long (J r u i) :: S) (ms_Z q w I J)) (ms_raw 101 19 L (.int (nI i) :: .ref (ms_ad r u) :: S) (ms_Z q w I J)) := mz_lald rfl
theorem mi_101_20 : ms_G 101 20 L S σ = ms_G 101 21 L (.int (nI 0) :: S) σ := (ms_G_at rfl _ _ _).trans rfl
theorem mi_101_21 : ms_G 101 21 [.ref a, l1, l2, l3] S σ = ms_G 101 22 [.ref a, l1, l2, l3] (.ref a :: S) σ := (ms_G_at rfl _ _ _).trans rfl
theorem mi_101_22 (hu : u < 8) : ms_G 101 22 L (.ref (ms_ad 31 u) :: S) (ms_Z q w I J) = ms_G 101 25 L (.int (nI (ms_sv 3 u)) :: S) (ms_Z q w I J) := mz_getf (c := (3, 3)) rfl hu rfl (by decide) rfl
theorem mi_101_25 : ms_G 101 25 L [.int x4, .int x3, .long X2, .int x1, .ref a0, .ref (ms_ad 4 0)] (ms_Z q w I J) = mo_cl 101 25 28 (ms_G 70 0 [.ref (ms_ad 4 0), .ref a0, .int x1, .long X2, .null, .int x3, .int x4, .null, .null] [] (ms_Z q false I J)) w L [] := (mz_call rfl rfl (mz_can1 rfl rfl rfl rfl rfl (by decide) rfl (by decide))).trans rfl
theorem mi_101_28 : ms_G 101 28 L S σ = ms_G 101 29 L (.int (nI 0) :: S) σ := (ms_G_at rfl _ _ _).trans rfl
theorem mi_101_29 : ms_G 101 29 [l0, l1, .ref b, l3] (.int x :: S) σ = ms_G 101 30 [l0, l1, .ref b, .int x] S σ := (ms_G_at rfl _ _ _).trans rfl
theorem mi_101_30 : ms_G 101 30 [l0, l1, l2, .int x] S σ = ms_G 101 31 [l0, l1, l2, .int x] (.int x :: S) σ := (ms_G_at rfl _ _ _).trans rfl
theorem mi_101_31 : ms_G 101 31 L S σ = ms_G 101 33 L (.int (nI 8) :: S) σ := (ms_G_at rfl _ _ _).trans rfl
theorem mi_101_33 : ms_G 101 33 L (.int y :: .int x :: S) σ = if y ≤ x then ms_G 101 89 L S σ else ms_G 101 36 L S σ := mz_bra rfl rfl rfl
theorem mi_101_36 : ms_G 101 36 [l0, l1, l2, .int x] S σ = ms_G 101 37 [l0, l1, l2, .int x] (.int x :: S) σ := (ms_G_at rfl _ _ _).trans rfl
theorem mi_101_37 : ms_G 101 37 [.ref a, l1, l2, l3] S σ = ms_G 101 38 [.ref a, l1, l2, l3] (.ref a :: S) σ := (ms_G_at rfl _ _ _).trans rfl
theorem mi_101_38 (hu : u < 8) : ms_G 101 38 L (.ref (ms_ad 31 u) :: S) (ms_Z q w I J) = ms_G 101 41 L (.int (nI (ms_sv 3 u)) :: S) (ms_Z q w I J) := mz_getf (c := (3, 3)) rfl hu rfl (by decide) rfl
theorem mi_101_41 : ms_G 101 41 L (.int y :: .int x :: S) σ = if x = y then ms_G 101 83 L S σ else ms_G 101 44 L S σ := mz_bra rfl rfl rfl
theorem mi_101_44 : ms_G 101 44 [.ref a, l1, l2, l3] S σ = ms_G 101 45 [.ref a, l1, l2, l3] (.ref a :: S) σ := (ms_G_at rfl _ _ _).trans rfl
theorem mi_101_45 (hu : u < 8) : ms_G 101 45 L (.ref (ms_ad 31 u) :: S) (ms_Z q w I J) = ms_G 101 48 L (.ref (ms_ad 36 u) :: S) (ms_Z q w I J) := mz_getf (c := (2, 36)) rfl hu rfl (by decide) rfl
theorem mi_101_48 : ms_G 101 48 L S σ = ms_G 101 49 L (.int (nI 1) :: S) σ := (ms_G_at rfl _ _ _).trans rfl
theorem mi_101_49 : ms_G 101 49 L (.int (nI i) :: .ref (ms_ad r u) :: S) (ms_Z q w I J) = cond (mo_0 q.1 r u i) (ms_G 101 50 L (.int (I r u i) :: S) (ms_Z q w I J)) (ms_raw 101 49 L (.int (nI i) :: .ref (ms_ad r u) :: S) (ms_Z q w I J)) := mz_iald rfl
theorem mi_101_50 : ms_G 101 50 [l0, l1, l2, .int x] S σ = ms_G 101 51 [l0, l1, l2, .int x] (.int x :: S) σ := (ms_G_at rfl _ _ _).trans rfl
theorem mi_101_51 : ms_G 101 51 L [.int x1, .int x0] (ms_Z q w I J) = mo_cl 101 51 54 (ms_G 15 0 [.int x0, .int x1] [] (ms_Z q false I J)) w L [] := (mz_call rfl rfl (mz_can0 rfl rfl rfl rfl rfl)).trans rfl
theorem mi_101_54 : ms_G 101 54 L (.int x :: S) σ = if x = nI 0 then ms_G 101 83 L S σ else ms_G 101 57 L S σ := mz_bra rfl rfl rfl
theorem mi_101_57 : ms_G 101 57 [l0, l1, .ref a, l3] S σ = ms_G 101 58 [l0, l1, .ref a, l3] (.ref a :: S) σ := (ms_G_at rfl _ _ _).trans rfl
theorem mi_101_58 : ms_G 101 58 [l0, .ref a, l2, l3] S σ = ms_G 101 59 [l0, .ref a, l2, l3] (.ref a :: S) σ := (ms_G_at rfl _ _ _).trans rfl
theorem mi_101_59 : ms_G 101 59 [l0, l1, l2, .int x] S σ = ms_G 101 60 [l0, l1, l2, .int x] (.int x :: S) σ := (ms_G_at rfl _ _ _).trans rfl
theorem mi_101_60 : ms_G 101 60 [.ref a, l1, l2, l3] S σ = ms_G 101 61 [.ref a, l1, l2, l3] (.ref a :: S) σ := (ms_G_at rfl _ _ _).trans rfl
theorem mi_101_61 (hu : u < 8) : ms_G 101 61 L (.ref (ms_ad 31 u) :: S) (ms_Z q w I J) = ms_G 101 64 L (.int (nI (ms_sv 3 u)) :: S) (ms_Z q w I J) := mz_getf (c := (3, 3)) rfl hu rfl (by decide) rfl
theorem mi_101_64 : ms_G 101 64 L (.int y :: .int x :: S) σ = if x ≤ y then ms_G 101 71 L S σ else ms_G 101 67 L S σ := mz_bra rfl rfl rfl
theorem mi_101_67 : ms_G 101 67 L S σ = ms_G 101 68 L (.int (nI 1) :: S) σ := (ms_G_at rfl _ _ _).trans rfl
theorem mi_101_68 : ms_G 101 68 L S σ = ms_G 101 72 L S σ := (ms_G_at rfl _ _ _).trans rfl
theorem mi_101_71 : ms_G 101 71 L S σ = ms_G 101 72 L (.int (nI 0) :: S) σ := (ms_G_at rfl _ _ _).trans rfl
theorem mi_101_72 : ms_G 101 72 [.ref a, l1, l2, l3] S σ = ms_G 101 73 [.ref a, l1, l2, l3] (.ref a :: S) σ := (ms_G_at rfl _ _ _).trans rfl
theorem mi_101_73 : ms_G 101 73 [l0, l1, l2, .int x] S σ = ms_G 101 74 [l0, l1, l2, .int x] (.int x :: S) σ := (ms_G_at rfl _ _ _).trans rfl
theorem mi_101_74 : ms_G 101 74 L S σ = ms_G 101 75 L (.int (nI 0) :: S) σ := (ms_G_at rfl _ _ _).trans rfl
theorem mi_101_75 (hu : u < 8) : ms_G 101 75 L (.int x1 :: .int x0 :: .ref (ms_ad 31 u) :: [.int e0, .ref g1, .ref g2]) (ms_Z q w I J) = mo_cl 101 75 78 (ms_G 104 0 [.ref (ms_ad 31 u), .int x0, .int x1] [] (ms_Z q false I J)) w L [.int e0, .ref g1, .ref g2] := (mz_call rfl rfl (mz_can1 rfl rfl rfl rfl rfl hu rfl (by decide))).trans rfl
theorem mi_101_78 : ms_G 101 78 L S σ = ms_G 101 79 L (.int (nI 1) :: S) σ := (ms_G_at rfl _ _ _).trans rfl
theorem mi_101_79 : ms_G 101 79 L S σ = ms_G 101 80 L (.int (nI 0) :: S) σ := (ms_G_at rfl _ _ _).trans rfl
theorem mi_101_80 : ms_G 101 80 L [.int x4, .int x3, .long X2, .int x1, .ref a0, .ref (ms_ad 4 0)] (ms_Z q w I J) = mo_cl 101 80 83 (ms_G 70 0 [.ref (ms_ad 4 0), .ref a0, .int x1, .long X2, .null, .int x3, .int x4, .null, .null] [] (ms_Z q false I J)) w L [] := (mz_call rfl rfl (mz_can1 rfl rfl rfl rfl rfl (by decide) rfl (by decide))).trans rfl
theorem mi_101_83 : ms_G 101 83 [l0, l1, .ref b, .int x] S σ = ms_G 101 86 [l0, l1, .ref b, .int (x + nI 1)] S σ := (ms_G_at rfl _ _ _).trans rfl
theorem mi_101_86 : ms_G 101 86 L S σ = ms_G 101 30 L S σ := (ms_G_at rfl _ _ _).trans rfl
theorem mi_101_89 : ms_G 101 89 L [] σ = some (.inl none, σ) := (ms_G_at rfl _ _ _).trans rfl
-- MaskedSum$Phone.writeShares([ILMaskedSum$Crypto;)V
theorem mi_102_0 : ms_G 102 0 [l0, .ref a, l2, l3] S σ = ms_G 102 1 [l0, .ref a, l2, l3] (.ref a :: S) σ := (ms_G_at rfl _ _ _).trans rfl
theorem mi_102_1 : ms_G 102 1 L S σ = ms_G 102 2 L (.int (nI 0) :: S) σ := (ms_G_at rfl _ _ _).trans rfl
theorem mi_102_2 : ms_G 102 2 L [.int x1, .ref a0] (ms_Z q w I J) = mo_cl 102 2 5 (ms_G 148 0 [.ref a0, .int x1, .null, .null] [] (ms_Z q false I J)) w L [] := (mz_call rfl rfl (mz_can0 rfl rfl rfl rfl rfl)).trans rfl
theorem mi_102_5 : ms_G 102 5 L S σ = ms_G 102 6 L (.int (nI 0) :: S) σ := (ms_G_at rfl _ _ _).trans rfl
theorem mi_102_6 : ms_G 102 6 [l0, l1, .ref b, l3] (.int x :: S) σ = ms_G 102 7 [l0, l1, .ref b, .int x] S σ := (ms_G_at rfl _ _ _).trans rfl
theorem mi_102_7 : ms_G 102 7 [l0, l1, l2, .int x] S σ = ms_G 102 8 [l0, l1, l2, .int x] (.int x :: S) σ := (ms_G_at rfl _ _ _).trans rfl
theorem mi_102_8 : ms_G 102 8 L S σ = ms_G 102 10 L (.int (nI 8) :: S) σ := (ms_G_at rfl _ _ _).trans rfl
theorem mi_102_10 : ms_G 102 10 L (.int y :: .int x :: S) σ = if y ≤ x then ms_G 102 115 L S σ else ms_G 102 13 L S σ := mz_bra rfl rfl rfl
theorem mi_102_13 : ms_G 102 13 [l0, l1, l2, .int x] S σ = ms_G 102 14 [l0, l1, l2, .int x] (.int x :: S) σ := (ms_G_at rfl _ _ _).trans rfl
theorem mi_102_14 : ms_G 102 14 [.ref a, l1, l2, l3] S σ = ms_G 102 15 [.ref a, l1, l2, l3] (.ref a :: S) σ := (ms_G_at rfl _ _ _).trans rfl
theorem mi_102_15 (hu : u < 8) : ms_G 102 15 L (.ref (ms_ad 31 u) :: S) (ms_Z q w I J) = ms_G 102 18 L (.int (nI (ms_sv 3 u)) :: S) (ms_Z q w I J) := mz_getf (c := (3, 3)) rfl hu rfl (by decide) rfl
theorem mi_102_18 : ms_G 102 18 L (.int y :: .int x :: S) σ = if x = y then ms_G 102 21 L S σ else ms_G 102 58 L S σ := mz_bra rfl rfl rfl
theorem mi_102_21 : ms_G 102 21 [.ref a, l1, l2, l3] S σ = ms_G 102 22 [.ref a, l1, l2, l3] (.ref a :: S) σ := (ms_G_at rfl _ _ _).trans rfl
theorem mi_102_22 (hu : u < 8) : ms_G 102 22 L (.ref (ms_ad 31 u) :: S) (ms_Z q w I J) = ms_G 102 25 L (.ref (ms_ad 34 u) :: S) (ms_Z q w I J) := mz_getf (c := (2, 34)) rfl hu rfl (by decide) rfl
theorem mi_102_25 : ms_G 102 25 [l0, l1, l2, .int x] S σ = ms_G 102 26 [l0, l1, l2, .int x] (.int x :: S) σ := (ms_G_at rfl _ _ _).trans rfl
theorem mi_102_26 : ms_G 102 26 L (.int (nI i) :: .ref (ms_ad r u) :: S) (ms_Z q w I J) = cond (mo_1 q.1 r u i) (ms_G 102 27 L (.long (J r u i) :: S) (ms_Z q w I J)) (ms_raw 102 26 L (.int (nI i) :: .ref (ms_ad r u) :: S) (ms_Z q w I J)) := mz_lald rfl
theorem mi_102_27 : ms_G 102 27 [.ref a, l1, l2, l3] S σ = ms_G 102 28 [.ref a, l1, l2, l3] (.ref a :: S) σ := (ms_G_at rfl _ _ _).trans rfl
theorem mi_102_28 (hu : u < 8) : ms_G 102 28 L (.ref (ms_ad 31 u) :: S) (ms_Z q w I J) = ms_G 102 31 L (.ref (ms_ad 39 u) :: S) (ms_Z q w I J) := mz_getf (c := (2, 39)) rfl hu rfl (by decide) rfl
theorem mi_102_31 : ms_G 102 31 L S σ = ms_G 102 32 L (.int (nI 0) :: S) σ := (ms_G_at rfl _ _ _).trans rfl
theorem mi_102_32 : ms_G 102 32 L [.int x2, .ref a1, .long X0] (ms_Z q w I J) = mo_cl 102 32 35 (ms_G 86 0 [.long X0, .null, .ref a1, .int x2] [] (ms_Z q false I J)) w L [] := (mz_call rfl rfl (mz_can0 rfl rfl rfl rfl rfl)).trans rfl
theorem mi_102_35 : ms_G 102 35 [.ref a, l1, l2, l3] S σ = ms_G 102 36 [.ref a, l1, l2, l3] (.ref a :: S) σ := (ms_G_at rfl _ _ _).trans rfl
theorem mi_102_36 (hu : u < 8) : ms_G 102 36 L (.ref (ms_ad 31 u) :: S) (ms_Z q w I J) = ms_G 102 39 L (.ref (ms_ad 35 u) :: S) (ms_Z q w I J) := mz_getf (c := (2, 35)) rfl hu rfl (by decide) rfl
theorem mi_102_39 : ms_G 102 39 [l0, l1, l2, .int x] S σ = ms_G 102 40 [l0, l1, l2, .int x] (.int x :: S) σ := (ms_G_at rfl _ _ _).trans rfl
theorem mi_102_40 : ms_G 102 40 L (.int (nI i) :: .ref (ms_ad r u) :: S) (ms_Z q w I J) = cond (mo_1 q.1 r u i) (ms_G 102 41 L (.long (J r u i) :: S) (ms_Z q w I J)) (ms_raw 102 40 L (.int (nI i) :: .ref (ms_ad r u) :: S) (ms_Z q w I J)) := mz_lald rfl
theorem mi_102_41 : ms_G 102 41 [.ref a, l1, l2, l3] S σ = ms_G 102 42 [.ref a, l1, l2, l3] (.ref a :: S) σ := (ms_G_at rfl _ _ _).trans rfl
theorem mi_102_42 (hu : u < 8) : ms_G 102 42 L (.ref (ms_ad 31 u) :: S) (ms_Z q w I J) = ms_G 102 45 L (.ref (ms_ad 39 u) :: S) (ms_Z q w I J) := mz_getf (c := (2, 39)) rfl hu rfl (by decide) rfl
theorem mi_102_45 : ms_G 102 45 L S σ = ms_G 102 46 L (.int (nI 2) :: S) σ := (ms_G_at rfl _ _ _).trans rfl
theorem mi_102_46 : ms_G 102 46 L [.int x2, .ref a1, .long X0] (ms_Z q w I J) = mo_cl 102 46 49 (ms_G 86 0 [.long X0, .null, .ref a1, .int x2] [] (ms_Z q false I J)) w L [] := (mz_call rfl rfl (mz_can0 rfl rfl rfl rfl rfl)).trans rfl
theorem mi_102_49 : ms_G 102 49 [.ref a, l1, l2, l3] S σ = ms_G 102 50 [.ref a, l1, l2, l3] (.ref a :: S) σ := (ms_G_at rfl _ _ _).trans rfl
theorem mi_102_50 : ms_G 102 50 [l0, .ref a, l2, l3] S σ = ms_G 102 51 [l0, .ref a, l2, l3] (.ref a :: S) σ := (ms_G_at rfl _ _ _).trans rfl
theorem mi_102_51 : ms_G 102 51 [l0, l1, l2, .int x] S σ = ms_G 102 52 [l0, l1, l2, .int x] (.int x :: S) σ := (ms_G_at rfl _ _ _).trans rfl
theorem mi_102_52 (hu : u < 8) : ms_G 102 52 L [.int x1, .ref a0, .ref (ms_ad 31 u)] (ms_Z q w I J) = mo_cl 102 52 55 (ms_G 103 0 [.ref (ms_ad 31 u), .ref a0, .int x1] [] (ms_Z q false I J)) w L [] := (mz_call rfl rfl (mz_can1 rfl rfl rfl rfl rfl hu rfl (by decide))).trans rfl
theorem mi_102_55 : ms_G 102 55 L S σ = ms_G 102 109 L S σ := (ms_G_at rfl _ _ _).trans rfl
theorem mi_102_58 : ms_G 102 58 [.ref a, l1, l2, l3] S σ = ms_G 102 59 [.ref a, l1, l2, l3] (.ref a :: S) σ := (ms_G_at rfl _ _ _).trans rfl
theorem mi_102_59 (hu : u < 8) : ms_G 102 59 L (.ref (ms_ad 31 u) :: S) (ms_Z q w I J) = ms_G 102 62 L (.ref (ms_ad 36 u) :: S) (ms_Z q w I J) := mz_getf (c := (2, 36)) rfl hu rfl (by decide) rfl
theorem mi_102_62 : ms_G 102 62 L S σ = ms_G 102 63 L (.int (nI 1) :: S) σ := (ms_G_at rfl _ _ _).trans rfl
theorem mi_102_63 : ms_G 102 63 L (.int (nI i) :: .ref (ms_ad r u) :: S) (ms_Z q w I J) = cond (mo_0 q.1 r u i) (ms_G 102 64 L (.int (I r u i) :: S) (ms_Z q w I J)) (ms_raw 102 63 L (.int (nI i) :: .ref (ms_ad r u) :: S) (ms_Z q w I J)) := mz_iald rfl
theorem mi_102_64 : ms_G 102 64 [l0, l1, l2, .int x] S σ = ms_G 102 65 [l0, l1, l2, .int x] (.int x :: S) σ := (ms_G_at rfl _ _ _).trans rfl
theorem mi_102_65 : ms_G 102 65 L [.int x1, .int x0] (ms_Z q w I J) = mo_cl 102 65 68 (ms_G 15 0 [.int x0, .int x1] [] (ms_Z q false I J)) w L [] := (mz_call rfl rfl (mz_can0 rfl rfl rfl rfl rfl)).trans rfl
theorem mi_102_68 : ms_G 102 68 L (.int x :: S) σ = if x = nI 0 then ms_G 102 109 L S σ else ms_G 102 71 L S σ := mz_bra rfl rfl rfl
theorem mi_102_71 : ms_G 102 71 [l0, l1, .ref a, l3] S σ = ms_G 102 72 [l0, l1, .ref a, l3] (.ref a :: S) σ := (ms_G_at rfl _ _ _).trans rfl
theorem mi_102_72 : ms_G 102 72 [.ref a, l1, l2, l3] S σ = ms_G 102 73 [.ref a, l1, l2, l3] (.ref a :: S) σ := (ms_G_at rfl _ _ _).trans rfl
theorem mi_102_73 : ms_G 102 73 [l0, l1, l2, .int x] S σ = ms_G 102 74 [l0, l1, l2, .int x] (.int x :: S) σ := (ms_G_at rfl _ _ _).trans rfl
theorem mi_102_74 : ms_G 102 74 L S σ = ms_G 102 75 L (.int (nI 1) :: S) σ := (ms_G_at rfl _ _ _).trans rfl
theorem mi_102_75 (hu : u < 8) : ms_G 102 75 L (.int x1 :: .int x0 :: .ref (ms_ad 31 u) :: [.ref g0]) (ms_Z q w I J) = mo_cl 102 75 78 (ms_G 104 0 [.ref (ms_ad 31 u), .int x0, .int x1] [] (ms_Z q false I J)) w L [.ref g0] := (mz_call rfl rfl (mz_can1 rfl rfl rfl rfl rfl hu rfl (by decide))).trans rfl
theorem mi_102_78 : ms_G 102 78 [l0, l1, l2, .int x] S σ = ms_G 102 79 [l0, l1, l2, .int x] (.int x :: S) σ := (ms_G_at rfl _ _ _).trans rfl
theorem mi_102_79 : ms_G 102 79 [.ref a, l1, l2, l3] S σ = ms_G 102 80 [.ref a, l1, l2, l3] (.ref a :: S) σ := (ms_G_at rfl _ _ _).trans rfl
theorem mi_102_80 (hu : u < 8) : ms_G 102 80 L (.ref (ms_ad 31 u) :: S) (ms_Z q w I J) = ms_G 102 83 L (.int (nI (ms_sv 3 u)) :: S) (ms_Z q w I J) := mz_getf (c := (3, 3)) rfl hu rfl (by decide) rfl
theorem mi_102_83 : ms_G 102 83 [.ref a, l1, l2, l3] S σ = ms_G 102 84 [.ref a, l1, l2, l3] (.ref a :: S) σ := (ms_G_at rfl _ _ _).trans rfl
theorem mi_102_84 (hu : u < 8) : ms_G 102 84 L (.ref (ms_ad 31 u) :: S) (ms_Z q w I J) = ms_G 102 87 L (.ref (ms_ad 38 u) :: S) (ms_Z q w I J) := mz_getf (c := (2, 38)) rfl hu rfl (by decide) rfl
theorem mi_102_87 : ms_G 102 87 L S σ = ms_G 102 88 L (.int (nI 1) :: S) σ := (ms_G_at rfl _ _ _).trans rfl
theorem mi_102_88 : ms_G 102 88 L S σ = ms_G 102 90 L (.int (nI 8) :: S) σ := (ms_G_at rfl _ _ _).trans rfl
theorem mi_102_90 : ms_G 102 90 [l0, l1, l2, .int x] S σ = ms_G 102 91 [l0, l1, l2, .int x] (.int x :: S) σ := (ms_G_at rfl _ _ _).trans rfl
theorem mi_102_91 : ms_G 102 91 L (.int y :: .int x :: S) σ = ms_G 102 92 L (.int (x * y) :: S) σ := (ms_G_at rfl _ _ _).trans rfl
theorem mi_102_92 : ms_G 102 92 L (.int y :: .int x :: S) σ = ms_G 102 93 L (.int (x + y) :: S) σ := (ms_G_at rfl _ _ _).trans rfl
theorem mi_102_93 : ms_G 102 93 [.ref a, l1, l2, l3] S σ = ms_G 102 94 [.ref a, l1, l2, l3] (.ref a :: S) σ := (ms_G_at rfl _ _ _).trans rfl
theorem mi_102_94 (hu : u < 8) : ms_G 102 94 L (.ref (ms_ad 31 u) :: S) (ms_Z q w I J) = ms_G 102 97 L (.ref (ms_ad 39 u) :: S) (ms_Z q w I J) := mz_getf (c := (2, 39)) rfl hu rfl (by decide) rfl
theorem mi_102_97 : ms_G 102 97 L [.ref a5, .int x4, .ref a3, .int x2, .int x1, .long X0, .ref (ms_ad 4 0)] (ms_Z q w I J) = mo_cl 102 97 100 (ms_G 72 0 [.ref (ms_ad 4 0), .long X0, .null, .int x1, .int x2, .ref a3, .int x4, .ref a5, .null, .null] [] (ms_Z q false I J)) w L [] := (mz_call rfl rfl (mz_can1 rfl rfl rfl rfl rfl (by decide) rfl (by decide))).trans rfl
theorem mi_102_100 : ms_G 102 100 L (.int x :: S) σ = if x = nI 0 then ms_G 102 109 L S σ else ms_G 102 103 L S σ := mz_bra rfl rfl rfl
theorem mi_102_103 : ms_G 102 103 [.ref a, l1, l2, l3] S σ = ms_G 102 104 [.ref a, l1, l2, l3] (.ref a :: S) σ := (ms_G_at rfl _ _ _).trans rfl
theorem mi_102_104 : ms_G 102 104 [l0, .ref a, l2, l3] S σ = ms_G 102 105 [l0, .ref a, l2, l3] (.ref a :: S) σ := (ms_G_at rfl _ _ _).trans rfl
theorem mi_102_105 : ms_G 102 105 [l0, l1, l2, .int x] S σ = ms_G 102 106 [l0, l1, l2, .int x] (.int x :: S) σ := (ms_G_at rfl _ _ _).trans rfl
theorem mi_102_106 (hu : u < 8) : ms_G 102 106 L [.int x1, .ref a0, .ref (ms_ad 31 u)] (ms_Z q w I J) = mo_cl 102 106 109 (ms_G 103 0 [.ref (ms_ad 31 u), .ref a0, .int x1] [] (ms_Z q false I J)) w L [] := (mz_call rfl rfl (mz_can1 rfl rfl rfl rfl rfl hu rfl (by decide))).trans rfl
theorem mi_102_109 : ms_G 102 109 [l0, l1, .ref b, .int x] S σ = ms_G 102 112 [l0, l1, .ref b, .int (x + nI 1)] S σ := (ms_G_at rfl _ _ _).trans rfl
theorem mi_102_112 : ms_G 102 112 L S σ = ms_G 102 7 L S σ := (ms_G_at rfl _ _ _).trans rfl
theorem mi_102_115 : ms_G 102 115 [l0, .ref a, l2, l3] S σ = ms_G 102 116 [l0, .ref a, l2, l3] (.ref a :: S) σ := (ms_G_at rfl _ _ _).trans rfl
theorem mi_102_116 : ms_G 102 116 L S σ = ms_G 102 117 L (.int (nI 0) :: S) σ := (ms_G_at rfl _ _ _).trans rfl
theorem mi_102_117 : ms_G 102 117 [.ref a, l1, l2, l3] S σ = ms_G 102 118 [.ref a, l1, l2, l3] (.ref a :: S) σ := (ms_G_at rfl _ _ _).trans rfl
theorem mi_102_118 (hu : u < 8) : ms_G 102 118 L (.ref (ms_ad 31 u) :: S) (ms_Z q w I J) = ms_G 102 121 L (.int (I 31 u 11) :: S) (ms_Z q w I J) := mz_getf (c := (0, 11)) rfl hu rfl (by decide) rfl
theorem mi_102_121 : ms_G 102 121 [.ref a, l1, l2, l3] S σ = ms_G 102 122 [.ref a, l1, l2, l3] (.ref a :: S) σ := (ms_G_at rfl _ _ _).trans rfl
theorem mi_102_122 (hu : u < 8) : ms_G 102 122 L (.ref (ms_ad 31 u) :: S) (ms_Z q w I J) = ms_G 102 125 L (.int (I 31 u 12) :: S) (ms_Z q w I J) := mz_getf (c := (0, 12)) rfl hu rfl (by decide) rfl
theorem mi_102_125 : ms_G 102 125 L (.int y :: .int x :: S) σ = ms_G 102 126 L (.int (x ||| y) :: S) σ := (ms_G_at rfl _ _ _).trans rfl
theorem mi_102_126 : ms_G 102 126 L (.int x :: .int (nI i) :: .ref (ms_ad r u) :: S) (ms_Z q w I J) = cond (mo_0 q.1 r u i) (ms_G 102 127 L S (ms_Z q true (ms_u I r u (upd (I r u) i x)) J)) (ms_raw 102 126 L (.int x :: .int (nI i) :: .ref (ms_ad r u) :: S) (ms_Z q w I J)) := mz_iast rfl x
theorem mi_102_127 : ms_G 102 127 L [] σ = some (.inl none, σ) := (ms_G_at rfl _ _ _).trans rfl
-- MaskedSum$Phone.giveShare([II)V
theorem mi_103_0 : ms_G 103 0 [.ref a, l1, l2] S σ = ms_G 103 1 [.ref a, l1, l2] (.ref a :: S) σ := (ms_G_at rfl _ _ _).trans rfl
theorem mi_103_1 (hu : u < 8) : ms_G 103 1 L (.ref (ms_ad 31 u) :: S) (ms_Z q w I J) = ms_G 103 4 L (.ref (ms_ad 36 u) :: S) (ms_Z q w I J) := mz_getf (c := (2, 36)) rfl hu rfl (by decide) rfl
theorem mi_103_4 : ms_G 103 4 L S σ = ms_G 103 5 L (.int (nI 2) :: S) σ := (ms_G_at rfl _ _ _).trans rfl
theorem mi_103_5 : ms_G 103 5 L (.int (nI i) :: .ref (ms_ad r u) :: S) (ms_Z q w I J) = cond (mo_0 q.1 r u i) (ms_G 103 6 L (.int (I r u i) :: S) (ms_Z q w I J)) (ms_raw 103 5 L (.int (nI i) :: .ref (ms_ad r u) :: S) (ms_Z q w I J)) := mz_iald rfl
theorem mi_103_6 : ms_G 103 6 [l0, l1, .int x] S σ = ms_G 103 7 [l0, l1, .int x] (.int x :: S) σ := (ms_G_at rfl _ _ _).trans rfl
theorem mi_103_7 : ms_G 103 7 L [.int x1, .int x0] (ms_Z q w I J) = mo_cl 103 7 10 (ms_G 15 0 [.int x0, .int x1] [] (ms_Z q false I J)) w L [] := (mz_call rfl rfl (mz_can0 rfl rfl rfl rfl rfl)).trans rfl
theorem mi_103_10 : ms_G 103 10 L (.int x :: S) σ = if x = nI 0 then ms_G 103 43 L S σ else ms_G 103 13 L S σ := mz_bra rfl rfl rfl
theorem mi_103_13 : ms_G 103 13 [.ref a, l1, l2] S σ = ms_G 103 14 [.ref a, l1, l2] (.ref a :: S) σ := (ms_G_at rfl _ _ _).trans rfl
theorem mi_103_14 : ms_G 103 14 L (.ref a :: S) σ = ms_G 103 15 L (.ref a :: .ref a :: S) σ := (ms_G_at rfl _ _ _).trans rfl
theorem mi_103_15 (hu : u < 8) : ms_G 103 15 L (.ref (ms_ad 31 u) :: S) (ms_Z q w I J) = ms_G 103 18 L (.int (I 31 u 11) :: S) (ms_Z q w I J) := mz_getf (c := (0, 11)) rfl hu rfl (by decide) rfl
theorem mi_103_18 : ms_G 103 18 L S σ = ms_G 103 19 L (.int (nI 1) :: S) σ := (ms_G_at rfl _ _ _).trans rfl
theorem mi_103_19 : ms_G 103 19 [l0, l1, .int x] S σ = ms_G 103 20 [l0, l1, .int x] (.int x :: S) σ := (ms_G_at rfl _ _ _).trans rfl
theorem mi_103_20 : ms_G 103 20 L (.int y :: .int x :: S) σ = ms_G 103 21 L (.int (x <<< (y &&& 31)) :: S) σ := (ms_G_at rfl _ _ _).trans rfl
theorem mi_103_21 : ms_G 103 21 L (.int y :: .int x :: S) σ = ms_G 103 22 L (.int (x ||| y) :: S) σ := (ms_G_at rfl _ _ _).trans rfl
theorem mi_103_22 (hu : u < 8) : ms_G 103 22 L (.int x :: .ref (ms_ad 31 u) :: S) (ms_Z q w I J) = ms_G 103 25 L S (ms_Z q true (ms_u I 31 u (upd (I 31 u) 11 x)) J) := mz_putf rfl hu rfl (by decide) rfl rfl
theorem mi_103_25 : ms_G 103 25 [.ref a, l1, l2] S σ = ms_G 103 26 [.ref a, l1, l2] (.ref a :: S) σ := (ms_G_at rfl _ _ _).trans rfl
theorem mi_103_26 (hu : u < 8) : ms_G 103 26 L (.ref (ms_ad 31 u) :: S) (ms_Z q w I J) = ms_G 103 29 L (.ref (ms_ad 39 u) :: S) (ms_Z q w I J) := mz_getf (c := (2, 39)) rfl hu rfl (by decide) rfl
theorem mi_103_29 : ms_G 103 29 L S σ = ms_G 103 30 L (.int (nI 0) :: S) σ := (ms_G_at rfl _ _ _).trans rfl
theorem mi_103_30 : ms_G 103 30 [l0, .ref a, l2] S σ = ms_G 103 31 [l0, .ref a, l2] (.ref a :: S) σ := (ms_G_at rfl _ _ _).trans rfl
theorem mi_103_31 : ms_G 103 31 L S σ = ms_G 103 32 L (.int (nI 1) :: S) σ := (ms_G_at rfl _ _ _).trans rfl
theorem mi_103_32 : ms_G 103 32 L S σ = ms_G 103 33 L (.int (nI 2) :: S) σ := (ms_G_at rfl _ _ _).trans rfl
theorem mi_103_33 : ms_G 103 33 [l0, l1, .int x] S σ = ms_G 103 34 [l0, l1, .int x] (.int x :: S) σ := (ms_G_at rfl _ _ _).trans rfl
theorem mi_103_34 : ms_G 103 34 L (.int y :: .int x :: S) σ = ms_G 103 35 L (.int (x * y) :: S) σ := (ms_G_at rfl _ _ _).trans rfl
theorem mi_103_35 : ms_G 103 35 L (.int y :: .int x :: S) σ = ms_G 103 36 L (.int (x + y) :: S) σ := (ms_G_at rfl _ _ _).trans rfl
theorem mi_103_36 : ms_G 103 36 L S σ = ms_G 103 37 L (.int (nI 2) :: S) σ := (ms_G_at rfl _ _ _).trans rfl
theorem mi_103_37 : ms_G 103 37 L (.int (nI n) :: .int (nI dp) :: .ref (ms_ad r' u') :: .int (nI sp) :: .ref (ms_ad r u) :: []) (ms_Z q w I J) = cond (mo_c q.1 r u r' u' sp dp n) (ms_G 103 40 L [] (ms_Z q true (ms_u I r' u' (va_cpy (I r u) (I r' u') sp dp n)) J)) (ms_raw 103 37 L (.int (nI n) :: .int (nI dp) :: .ref (ms_ad r' u') :: .int (nI sp) :: .ref (ms_ad r u) :: []) (ms_Z q w I J)) := mz_acp rfl (Nat.le_of_ble_eq_true rfl)
theorem mi_103_40 : ms_G 103 40 L S σ = ms_G 103 70 L S σ := (ms_G_at rfl _ _ _).trans rfl
theorem mi_103_43 : ms_G 103 43 [.ref a, l1, l2] S σ = ms_G 103 44 [.ref a, l1, l2] (.ref a :: S) σ := (ms_G_at rfl _ _ _).trans rfl
theorem mi_103_44 : ms_G 103 44 L (.ref a :: S) σ = ms_G 103 45 L (.ref a :: .ref a :: S) σ := (ms_G_at rfl _ _ _).trans rfl
theorem mi_103_45 (hu : u < 8) : ms_G 103 45 L (.ref (ms_ad 31 u) :: S) (ms_Z q w I J) = ms_G 103 48 L (.int (I 31 u 12) :: S) (ms_Z q w I J) := mz_getf (c := (0, 12)) rfl hu rfl (by decide) rfl
theorem mi_103_48 : ms_G 103 48 L S σ = ms_G 103 49 L (.int (nI 1) :: S) σ := (ms_G_at rfl _ _ _).trans rfl
theorem mi_103_49 : ms_G 103 49 [l0, l1, .int x] S σ = ms_G 103 50 [l0, l1, .int x] (.int x :: S) σ := (ms_G_at rfl _ _ _).trans rfl
theorem mi_103_50 : ms_G 103 50 L (.int y :: .int x :: S) σ = ms_G 103 51 L (.int (x <<< (y &&& 31)) :: S) σ := (ms_G_at rfl _ _ _).trans rfl
theorem mi_103_51 : ms_G 103 51 L (.int y :: .int x :: S) σ = ms_G 103 52 L (.int (x ||| y) :: S) σ := (ms_G_at rfl _ _ _).trans rfl
theorem mi_103_52 (hu : u < 8) : ms_G 103 52 L (.int x :: .ref (ms_ad 31 u) :: S) (ms_Z q w I J) = ms_G 103 55 L S (ms_Z q true (ms_u I 31 u (upd (I 31 u) 12 x)) J) := mz_putf rfl hu rfl (by decide) rfl rfl
theorem mi_103_55 : ms_G 103 55 [.ref a, l1, l2] S σ = ms_G 103 56 [.ref a, l1, l2] (.ref a :: S) σ := (ms_G_at rfl _ _ _).trans rfl
theorem mi_103_56 (hu : u < 8) : ms_G 103 56 L (.ref (ms_ad 31 u) :: S) (ms_Z q w I J) = ms_G 103 59 L (.ref (ms_ad 39 u) :: S) (ms_Z q w I J) := mz_getf (c := (2, 39)) rfl hu rfl (by decide) rfl
theorem mi_103_59 : ms_G 103 59 L S σ = ms_G 103 60 L (.int (nI 2) :: S) σ := (ms_G_at rfl _ _ _).trans rfl
theorem mi_103_60 : ms_G 103 60 [l0, .ref a, l2] S σ = ms_G 103 61 [l0, .ref a, l2] (.ref a :: S) σ := (ms_G_at rfl _ _ _).trans rfl
theorem mi_103_61 : ms_G 103 61 L S σ = ms_G 103 62 L (.int (nI 1) :: S) σ := (ms_G_at rfl _ _ _).trans rfl
theorem mi_103_62 : ms_G 103 62 L S σ = ms_G 103 63 L (.int (nI 2) :: S) σ := (ms_G_at rfl _ _ _).trans rfl
theorem mi_103_63 : ms_G 103 63 [l0, l1, .int x] S σ = ms_G 103 64 [l0, l1, .int x] (.int x :: S) σ := (ms_G_at rfl _ _ _).trans rfl
theorem mi_103_64 : ms_G 103 64 L (.int y :: .int x :: S) σ = ms_G 103 65 L (.int (x * y) :: S) σ := (ms_G_at rfl _ _ _).trans rfl
theorem mi_103_65 : ms_G 103 65 L (.int y :: .int x :: S) σ = ms_G 103 66 L (.int (x + y) :: S) σ := (ms_G_at rfl _ _ _).trans rfl
theorem mi_103_66 : ms_G 103 66 L S σ = ms_G 103 67 L (.int (nI 2) :: S) σ := (ms_G_at rfl _ _ _).trans rfl
theorem mi_103_67 : ms_G 103 67 L (.int (nI n) :: .int (nI dp) :: .ref (ms_ad r' u') :: .int (nI sp) :: .ref (ms_ad r u) :: []) (ms_Z q w I J) = cond (mo_c q.1 r u r' u' sp dp n) (ms_G 103 70 L [] (ms_Z q true (ms_u I r' u' (va_cpy (I r u) (I r' u') sp dp n)) J)) (ms_raw 103 67 L (.int (nI n) :: .int (nI dp) :: .ref (ms_ad r' u') :: .int (nI sp) :: .ref (ms_ad r u) :: []) (ms_Z q w I J)) := mz_acp rfl (Nat.le_of_ble_eq_true rfl)
theorem mi_103_70 : ms_G 103 70 L [] σ = some (.inl none, σ) := (ms_G_at rfl _ _ _).trans rfl
-- MaskedSum$Phone.agreed(II)J
theorem mi_104_0 : ms_G 104 0 [.ref a, l1, l2] S σ = ms_G 104 1 [.ref a, l1, l2] (.ref a :: S) σ := (ms_G_at rfl _ _ _).trans rfl
theorem mi_104_1 (hu : u < 8) : ms_G 104 1 L (.ref (ms_ad 31 u) :: S) (ms_Z q w I J) = ms_G 104 4 L (.ref (ms_ad 37 u) :: S) (ms_Z q w I J) := mz_getf (c := (2, 37)) rfl hu rfl (by decide) rfl
theorem mi_104_4 : ms_G 104 4 L S σ = ms_G 104 5 L (.int (nI 1) :: S) σ := (ms_G_at rfl _ _ _).trans rfl
theorem mi_104_5 : ms_G 104 5 L S σ = ms_G 104 6 L (.int (nI 4) :: S) σ := (ms_G_at rfl _ _ _).trans rfl
theorem mi_104_6 : ms_G 104 6 [l0, .int x, l2] S σ = ms_G 104 7 [l0, .int x, l2] (.int x :: S) σ := (ms_G_at rfl _ _ _).trans rfl
theorem mi_104_7 : ms_G 104 7 L (.int y :: .int x :: S) σ = ms_G 104 8 L (.int (x * y) :: S) σ := (ms_G_at rfl _ _ _).trans rfl
theorem mi_104_8 : ms_G 104 8 L (.int y :: .int x :: S) σ = ms_G 104 9 L (.int (x + y) :: S) σ := (ms_G_at rfl _ _ _).trans rfl
theorem mi_104_9 : ms_G 104 9 L S σ = ms_G 104 10 L (.int (nI 2) :: S) σ := (ms_G_at rfl _ _ _).trans rfl
theorem mi_104_10 : ms_G 104 10 [l0, l1, .int x] S σ = ms_G 104 11 [l0, l1, .int x] (.int x :: S) σ := (ms_G_at rfl _ _ _).trans rfl
theorem mi_104_11 : ms_G 104 11 L (.int y :: .int x :: S) σ = ms_G 104 12 L (.int (x * y) :: S) σ := (ms_G_at rfl _ _ _).trans rfl
theorem mi_104_12 : ms_G 104 12 L (.int y :: .int x :: S) σ = ms_G 104 13 L (.int (x + y) :: S) σ := (ms_G_at rfl _ _ _).trans rfl
theorem mi_104_13 : ms_G 104 13 L [.int x1, .ref a0] (ms_Z q w I J) = mo_cl 104 13 16 (ms_G 85 0 [.ref a0, .int x1] [] (ms_Z q false I J)) w L [] := (mz_call rfl rfl (mz_can0 rfl rfl rfl rfl rfl)).trans rfl
theorem mi_104_16 : ms_G 104 16 [.ref a, l1, l2] S σ = ms_G 104 17 [.ref a, l1, l2] (.ref a :: S) σ := (ms_G_at rfl _ _ _).trans rfl
theorem mi_104_17 (hu : u < 8) : ms_G 104 17 L (.ref (ms_ad 31 u) :: S) (ms_Z q w I J) = ms_G 104 20 L (.ref (ms_ad 32 u) :: S) (ms_Z q w I J) := mz_getf (c := (2, 32)) rfl hu rfl (by decide) rfl
theorem mi_104_20 : ms_G 104 20 [l0, l1, .int x] S σ = ms_G 104 21 [l0, l1, .int x] (.int x :: S) σ := (ms_G_at rfl _ _ _).trans rfl
theorem mi_104_21 : ms_G 104 21 L (.int (nI i) :: .ref (ms_ad r u) :: S) (ms_Z q w I J) = cond (mo_1 q.1 r u i) (ms_G 104 22 L (.long (J r u i) :: S) (ms_Z q w I J)) (ms_raw 104 21 L (.int (nI i) :: .ref (ms_ad r u) :: S) (ms_Z q w I J)) := mz_lald rfl
theorem mi_104_22 : ms_G 104 22 L [.long X1, .long X0] (ms_Z q w I J) = mo_cl 104 22 25 (ms_G 91 0 [.long X0, .null, .long X1, .null, .null, .null, .null, .null, .null] [] (ms_Z q false I J)) w L [] := (mz_call rfl rfl (mz_can0 rfl rfl rfl rfl rfl)).trans rfl
theorem mi_104_25 : ms_G 104 25 L [.long X] σ = some (.inl (some (.long X)), σ) := (ms_G_at rfl _ _ _).trans rfl
-- MaskedSum$Poly1305.begin([I)V
theorem mi_106_0 : ms_G 106 0 [.ref a, l1] S σ = ms_G 106 1 [.ref a, l1] (.ref a :: S) σ := (ms_G_at rfl _ _ _).trans rfl
theorem mi_106_1 : ms_G 106 1 L (.ref (ms_ad 8 0) :: S) (ms_Z q w I J) = ms_G 106 4 L (.ref (ms_ad 9 0) :: S) (ms_Z q w I J) := mz_getf (c := (2, 9)) rfl (by decide) rfl (by decide) rfl
theorem mi_106_4 : ms_G 106 4 L S σ = ms_G 106 5 L (.long (lN 0) :: S) σ := (ms_G_at rfl _ _ _).trans rfl
theorem mi_106_5 : ms_G 106 5 L [.long X1, .ref a0] (ms_Z q w I J) = mo_cl 106 5 8 (ms_G 149 0 [.ref a0, .long X1, .null, .null, .null] [] (ms_Z q false I J)) w L [] := (mz_call rfl rfl (mz_can0 rfl rfl rfl rfl rfl)).trans rfl
theorem mi_106_8 : ms_G 106 8 [.ref a, l1] S σ = ms_G 106 9 [.ref a, l1] (.ref a :: S) σ := (ms_G_at rfl _ _ _).trans rfl
theorem mi_106_9 : ms_G 106 9 L (.ref (ms_ad 8 0) :: S) (ms_Z q w I J) = ms_G 106 12 L (.ref (ms_ad 9 0) :: S) (ms_Z q w I J) := mz_getf (c := (2, 9)) rfl (by decide) rfl (by decide) rfl
theorem mi_106_12 : ms_G 106 12 [l0, .ref a] S σ = ms_G 106 13 [l0, .ref a] (.ref a :: S) σ := (ms_G_at rfl _ _ _).trans rfl
theorem mi_106_13 : ms_G 106 13 L S σ = ms_G 106 14 L (.int (nI 0) :: S) σ := (ms_G_at rfl _ _ _).trans rfl
theorem mi_106_14 : ms_G 106 14 L (.int (nI i) :: .ref (ms_ad r u) :: S) (ms_Z q w I J) = cond (mo_0 q.1 r u i) (ms_G 106 15 L (.int (I r u i) :: S) (ms_Z q w I J)) (ms_raw 106 14 L (.int (nI i) :: .ref (ms_ad r u) :: S) (ms_Z q w I J)) := mz_iald rfl
theorem mi_106_15 : ms_G 106 15 L S σ = ms_G 106 17 L (.int (nI 268435455) :: S) σ := (ms_G_at rfl _ _ _).trans rfl
theorem mi_106_17 : ms_G 106 17 L (.int y :: .int x :: S) σ = ms_G 106 18 L (.int (x &&& y) :: S) σ := (ms_G_at rfl _ _ _).trans rfl
theorem mi_106_18 : ms_G 106 18 [l0, .ref a] S σ = ms_G 106 19 [l0, .ref a] (.ref a :: S) σ := (ms_G_at rfl _ _ _).trans rfl
theorem mi_106_19 : ms_G 106 19 L S σ = ms_G 106 20 L (.int (nI 1) :: S) σ := (ms_G_at rfl _ _ _).trans rfl
theorem mi_106_20 : ms_G 106 20 L (.int (nI i) :: .ref (ms_ad r u) :: S) (ms_Z q w I J) = cond (mo_0 q.1 r u i) (ms_G 106 21 L (.int (I r u i) :: S) (ms_Z q w I J)) (ms_raw 106 20 L (.int (nI i) :: .ref (ms_ad r u) :: S) (ms_Z q w I J)) := mz_iald rfl
theorem mi_106_21 : ms_G 106 21 L S σ = ms_G 106 23 L (.int (nI 268435452) :: S) σ := (ms_G_at rfl _ _ _).trans rfl
theorem mi_106_23 : ms_G 106 23 L (.int y :: .int x :: S) σ = ms_G 106 24 L (.int (x &&& y) :: S) σ := (ms_G_at rfl _ _ _).trans rfl
theorem mi_106_24 : ms_G 106 24 [l0, .ref a] S σ = ms_G 106 25 [l0, .ref a] (.ref a :: S) σ := (ms_G_at rfl _ _ _).trans rfl
theorem mi_106_25 : ms_G 106 25 L S σ = ms_G 106 26 L (.int (nI 2) :: S) σ := (ms_G_at rfl _ _ _).trans rfl
theorem mi_106_26 : ms_G 106 26 L (.int (nI i) :: .ref (ms_ad r u) :: S) (ms_Z q w I J) = cond (mo_0 q.1 r u i) (ms_G 106 27 L (.int (I r u i) :: S) (ms_Z q w I J)) (ms_raw 106 26 L (.int (nI i) :: .ref (ms_ad r u) :: S) (ms_Z q w I J)) := mz_iald rfl
theorem mi_106_27 : ms_G 106 27 L S σ = ms_G 106 29 L (.int (nI 268435452) :: S) σ := (ms_G_at rfl _ _ _).trans rfl
theorem mi_106_29 : ms_G 106 29 L (.int y :: .int x :: S) σ = ms_G 106 30 L (.int (x &&& y) :: S) σ := (ms_G_at rfl _ _ _).trans rfl
theorem mi_106_30 : ms_G 106 30 [l0, .ref a] S σ = ms_G 106 31 [l0, .ref a] (.ref a :: S) σ := (ms_G_at rfl _ _ _).trans rfl
theorem mi_106_31 : ms_G 106 31 L S σ = ms_G 106 32 L (.int (nI 3) :: S) σ := (ms_G_at rfl _ _ _).trans rfl
theorem mi_106_32 : ms_G 106 32 L (.int (nI i) :: .ref (ms_ad r u) :: S) (ms_Z q w I J) = cond (mo_0 q.1 r u i) (ms_G 106 33 L (.int (I r u i) :: S) (ms_Z q w I J)) (ms_raw 106 32 L (.int (nI i) :: .ref (ms_ad r u) :: S) (ms_Z q w I J)) := mz_iald rfl
theorem mi_106_33 : ms_G 106 33 L S σ = ms_G 106 35 L (.int (nI 268435452) :: S) σ := (ms_G_at rfl _ _ _).trans rfl
theorem mi_106_35 : ms_G 106 35 L (.int y :: .int x :: S) σ = ms_G 106 36 L (.int (x &&& y) :: S) σ := (ms_G_at rfl _ _ _).trans rfl
theorem mi_106_36 : ms_G 106 36 L [.int x4, .int x3, .int x2, .int x1, .ref a0] (ms_Z q w I J) = mo_cl 106 36 39 (ms_G 108 0 [.ref a0, .int x1, .int x2, .int x3, .int x4, .null, .null, .null, .null] [] (ms_Z q false I J)) w L [] := (mz_call rfl rfl (mz_can0 rfl rfl rfl rfl rfl)).trans rfl
theorem mi_106_39 : ms_G 106 39 [.ref a, l1] S σ = ms_G 106 40 [.ref a, l1] (.ref a :: S) σ := (ms_G_at rfl _ _ _).trans rfl
theorem mi_106_40 : ms_G 106 40 L (.ref (ms_ad 8 0) :: S) (ms_Z q w I J) = ms_G 106 43 L (.ref (ms_ad 10 0) :: S) (ms_Z q w I J) := mz_getf (c := (2, 10)) rfl (by decide) rfl (by decide) rfl
theorem mi_106_43 : ms_G 106 43 L S σ = ms_G 106 44 L (.long (lN 0) :: S) σ := (ms_G_at rfl _ _ _).trans rfl
theorem mi_106_44 : ms_G 106 44 L [.long X1, .ref a0] (ms_Z q w I J) = mo_cl 106 44 47 (ms_G 149 0 [.ref a0, .long X1, .null, .null, .null] [] (ms_Z q false I J)) w L [] := (mz_call rfl rfl (mz_can0 rfl rfl rfl rfl rfl)).trans rfl
theorem mi_106_47 : ms_G 106 47 [l0, .ref a] S σ = ms_G 106 48 [l0, .ref a] (.ref a :: S) σ := (ms_G_at rfl _ _ _).trans rfl
theorem mi_106_48 : ms_G 106 48 L S σ = ms_G 106 49 L (.int (nI 4) :: S) σ := (ms_G_at rfl _ _ _).trans rfl
theorem mi_106_49 : ms_G 106 49 [.ref a, l1] S σ = ms_G 106 50 [.ref a, l1] (.ref a :: S) σ := (ms_G_at rfl _ _ _).trans rfl
theorem mi_106_50 : ms_G 106 50 L (.ref (ms_ad 8 0) :: S) (ms_Z q w I J) = ms_G 106 53 L (.ref (ms_ad 12 0) :: S) (ms_Z q w I J) := mz_getf (c := (2, 12)) rfl (by decide) rfl (by decide) rfl
theorem mi_106_53 : ms_G 106 53 L S σ = ms_G 106 54 L (.int (nI 0) :: S) σ := (ms_G_at rfl _ _ _).trans rfl
theorem mi_106_54 : ms_G 106 54 L S σ = ms_G 106 55 L (.int (nI 4) :: S) σ := (ms_G_at rfl _ _ _).trans rfl
theorem mi_106_55 : ms_G 106 55 L (.int (nI n) :: .int (nI dp) :: .ref (ms_ad r' u') :: .int (nI sp) :: .ref (ms_ad r u) :: []) (ms_Z q w I J) = cond (mo_c q.1 r u r' u' sp dp n) (ms_G 106 58 L [] (ms_Z q true (ms_u I r' u' (va_cpy (I r u) (I r' u') sp dp n)) J)) (ms_raw 106 55 L (.int (nI n) :: .int (nI dp) :: .ref (ms_ad r' u') :: .int (nI sp) :: .ref (ms_ad r u) :: []) (ms_Z q w I J)) := mz_acp rfl (Nat.le_of_ble_eq_true rfl)
theorem mi_106_58 : ms_G 106 58 L [] σ = some (.inl none, σ) := (ms_G_at rfl _ _ _).trans rfl
-- MaskedSum$Poly1305.addBlock(IIII)V
theorem mi_107_0 : ms_G 107 0 [.ref a, l1, l2, l3, l4] S σ = ms_G 107 1 [.ref a, l1, l2, l3, l4] (.ref a :: S) σ := (ms_G_at rfl _ _ _).trans rfl
theorem mi_107_1 : ms_G 107 1 L (.ref (ms_ad 8 0) :: S) (ms_Z q w I J) = ms_G 107 4 L (.ref (ms_ad 10 0) :: S) (ms_Z q w I J) := mz_getf (c := (2, 10)) rfl (by decide) rfl (by decide) rfl
theorem mi_107_4 : ms_G 107 4 [l0, .int x, l2, l3, l4] S σ = ms_G 107 5 [l0, .int x, l2, l3, l4] (.int x :: S) σ := (ms_G_at rfl _ _ _).trans rfl
theorem mi_107_5 : ms_G 107 5 [l0, l1, .int x, l3, l4] S σ = ms_G 107 6 [l0, l1, .int x, l3, l4] (.int x :: S) σ := (ms_G_at rfl _ _ _).trans rfl
theorem mi_107_6 : ms_G 107 6 [l0, l1, l2, .int x, l4] S σ = ms_G 107 7 [l0, l1, l2, .int x, l4] (.int x :: S) σ := (ms_G_at rfl _ _ _).trans rfl
theorem mi_107_7 : ms_G 107 7 [l0, l1, l2, l3, .int x] S σ = ms_G 107 9 [l0, l1, l2, l3, .int x] (.int x :: S) σ := (ms_G_at rfl _ _ _).trans rfl
theorem mi_107_9 : ms_G 107 9 L [.int x4, .int x3, .int x2, .int x1, .ref a0] (ms_Z q w I J) = mo_cl 107 9 12 (ms_G 108 0 [.ref a0, .int x1, .int x2, .int x3, .int x4, .null, .null, .null, .null] [] (ms_Z q false I J)) w L [] := (mz_call rfl rfl (mz_can0 rfl rfl rfl rfl rfl)).trans rfl
theorem mi_107_12 : ms_G 107 12 [.ref a, l1, l2, l3, l4] S σ = ms_G 107 13 [.ref a, l1, l2, l3, l4] (.ref a :: S) σ := (ms_G_at rfl _ _ _).trans rfl
theorem mi_107_13 : ms_G 107 13 L (.ref (ms_ad 8 0) :: S) (ms_Z q w I J) = ms_G 107 16 L (.ref (ms_ad 10 0) :: S) (ms_Z q w I J) := mz_getf (c := (2, 10)) rfl (by decide) rfl (by decide) rfl
theorem mi_107_16 : ms_G 107 16 L S σ = ms_G 107 17 L (.int (nI 4) :: S) σ := (ms_G_at rfl _ _ _).trans rfl
theorem mi_107_17 : ms_G 107 17 L (.int x :: .ref b :: S) σ = ms_G 107 18 L (.int x :: .ref b :: .int x :: .ref b :: S) σ := (ms_G_at rfl _ _ _).trans rfl
theorem mi_107_18 : ms_G 107 18 L (.int (nI i) :: .ref (ms_ad r u) :: S) (ms_Z q w I J) = cond (mo_1 q.1 r u i) (ms_G 107 19 L (.long (J r u i) :: S) (ms_Z q w I J)) (ms_raw 107 18 L (.int (nI i) :: .ref (ms_ad r u) :: S) (ms_Z q w I J)) := mz_lald rfl
theorem mi_107_19 : ms_G 107 19 L S σ = ms_G 107 22 L (.long (lN 16777216) :: S) σ := (ms_G_at rfl _ _ _).trans rfl
theorem mi_107_22 : ms_G 107 22 L (.long Y :: .long X :: S) σ = ms_G 107 23 L (.long (X + Y) :: S) σ := (ms_G_at rfl _ _ _).trans rfl
theorem mi_107_23 : ms_G 107 23 L (.long X :: .int (nI i) :: .ref (ms_ad r u) :: S) (ms_Z q w I J) = cond (mo_1 q.1 r u i) (ms_G 107 24 L S (ms_Z q true I (ms_u J r u (vp_updL (J r u) i X)))) (ms_raw 107 23 L (.long X :: .int (nI i) :: .ref (ms_ad r u) :: S) (ms_Z q w I J)) := mz_last rfl X
theorem mi_107_24 : ms_G 107 24 [.ref a, l1, l2, l3, l4] S σ = ms_G 107 25 [.ref a, l1, l2, l3, l4] (.ref a :: S) σ := (ms_G_at rfl _ _ _).trans rfl
theorem mi_107_25 : ms_G 107 25 L [.ref (ms_ad 8 0)] (ms_Z q w I J) = mo_cl 107 25 28 (ms_G 109 0 [.ref (ms_ad 8 0), .null, .null, .null, .null] [] (ms_Z q false I J)) w L [] := (mz_call rfl rfl (mz_can1 rfl rfl rfl rfl rfl (by decide) rfl (by decide))).trans rfl
theorem mi_107_28 : ms_G 107 28 [.ref a, l1, l2, l3, l4] S σ = ms_G 107 29 [.ref a, l1, l2, l3, l4] (.ref a :: S) σ := (ms_G_at rfl _ _ _).trans rfl
theorem mi_107_29 : ms_G 107 29 L [.ref (ms_ad 8 0)] (ms_Z q w I J) = mo_cl 107 29 32 (ms_G 110 0 [.ref (ms_ad 8 0), .null, .null] [] (ms_Z q false I J)) w L [] := (mz_call rfl rfl (mz_can1 rfl rfl rfl rfl rfl (by decide) rfl (by decide))).trans rfl
theorem mi_107_32 : ms_G 107 32 L [] σ = some (.inl none, σ) := (ms_G_at rfl _ _ _).trans rfl
-- MaskedSum$Poly1305.addLimbs([JIIII)V
theorem mi_108_0 : ms_G 108 0 [l0, l1, .int x, l3, l4, l5, l6, l7, l8] S σ = ms_G 108 1 [l0, l1, .int x, l3, l4, l5, l6, l7, l8] (.int x :: S) σ := (ms_G_at rfl _ _ _).trans rfl
theorem mi_108_1 : ms_G 108 1 L (.int x :: S) σ = ms_G 108 2 L (.long x.toInt64 :: S) σ := (ms_G_at rfl _ _ _).trans rfl
theorem mi_108_2 : ms_G 108 2 L S σ = ms_G 108 4 L (.int (nI 32) :: S) σ := (ms_G_at rfl _ _ _).trans rfl
theorem mi_108_4 : ms_G 108 4 L (.int y :: .long X :: S) σ = ms_G 108 5 L (.long (X <<< (y.toInt64 &&& 63)) :: S) σ := (ms_G_at rfl _ _ _).trans rfl
theorem mi_108_5 : ms_G 108 5 [l0, .int x, l2, l3, l4, l5, l6, l7, l8] S σ = ms_G 108 6 [l0, .int x, l2, l3, l4, l5, l6, l7, l8] (.int x :: S) σ := (ms_G_at rfl _ _ _).trans rfl
theorem mi_108_6 : ms_G 108 6 L (.int x :: S) σ = ms_G 108 7 L (.long x.toInt64 :: S) σ := (ms_G_at rfl _ _ _).trans rfl
theorem mi_108_7 : ms_G 108 7 L S σ = ms_G 108 10 L (.long (lN 4294967295) :: S) σ := (ms_G_at rfl _ _ _).trans rfl
theorem mi_108_10 : ms_G 108 10 L (.long Y :: .long X :: S) σ = ms_G 108 11 L (.long (X &&& Y) :: S) σ := (ms_G_at rfl _ _ _).trans rfl
theorem mi_108_11 : ms_G 108 11 L (.long Y :: .long X :: S) σ = ms_G 108 12 L (.long (X ||| Y) :: S) σ := (ms_G_at rfl _ _ _).trans rfl
theorem mi_108_12 : ms_G 108 12 [l0, l1, l2, l3, .int y, l5, l6, l7, l8] (.long X :: S) σ = ms_G 108 14 [l0, l1, l2, l3, .int y, .long X, .null, l7, l8] S σ := (ms_G_at rfl _ _ _).trans rfl
theorem mi_108_14 : ms_G 108 14 [l0, l1, l2, l3, .int x, l5, l6, l7, l8] S σ = ms_G 108 16 [l0, l1, l2, l3, .int x, l5, l6, l7, l8] (.int x :: S) σ := (ms_G_at rfl _ _ _).trans rfl
theorem mi_108_16 : ms_G 108 16 L (.int x :: S) σ = ms_G 108 17 L (.long x.toInt64 :: S) σ := (ms_G_at rfl _ _ _).trans rfl
theorem mi_108_17 : ms_G 108 17 L S σ = ms_G 108 19 L (.int (nI 32) :: S) σ := (ms_G_at rfl _ _ _).trans rfl
theorem mi_108_19 : ms_G 108 19 L (.int y :: .long X :: S) σ = ms_G 108 20 L (.long (X <<< (y.toInt64 &&& 63)) :: S) σ := (ms_G_at rfl _ _ _).trans rfl
theorem mi_108_20 : ms_G 108 20 [l0, l1, l2, .int x, l4, l5, l6, l7, l8] S σ = ms_G 108 21 [l0, l1, l2, .int x, l4, l5, l6, l7, l8] (.int x :: S) σ := (ms_G_at rfl _ _ _).trans rfl
theorem mi_108_21 : ms_G 108 21 L (.int x :: S) σ = ms_G 108 22 L (.long x.toInt64 :: S) σ := (ms_G_at rfl _ _ _).trans rfl
theorem mi_108_22 : ms_G 108 22 L S σ = ms_G 108 25 L (.long (lN 4294967295) :: S) σ := (ms_G_at rfl _ _ _).trans rfl
theorem mi_108_25 : ms_G 108 25 L (.long Y :: .long X :: S) σ = ms_G 108 26 L (.long (X &&& Y) :: S) σ := (ms_G_at rfl _ _ _).trans rfl
theorem mi_108_26 : ms_G 108 26 L (.long Y :: .long X :: S) σ = ms_G 108 27 L (.long (X ||| Y) :: S) σ := (ms_G_at rfl _ _ _).trans rfl
theorem mi_108_27 : ms_G 108 27 [l0, l1, l2, l3, l4, l5, .null, l7, l8] (.long X :: S) σ = ms_G 108 29 [l0, l1, l2, l3, l4, l5, .null, .long X, .null] S σ := (ms_G_at rfl _ _ _).trans rfl
theorem mi_108_29 : ms_G 108 29 [.ref a, l1, l2, l3, l4, l5, l6, l7, l8] S σ = ms_G 108 30 [.ref a, l1, l2, l3, l4, l5, l6, l7, l8] (.ref a :: S) σ := (ms_G_at rfl _ _ _).trans rfl
theorem mi_108_30 : ms_G 108 30 L S σ = ms_G 108 31 L (.int (nI 0) :: S) σ := (ms_G_at rfl _ _ _).trans rfl
theorem mi_108_31 : ms_G 108 31 L (.int x :: .ref b :: S) σ = ms_G 108 32 L (.int x :: .ref b :: .int x :: .ref b :: S) σ := (ms_G_at rfl _ _ _).trans rfl
theorem mi_108_32 : ms_G 108 32 L (.int (nI i) :: .ref (ms_ad r u) :: S) (ms_Z q w I J) = cond (mo_1 q.1 r u i) (ms_G 108 33 L (.long (J r u i) :: S) (ms_Z q w I J)) (ms_raw 108 32 L (.int (nI i) :: .ref (ms_ad r u) :: S) (ms_Z q w I J)) := mz_lald rfl
theorem mi_108_33 : ms_G 108 33 [l0, l1, l2, l3, l4, .long X, l6, l7, l8] S σ = ms_G 108 35 [l0, l1, l2, l3, l4, .long X, l6, l7, l8] (.long X :: S) σ := (ms_G_at rfl _ _ _).trans rfl
theorem mi_108_35 : ms_G 108 35 L S σ = ms_G 108 38 L (.long (lN 67108863) :: S) σ := (ms_G_at rfl _ _ _).trans rfl
theorem mi_108_38 : ms_G 108 38 L (.long Y :: .long X :: S) σ = ms_G 108 39 L (.long (X &&& Y) :: S) σ := (ms_G_at rfl _ _ _).trans rfl
theorem mi_108_39 : ms_G 108 39 L (.long Y :: .long X :: S) σ = ms_G 108 40 L (.long (X + Y) :: S) σ := (ms_G_at rfl _ _ _).trans rfl
theorem mi_108_40 : ms_G 108 40 L (.long X :: .int (nI i) :: .ref (ms_ad r u) :: S) (ms_Z q w I J) = cond (mo_1 q.1 r u i) (ms_G 108 41 L S (ms_Z q true I (ms_u J r u (vp_updL (J r u) i X)))) (ms_raw 108 40 L (.long X :: .int (nI i) :: .ref (ms_ad r u) :: S) (ms_Z q w I J)) := mz_last rfl X
theorem mi_108_41 : ms_G 108 41 [.ref a, l1, l2, l3, l4, l5, l6, l7, l8] S σ = ms_G 108 42 [.ref a, l1, l2, l3, l4, l5, l6, l7, l8] (.ref a :: S) σ := (ms_G_at rfl _ _ _).trans rfl
theorem mi_108_42 : ms_G 108 42 L S σ = ms_G 108 43 L (.int (nI 1) :: S) σ := (ms_G_at rfl _ _ _).trans rfl
theorem mi_108_43 : ms_G 108 43 L (.int x :: .ref b :: S) σ = ms_G 108 44 L (.int x :: .ref b :: .int x :: .ref b :: S) σ := (ms_G_at rfl _ _ _).trans rfl
theorem mi_108_44 : ms_G 108 44 L (.int (nI i) :: .ref (ms_ad r u) :: S) (ms_Z q w I J) = cond (mo_1 q.1 r u i) (ms_G 108 45 L (.long (J r u i) :: S) (ms_Z q w I J)) (ms_raw 108 44 L (.int (nI i) :: .ref (ms_ad r u) :: S) (ms_Z q w I J)) := mz_lald rfl
theorem mi_108_45 : ms_G 108 45 [l0, l1, l2, l3, l4, .long X, l6, l7, l8] S σ = ms_G 108 47 [l0, l1, l2, l3, l4, .long X, l6, l7, l8] (.long X :: S) σ := (ms_G_at rfl _ _ _).trans rfl
theorem mi_108_47 : ms_G 108 47 L S σ = ms_G 108 49 L (.int (nI 26) :: S) σ := (ms_G_at rfl _ _ _).trans rfl
theorem mi_108_49 : ms_G 108 49 L (.int y :: .long X :: S) σ = ms_G 108 50 L (.long ((X.toUInt64 >>> (y.toInt64.toUInt64 &&& Int64.toUInt64 63)).toInt64) :: S) σ := (ms_G_at rfl _ _ _).trans rfl
theorem mi_108_50 : ms_G 108 50 L S σ = ms_G 108 53 L (.long (lN 67108863) :: S) σ := (ms_G_at rfl _ _ _).trans rfl
theorem mi_108_53 : ms_G 108 53 L (.long Y :: .long X :: S) σ = ms_G 108 54 L (.long (X &&& Y) :: S) σ := (ms_G_at rfl _ _ _).trans rfl
theorem mi_108_54 : ms_G 108 54 L (.long Y :: .long X :: S) σ = ms_G 108 55 L (.long (X + Y) :: S) σ := (ms_G_at rfl _ _ _).trans rfl
theorem mi_108_55 : ms_G 108 55 L (.long X :: .int (nI i) :: .ref (ms_ad r u) :: S) (ms_Z q w I J) = cond (mo_1 q.1 r u i) (ms_G 108 56 L S (ms_Z q true I (ms_u J r u (vp_updL (J r u) i X)))) (ms_raw 108 55 L (.long X :: .int (nI i) :: .ref (ms_ad r u) :: S) (ms_Z q w I J)) := mz_last rfl X
theorem mi_108_56 : ms_G 108 56 [.ref a, l1, l2, l3, l4, l5, l6, l7, l8] S σ = ms_G 108 57 [.ref a, l1, l2, l3, l4, l5, l6, l7, l8] (.ref a :: S) σ := (ms_G_at rfl _ _ _).trans rfl
theorem mi_108_57 : ms_G 108 57 L S σ = ms_G 108 58 L (.int (nI 2) :: S) σ := (ms_G_at rfl _ _ _).trans rfl
theorem mi_108_58 : ms_G 108 58 L (.int x :: .ref b :: S) σ = ms_G 108 59 L (.int x :: .ref b :: .int x :: .ref b :: S) σ := (ms_G_at rfl _ _ _).trans rfl
theorem mi_108_59 : ms_G 108 59 L (.int (nI i) :: .ref (ms_ad r u) :: S) (ms_Z q w I J) = cond (mo_1 q.1 r u i) (ms_G 108 60 L (.long (J r u i) :: S) (ms_Z q w I J)) (ms_raw 108 59 L (.int (nI i) :: .ref (ms_ad r u) :: S) (ms_Z q w I J)) := mz_lald rfl
theorem mi_108_60 : ms_G 108 60 [l0, l1, l2, l3, l4, .long X, l6, l7, l8] S σ = ms_G 108 62 [l0, l1, l2, l3, l4, .long X, l6, l7, l8] (.long X :: S) σ := (ms_G_at rfl _ _ _).trans rfl
theorem mi_108_62 : ms_G 108 62 L S σ = ms_G 108 64 L (.int (nI 52) :: S) σ := (ms_G_at rfl _ _ _).trans rfl
theorem mi_108_64 : ms_G 108 64 L (.int y :: .long X :: S) σ = ms_G 108 65 L (.long ((X.toUInt64 >>> (y.toInt64.toUInt64 &&& Int64.toUInt64 63)).toInt64) :: S) σ := (ms_G_at rfl _ _ _).trans rfl
theorem mi_108_65 : ms_G 108 65 [l0, l1, l2, l3, l4, l5, l6, .long X, l8] S σ = ms_G 108 67 [l0, l1, l2, l3, l4, l5, l6, .long X, l8] (.long X :: S) σ := (ms_G_at rfl _ _ _).trans rfl
theorem mi_108_67 : ms_G 108 67 L S σ = ms_G 108 69 L (.int (nI 12) :: S) σ := (ms_G_at rfl _ _ _).trans rfl
theorem mi_108_69 : ms_G 108 69 L (.int y :: .long X :: S) σ = ms_G 108 70 L (.long (X <<< (y.toInt64 &&& 63)) :: S) σ := (ms_G_at rfl _ _ _).trans rfl
theorem mi_108_70 : ms_G 108 70 L (.long Y :: .long X :: S) σ = ms_G 108 71 L (.long (X ||| Y) :: S) σ := (ms_G_at rfl _ _ _).trans rfl
theorem mi_108_71 : ms_G 108 71 L S σ = ms_G 108 74 L (.long (lN 67108863) :: S) σ := (ms_G_at rfl _ _ _).trans rfl
theorem mi_108_74 : ms_G 108 74 L (.long Y :: .long X :: S) σ = ms_G 108 75 L (.long (X &&& Y) :: S) σ := (ms_G_at rfl _ _ _).trans rfl
theorem mi_108_75 : ms_G 108 75 L (.long Y :: .long X :: S) σ = ms_G 108 76 L (.long (X + Y) :: S) σ := (ms_G_at rfl _ _ _).trans rfl
theorem mi_108_76 : ms_G 108 76 L (.long X :: .int (nI i) :: .ref (ms_ad r u) :: S) (ms_Z q w I J) = cond (mo_1 q.1 r u i) (ms_G 108 77 L S (ms_Z q true I (ms_u J r u (vp_updL (J r u) i X)))) (ms_raw 108 76 L (.long X :: .int (nI i) :: .ref (ms_ad r u) :: S) (ms_Z q w I J)) := mz_last rfl X
theorem mi_108_77 : ms_G 108 77 [.ref a, l1, l2, l3, l4, l5, l6, l7, l8] S σ = ms_G 108 78 [.ref a, l1, l2, l3, l4, l5, l6, l7, l8] (.ref a :: S) σ := (ms_G_at rfl _ _ _).trans rfl
theorem mi_108_78 : ms_G 108 78 L S σ = ms_G 108 79 L (.int (nI 3) :: S) σ := (ms_G_at rfl _ _ _).trans rfl
theorem mi_108_79 : ms_G 108 79 L (.int x :: .ref b :: S) σ = ms_G 108 80 L (.int x :: .ref b :: .int x :: .ref b :: S) σ := (ms_G_at rfl _ _ _).trans rfl
theorem mi_108_80 : ms_G 108 80 L (.int (nI i) :: .ref (ms_ad r u) :: S) (ms_Z q w I J) = cond (mo_1 q.1 r u i) (ms_G 108 81 L (.long (J r u i) :: S) (ms_Z q w I J)) (ms_raw 108 80 L (.int (nI i) :: .ref (ms_ad r u) :: S) (ms_Z q w I J)) := mz_lald rfl
theorem mi_108_81 : ms_G 108 81 [l0, l1, l2, l3, l4, l5, l6, .long X, l8] S σ = ms_G 108 83 [l0, l1, l2, l3, l4, l5, l6, .long X, l8] (.long X :: S) σ := (ms_G_at rfl _ _ _).trans rfl
theorem mi_108_83 : ms_G 108 83 L S σ = ms_G 108 85 L (.int (nI 14) :: S) σ := (ms_G_at rfl _ _ _).trans rfl
theorem mi_108_85 : ms_G 108 85 L (.int y :: .long X :: S) σ = ms_G 108 86 L (.long ((X.toUInt64 >>> (y.toInt64.toUInt64 &&& Int64.toUInt64 63)).toInt64) :: S) σ := (ms_G_at rfl _ _ _).trans rfl
theorem mi_108_86 : ms_G 108 86 L S σ = ms_G 108 89 L (.long (lN 67108863) :: S) σ := (ms_G_at rfl _ _ _).trans rfl
theorem mi_108_89 : ms_G 108 89 L (.long Y :: .long X :: S) σ = ms_G 108 90 L (.long (X &&& Y) :: S) σ := (ms_G_at rfl _ _ _).trans rfl
theorem mi_108_90 : ms_G 108 90 L (.long Y :: .long X :: S) σ = ms_G 108 91 L (.long (X + Y) :: S) σ := (ms_G_at rfl _ _ _).trans rfl
theorem mi_108_91 : ms_G 108 91 L (.long X :: .int (nI i) :: .ref (ms_ad r u) :: S) (ms_Z q w I J) = cond (mo_1 q.1 r u i) (ms_G 108 92 L S (ms_Z q true I (ms_u J r u (vp_updL (J r u) i X)))) (ms_raw 108 91 L (.long X :: .int (nI i) :: .ref (ms_ad r u) :: S) (ms_Z q w I J)) := mz_last rfl X
theorem mi_108_92 : ms_G 108 92 [.ref a, l1, l2, l3, l4, l5, l6, l7, l8] S σ = ms_G 108 93 [.ref a, l1, l2, l3, l4, l5, l6, l7, l8] (.ref a :: S) σ := (ms_G_at rfl _ _ _).trans rfl
theorem mi_108_93 : ms_G 108 93 L S σ = ms_G 108 94 L (.int (nI 4) :: S) σ := (ms_G_at rfl _ _ _).trans rfl
theorem mi_108_94 : ms_G 108 94 L (.int x :: .ref b :: S) σ = ms_G 108 95 L (.int x :: .ref b :: .int x :: .ref b :: S) σ := (ms_G_at rfl _ _ _).trans rfl
theorem mi_108_95 : ms_G 108 95 L (.int (nI i) :: .ref (ms_ad r u) :: S) (ms_Z q w I J) = cond (mo_1 q.1 r u i) (ms_G 108 96 L (.long (J r u i) :: S) (ms_Z q w I J)) (ms_raw 108 95 L (.int (nI i) :: .ref (ms_ad r u) :: S) (ms_Z q w I J)) := mz_lald rfl
theorem mi_108_96 : ms_G 108 96 [l0, l1, l2, l3, l4, l5, l6, .long X, l8] S σ = ms_G 108 98 [l0, l1, l2, l3, l4, l5, l6, .long X, l8] (.long X :: S) σ := (ms_G_at rfl _ _ _).trans rfl
theorem mi_108_98 : ms_G 108 98 L S σ = ms_G 108 100 L (.int (nI 40) :: S) σ := (ms_G_at rfl _ _ _).trans rfl
theorem mi_108_100 : ms_G 108 100 L (.int y :: .long X :: S) σ = ms_G 108 101 L (.long ((X.toUInt64 >>> (y.toInt64.toUInt64 &&& Int64.toUInt64 63)).toInt64) :: S) σ := (ms_G_at rfl _ _ _).trans rfl
theorem mi_108_101 : ms_G 108 101 L (.long Y :: .long X :: S) σ = ms_G 108 102 L (.long (X + Y) :: S) σ := (ms_G_at rfl _ _ _).trans rfl
theorem mi_108_102 : ms_G 108 102 L (.long X :: .int (nI i) :: .ref (ms_ad r u) :: S) (ms_Z q w I J) = cond (mo_1 q.1 r u i) (ms_G 108 103 L S (ms_Z q true I (ms_u J r u (vp_updL (J r u) i X)))) (ms_raw 108 102 L (.long X :: .int (nI i) :: .ref (ms_ad r u) :: S) (ms_Z q w I J)) := mz_last rfl X
theorem mi_108_103 : ms_G 108 103 L [] σ = some (.inl none, σ) := (ms_G_at rfl _ _ _).trans rfl
-- MaskedSum$Poly1305.multiply()V
theorem mi_109_0 : ms_G 109 0 L S σ = ms_G 109 1 L (.int (nI 0) :: S) σ := (ms_G_at rfl _ _ _).trans rfl
theorem mi_109_1 : ms_G 109 1 [.ref b, l1, l2, l3, l4] (.int x :: S) σ = ms_G 109 2 [.ref b, .int x, l2, l3, l4] S σ := (ms_G_at rfl _ _ _).trans rfl
theorem mi_109_2 : ms_G 109 2 [l0, .int x, l2, l3, l4] S σ = ms_G 109 3 [l0, .int x, l2, l3, l4] (.int x :: S) σ := (ms_G_at rfl _ _ _).trans rfl
theorem mi_109_3 : ms_G 109 3 L S σ = ms_G 109 4 L (.int (nI 5) :: S) σ := (ms_G_at rfl _ _ _).trans rfl
theorem mi_109_4 : ms_G 109 4 L (.int y :: .int x :: S) σ = if y ≤ x then ms_G 109 89 L S σ else ms_G 109 7 L S σ := mz_bra rfl rfl rfl
theorem mi_109_7 : ms_G 109 7 L S σ = ms_G 109 8 L (.long (lN 0) :: S) σ := (ms_G_at rfl _ _ _).trans rfl
theorem mi_109_8 : ms_G 109 8 [l0, .int y, l2, l3, l4] (.long X :: S) σ = ms_G 109 9 [l0, .int y, .long X, .null, l4] S σ := (ms_G_at rfl _ _ _).trans rfl
theorem mi_109_9 : ms_G 109 9 L S σ = ms_G 109 10 L (.int (nI 0) :: S) σ := (ms_G_at rfl _ _ _).trans rfl
theorem mi_109_10 : ms_G 109 10 [l0, l1, l2, .null, l4] (.int x :: S) σ = ms_G 109 12 [l0, l1, l2, .null, .int x] S σ := (ms_G_at rfl _ _ _).trans rfl
theorem mi_109_12 : ms_G 109 12 [l0, l1, l2, l3, .int x] S σ = ms_G 109 14 [l0, l1, l2, l3, .int x] (.int x :: S) σ := (ms_G_at rfl _ _ _).trans rfl
theorem mi_109_14 : ms_G 109 14 L S σ = ms_G 109 15 L (.int (nI 5) :: S) σ := (ms_G_at rfl _ _ _).trans rfl
theorem mi_109_15 : ms_G 109 15 L (.int y :: .int x :: S) σ = if y ≤ x then ms_G 109 76 L S σ else ms_G 109 18 L S σ := mz_bra rfl rfl rfl
theorem mi_109_18 : ms_G 109 18 [l0, l1, .long X, l3, l4] S σ = ms_G 109 19 [l0, l1, .long X, l3, l4] (.long X :: S) σ := (ms_G_at rfl _ _ _).trans rfl
theorem mi_109_19 : ms_G 109 19 [l0, l1, l2, l3, .int x] S σ = ms_G 109 21 [l0, l1, l2, l3, .int x] (.int x :: S) σ := (ms_G_at rfl _ _ _).trans rfl
theorem mi_109_21 : ms_G 109 21 [l0, .int x, l2, l3, l4] S σ = ms_G 109 22 [l0, .int x, l2, l3, l4] (.int x :: S) σ := (ms_G_at rfl _ _ _).trans rfl
theorem mi_109_22 : ms_G 109 22 L (.int y :: .int x :: S) σ = if y < x then ms_G 109 45 L S σ else ms_G 109 25 L S σ := mz_bra rfl rfl rfl
theorem mi_109_25 : ms_G 109 25 [.ref a, l1, l2, l3, l4] S σ = ms_G 109 26 [.ref a, l1, l2, l3, l4] (.ref a :: S) σ := (ms_G_at rfl _ _ _).trans rfl
theorem mi_109_26 : ms_G 109 26 L (.ref (ms_ad 8 0) :: S) (ms_Z q w I J) = ms_G 109 29 L (.ref (ms_ad 10 0) :: S) (ms_Z q w I J) := mz_getf (c := (2, 10)) rfl (by decide) rfl (by decide) rfl
theorem mi_109_29 : ms_G 109 29 [l0, l1, l2, l3, .int x] S σ = ms_G 109 31 [l0, l1, l2, l3, .int x] (.int x :: S) σ := (ms_G_at rfl _ _ _).trans rfl
theorem mi_109_31 : ms_G 109 31 L (.int (nI i) :: .ref (ms_ad r u) :: S) (ms_Z q w I J) = cond (mo_1 q.1 r u i) (ms_G 109 32 L (.long (J r u i) :: S) (ms_Z q w I J)) (ms_raw 109 31 L (.int (nI i) :: .ref (ms_ad r u) :: S) (ms_Z q w I J)) := mz_lald rfl
theorem mi_109_32 : ms_G 109 32 [.ref a, l1, l2, l3, l4] S σ = ms_G 109 33 [.ref a, l1, l2, l3, l4] (.ref a :: S) σ := (ms_G_at rfl _ _ _).trans rfl
theorem mi_109_33 : ms_G 109 33 L (.ref (ms_ad 8 0) :: S) (ms_Z q w I J) = ms_G 109 36 L (.ref (ms_ad 9 0) :: S) (ms_Z q w I J) := mz_getf (c := (2, 9)) rfl (by decide) rfl (by decide) rfl
theorem mi_109_36 : ms_G 109 36 [l0, .int x, l2, l3, l4] S σ = ms_G 109 37 [l0, .int x, l2, l3, l4] (.int x :: S) σ := (ms_G_at rfl _ _ _).trans rfl
theorem mi_109_37 : ms_G 109 37 [l0, l1, l2, l3, .int x] S σ = ms_G 109 39 [l0, l1, l2, l3, .int x] (.int x :: S) σ := (ms_G_at rfl _ _ _).trans rfl
theorem mi_109_39 : ms_G 109 39 L (.int y :: .int x :: S) σ = ms_G 109 40 L (.int (x - y) :: S) σ := (ms_G_at rfl _ _ _).trans rfl
theorem mi_109_40 : ms_G 109 40 L (.int (nI i) :: .ref (ms_ad r u) :: S) (ms_Z q w I J) = cond (mo_1 q.1 r u i) (ms_G 109 41 L (.long (J r u i) :: S) (ms_Z q w I J)) (ms_raw 109 40 L (.int (nI i) :: .ref (ms_ad r u) :: S) (ms_Z q w I J)) := mz_lald rfl
theorem mi_109_41 : ms_G 109 41 L (.long Y :: .long X :: S) σ = ms_G 109 42 L (.long (X * Y) :: S) σ := (ms_G_at rfl _ _ _).trans rfl
theorem mi_109_42 : ms_G 109 42 L S σ = ms_G 109 68 L S σ := (ms_G_at rfl _ _ _).trans rfl
theorem mi_109_45 : ms_G 109 45 L S σ = ms_G 109 48 L (.long (lN 5) :: S) σ := (ms_G_at rfl _ _ _).trans rfl
theorem mi_109_48 : ms_G 109 48 [.ref a, l1, l2, l3, l4] S σ = ms_G 109 49 [.ref a, l1, l2, l3, l4] (.ref a :: S) σ := (ms_G_at rfl _ _ _).trans rfl
theorem mi_109_49 : ms_G 109 49 L (.ref (ms_ad 8 0) :: S) (ms_Z q w I J) = ms_G 109 52 L (.ref (ms_ad 10 0) :: S) (ms_Z q w I J) := mz_getf (c := (2, 10)) rfl (by decide) rfl (by decide) rfl
theorem mi_109_52 : ms_G 109 52 [l0, l1, l2, l3, .int x] S σ = ms_G 109 54 [l0, l1, l2, l3, .int x] (.int x :: S) σ := (ms_G_at rfl _ _ _).trans rfl
theorem mi_109_54 : ms_G 109 54 L (.int (nI i) :: .ref (ms_ad r u) :: S) (ms_Z q w I J) = cond (mo_1 q.1 r u i) (ms_G 109 55 L (.long (J r u i) :: S) (ms_Z q w I J)) (ms_raw 109 54 L (.int (nI i) :: .ref (ms_ad r u) :: S) (ms_Z q w I J)) := mz_lald rfl
theorem mi_109_55 : ms_G 109 55 L (.long Y :: .long X :: S) σ = ms_G 109 56 L (.long (X * Y) :: S) σ := (ms_G_at rfl _ _ _).trans rfl
theorem mi_109_56 : ms_G 109 56 [.ref a, l1, l2, l3, l4] S σ = ms_G 109 57 [.ref a, l1, l2, l3, l4] (.ref a :: S) σ := (ms_G_at rfl _ _ _).trans rfl
theorem mi_109_57 : ms_G 109 57 L (.ref (ms_ad 8 0) :: S) (ms_Z q w I J) = ms_G 109 60 L (.ref (ms_ad 9 0) :: S) (ms_Z q w I J) := mz_getf (c := (2, 9)) rfl (by decide) rfl (by decide) rfl
theorem mi_109_60 : ms_G 109 60 L S σ = ms_G 109 61 L (.int (nI 5) :: S) σ := (ms_G_at rfl _ _ _).trans rfl
theorem mi_109_61 : ms_G 109 61 [l0, .int x, l2, l3, l4] S σ = ms_G 109 62 [l0, .int x, l2, l3, l4] (.int x :: S) σ := (ms_G_at rfl _ _ _).trans rfl
theorem mi_109_62 : ms_G 109 62 L (.int y :: .int x :: S) σ = ms_G 109 63 L (.int (x + y) :: S) σ := (ms_G_at rfl _ _ _).trans rfl
theorem mi_109_63 : ms_G 109 63 [l0, l1, l2, l3, .int x] S σ = ms_G 109 65 [l0, l1, l2, l3, .int x] (.int x :: S) σ := (ms_G_at rfl _ _ _).trans rfl
theorem mi_109_65 : ms_G 109 65 L (.int y :: .int x :: S) σ = ms_G 109 66 L (.int (x - y) :: S) σ := (ms_G_at rfl _ _ _).trans rfl
theorem mi_109_66 : ms_G 109 66 L (.int (nI i) :: .ref (ms_ad r u) :: S) (ms_Z q w I J) = cond (mo_1 q.1 r u i) (ms_G 109 67 L (.long (J r u i) :: S) (ms_Z q w I J)) (ms_raw 109 66 L (.int (nI i) :: .ref (ms_ad r u) :: S) (ms_Z q w I J)) := mz_lald rfl
theorem mi_109_67 : ms_G 109 67 L (.long Y :: .long X :: S) σ = ms_G 109 68 L (.long (X * Y) :: S) σ := (ms_G_at rfl _ _ _).trans rfl
theorem mi_109_68 : ms_G 109 68 L (.long Y :: .long X :: S) σ = ms_G 109 69 L (.long (X + Y) :: S) σ := (ms_G_at rfl _ _ _).trans rfl
theorem mi_109_69 : ms_G 109 69 [l0, .int y, l2, l3, l4] (.long X :: S) σ = ms_G 109 70 [l0, .int y, .long X, .null, l4] S σ := (ms_G_at rfl _ _ _).trans rfl
theorem mi_109_70 : ms_G 109 70 [l0, l1, l2, .null, .int x] S σ = ms_G 109 73 [l0, l1, l2, .null, .int (x + nI 1)] S σ := (ms_G_at rfl _ _ _).trans rfl
theorem mi_109_73 : ms_G 109 73 L S σ = ms_G 109 12 L S σ := (ms_G_at rfl _ _ _).trans rfl
theorem mi_109_76 : ms_G 109 76 [.ref a, l1, l2, l3, l4] S σ = ms_G 109 77 [.ref a, l1, l2, l3, l4] (.ref a :: S) σ := (ms_G_at rfl _ _ _).trans rfl
theorem mi_109_77 : ms_G 109 77 L (.ref (ms_ad 8 0) :: S) (ms_Z q w I J) = ms_G 109 80 L (.ref (ms_ad 11 0) :: S) (ms_Z q w I J) := mz_getf (c := (2, 11)) rfl (by decide) rfl (by decide) rfl
theorem mi_109_80 : ms_G 109 80 [l0, .int x, l2, l3, l4] S σ = ms_G 109 81 [l0, .int x, l2, l3, l4] (.int x :: S) σ := (ms_G_at rfl _ _ _).trans rfl
theorem mi_109_81 : ms_G 109 81 [l0, l1, .long X, l3, l4] S σ = ms_G 109 82 [l0, l1, .long X, l3, l4] (.long X :: S) σ := (ms_G_at rfl _ _ _).trans rfl
theorem mi_109_82 : ms_G 109 82 L (.long X :: .int (nI i) :: .ref (ms_ad r u) :: S) (ms_Z q w I J) = cond (mo_1 q.1 r u i) (ms_G 109 83 L S (ms_Z q true I (ms_u J r u (vp_updL (J r u) i X)))) (ms_raw 109 82 L (.long X :: .int (nI i) :: .ref (ms_ad r u) :: S) (ms_Z q w I J)) := mz_last rfl X
theorem mi_109_83 : ms_G 109 83 [.ref b, .int x, l2, l3, l4] S σ = ms_G 109 86 [.ref b, .int (x + nI 1), l2, l3, l4] S σ := (ms_G_at rfl _ _ _).trans rfl
theorem mi_109_86 : ms_G 109 86 L S σ = ms_G 109 2 L S σ := (ms_G_at rfl _ _ _).trans rfl
theorem mi_109_89 : ms_G 109 89 [.ref a, l1, l2, l3, l4] S σ = ms_G 109 90 [.ref a, l1, l2, l3, l4] (.ref a :: S) σ := (ms_G_at rfl _ _ _).trans rfl
theorem mi_109_90 : ms_G 109 90 L (.ref (ms_ad 8 0) :: S) (ms_Z q w I J) = ms_G 109 93 L (.ref (ms_ad 11 0) :: S) (ms_Z q w I J) := mz_getf (c := (2, 11)) rfl (by decide) rfl (by decide) rfl
theorem mi_109_93 : ms_G 109 93 L S σ = ms_G 109 94 L (.int (nI 0) :: S) σ := (ms_G_at rfl _ _ _).trans rfl
theorem mi_109_94 : ms_G 109 94 [.ref a, l1, l2, l3, l4] S σ = ms_G 109 95 [.ref a, l1, l2, l3, l4] (.ref a :: S) σ := (ms_G_at rfl _ _ _).trans rfl
theorem mi_109_95 : ms_G 109 95 L (.ref (ms_ad 8 0) :: S) (ms_Z q w I J) = ms_G 109 98 L (.ref (ms_ad 10 0) :: S) (ms_Z q w I J) := mz_getf (c := (2, 10)) rfl (by decide) rfl (by decide) rfl
theorem mi_109_98 : ms_G 109 98 L S σ = ms_G 109 99 L (.int (nI 0) :: S) σ := (ms_G_at rfl _ _ _).trans rfl
theorem mi_109_99 : ms_G 109 99 L S σ = ms_G 109 100 L (.int (nI 5) :: S) σ := (ms_G_at rfl _ _ _).trans rfl
theorem mi_109_100 : ms_G 109 100 L (.int (nI n) :: .int (nI dp) :: .ref (ms_ad r' u') :: .int (nI sp) :: .ref (ms_ad r u) :: []) (ms_Z q w I J) = cond (mo_d q.1 r u r' u' sp dp n) (ms_G 109 103 L [] (ms_Z q true I (ms_u J r' u' (va_cpy (J r u) (J r' u') sp dp n)))) (ms_raw 109 100 L (.int (nI n) :: .int (nI dp) :: .ref (ms_ad r' u') :: .int (nI sp) :: .ref (ms_ad r u) :: []) (ms_Z q w I J)) := mz_acpl rfl (Nat.le_of_ble_eq_true rfl)
theorem mi_109_103 : ms_G 109 103 L [] σ = some (.inl none, σ) := (ms_G_at rfl _ _ _).trans rfl
-- MaskedSum$Poly1305.carry()V
theorem mi_110_0 : ms_G 110 0 [.ref a, l1, l2] S σ = ms_G 110 1 [.ref a, l1, l2] (.ref a :: S) σ := (ms_G_at rfl _ _ _).trans rfl
theorem mi_110_1 : ms_G 110 1 L [.ref (ms_ad 8 0)] (ms_Z q w I J) = mo_cl 110 1 4 (ms_G 111 0 [.ref (ms_ad 8 0), .null, .null, .null] [] (ms_Z q false I J)) w L [] := (mz_call rfl rfl (mz_can1 rfl rfl rfl rfl rfl (by decide) rfl (by decide))).trans rfl
theorem mi_110_4 : ms_G 110 4 [.ref b, l1, l2] (.long X :: S) σ = ms_G 110 5 [.ref b, .long X, .null] S σ := (ms_G_at rfl _ _ _).trans rfl
theorem mi_110_5 : ms_G 110 5 [.ref a, l1, l2] S σ = ms_G 110 6 [.ref a, l1, l2] (.ref a :: S) σ := (ms_G_at rfl _ _ _).trans rfl
theorem mi_110_6 : ms_G 110 6 L (.ref (ms_ad 8 0) :: S) (ms_Z q w I J) = ms_G 110 9 L (.ref (ms_ad 10 0) :: S) (ms_Z q w I J) := mz_getf (c := (2, 10)) rfl (by decide) rfl (by decide) rfl
theorem mi_110_9 : ms_G 110 9 L S σ = ms_G 110 10 L (.int (nI 0) :: S) σ := (ms_G_at rfl _ _ _).trans rfl
theorem mi_110_10 : ms_G 110 10 L (.int x :: .ref b :: S) σ = ms_G 110 11 L (.int x :: .ref b :: .int x :: .ref b :: S) σ := (ms_G_at rfl _ _ _).trans rfl
theorem mi_110_11 : ms_G 110 11 L (.int (nI i) :: .ref (ms_ad r u) :: S) (ms_Z q w I J) = cond (mo_1 q.1 r u i) (ms_G 110 12 L (.long (J r u i) :: S) (ms_Z q w I J)) (ms_raw 110 11 L (.int (nI i) :: .ref (ms_ad r u) :: S) (ms_Z q w I J)) := mz_lald rfl
theorem mi_110_12 : ms_G 110 12 L S σ = ms_G 110 15 L (.long (lN 5) :: S) σ := (ms_G_at rfl _ _ _).trans rfl
theorem mi_110_15 : ms_G 110 15 [l0, .long X, l2] S σ = ms_G 110 16 [l0, .long X, l2] (.long X :: S) σ := (ms_G_at rfl _ _ _).trans rfl
theorem mi_110_16 : ms_G 110 16 L (.long Y :: .long X :: S) σ = ms_G 110 17 L (.long (X * Y) :: S) σ := (ms_G_at rfl _ _ _).trans rfl
theorem mi_110_17 : ms_G 110 17 L (.long Y :: .long X :: S) σ = ms_G 110 18 L (.long (X + Y) :: S) σ := (ms_G_at rfl _ _ _).trans rfl
theorem mi_110_18 : ms_G 110 18 L (.long X :: .int (nI i) :: .ref (ms_ad r u) :: S) (ms_Z q w I J) = cond (mo_1 q.1 r u i) (ms_G 110 19 L S (ms_Z q true I (ms_u J r u (vp_updL (J r u) i X)))) (ms_raw 110 18 L (.long X :: .int (nI i) :: .ref (ms_ad r u) :: S) (ms_Z q w I J)) := mz_last rfl X
theorem mi_110_19 : ms_G 110 19 [.ref a, l1, l2] S σ = ms_G 110 20 [.ref a, l1, l2] (.ref a :: S) σ := (ms_G_at rfl _ _ _).trans rfl
theorem mi_110_20 : ms_G 110 20 L (.ref (ms_ad 8 0) :: S) (ms_Z q w I J) = ms_G 110 23 L (.ref (ms_ad 10 0) :: S) (ms_Z q w I J) := mz_getf (c := (2, 10)) rfl (by decide) rfl (by decide) rfl
theorem mi_110_23 : ms_G 110 23 L S σ = ms_G 110 24 L (.int (nI 1) :: S) σ := (ms_G_at rfl _ _ _).trans rfl
theorem mi_110_24 : ms_G 110 24 L (.int x :: .ref b :: S) σ = ms_G 110 25 L (.int x :: .ref b :: .int x :: .ref b :: S) σ := (ms_G_at rfl _ _ _).trans rfl
theorem mi_110_25 : ms_G 110 25 L (.int (nI i) :: .ref (ms_ad r u) :: S) (ms_Z q w I J) = cond (mo_1 q.1 r u i) (ms_G 110 26 L (.long (J r u i) :: S) (ms_Z q w I J)) (ms_raw 110 25 L (.int (nI i) :: .ref (ms_ad r u) :: S) (ms_Z q w I J)) := mz_lald rfl
theorem mi_110_26 : ms_G 110 26 [.ref a, l1, l2] S σ = ms_G 110 27 [.ref a, l1, l2] (.ref a :: S) σ := (ms_G_at rfl _ _ _).trans rfl
theorem mi_110_27 : ms_G 110 27 L (.ref (ms_ad 8 0) :: S) (ms_Z q w I J) = ms_G 110 30 L (.ref (ms_ad 10 0) :: S) (ms_Z q w I J) := mz_getf (c := (2, 10)) rfl (by decide) rfl (by decide) rfl
theorem mi_110_30 : ms_G 110 30 L S σ = ms_G 110 31 L (.int (nI 0) :: S) σ := (ms_G_at rfl _ _ _).trans rfl
theorem mi_110_31 : ms_G 110 31 L (.int (nI i) :: .ref (ms_ad r u) :: S) (ms_Z q w I J) = cond (mo_1 q.1 r u i) (ms_G 110 32 L (.long (J r u i) :: S) (ms_Z q w I J)) (ms_raw 110 31 L (.int (nI i) :: .ref (ms_ad r u) :: S) (ms_Z q w I J)) := mz_lald rfl
theorem mi_110_32 : ms_G 110 32 L S σ = ms_G 110 34 L (.int (nI 26) :: S) σ := (ms_G_at rfl _ _ _).trans rfl
theorem mi_110_34 : ms_G 110 34 L (.int y :: .long X :: S) σ = ms_G 110 35 L (.long ((X.toUInt64 >>> (y.toInt64.toUInt64 &&& Int64.toUInt64 63)).toInt64) :: S) σ := (ms_G_at rfl _ _ _).trans rfl
theorem mi_110_35 : ms_G 110 35 L (.long Y :: .long X :: S) σ = ms_G 110 36 L (.long (X + Y) :: S) σ := (ms_G_at rfl _ _ _).trans rfl
theorem mi_110_36 : ms_G 110 36 L (.long X :: .int (nI i) :: .ref (ms_ad r u) :: S) (ms_Z q w I J) = cond (mo_1 q.1 r u i) (ms_G 110 37 L S (ms_Z q true I (ms_u J r u (vp_updL (J r u) i X)))) (ms_raw 110 36 L (.long X :: .int (nI i) :: .ref (ms_ad r u) :: S) (ms_Z q w I J)) := mz_last rfl X
theorem mi_110_37 : ms_G 110 37 [.ref a, l1, l2] S σ = ms_G 110 38 [.ref a, l1, l2] (.ref a :: S) σ := (ms_G_at rfl _ _ _).trans rfl
theorem mi_110_38 : ms_G 110 38 L (.ref (ms_ad 8 0) :: S) (ms_Z q w I J) = ms_G 110 41 L (.ref (ms_ad 10 0) :: S) (ms_Z q w I J) := mz_getf (c := (2, 10)) rfl (by decide) rfl (by decide) rfl
theorem mi_110_41 : ms_G 110 41 L S σ = ms_G 110 42 L (.int (nI 0) :: S) σ := (ms_G_at rfl _ _ _).trans rfl
theorem mi_110_42 : ms_G 110 42 L (.int x :: .ref b :: S) σ = ms_G 110 43 L (.int x :: .ref b :: .int x :: .ref b :: S) σ := (ms_G_at rfl _ _ _).trans rfl
theorem mi_110_43 : ms_G 110 43 L (.int (nI i) :: .ref (ms_ad r u) :: S) (ms_Z q w I J) = cond (mo_1 q.1 r u i) (ms_G 110 44 L (.long (J r u i) :: S) (ms_Z q w I J)) (ms_raw 110 43 L (.int (nI i) :: .ref (ms_ad r u) :: S) (ms_Z q w I J)) := mz_lald rfl
theorem mi_110_44 : ms_G 110 44 L S σ = ms_G 110 47 L (.long (lN 67108863) :: S) σ := (ms_G_at rfl _ _ _).trans rfl
theorem mi_110_47 : ms_G 110 47 L (.long Y :: .long X :: S) σ = ms_G 110 48 L (.long (X &&& Y) :: S) σ := (ms_G_at rfl _ _ _).trans rfl
theorem mi_110_48 : ms_G 110 48 L (.long X :: .int (nI i) :: .ref (ms_ad r u) :: S) (ms_Z q w I J) = cond (mo_1 q.1 r u i) (ms_G 110 49 L S (ms_Z q true I (ms_u J r u (vp_updL (J r u) i X)))) (ms_raw 110 48 L (.long X :: .int (nI i) :: .ref (ms_ad r u) :: S) (ms_Z q w I J)) := mz_last rfl X
theorem mi_110_49 : ms_G 110 49 L [] σ = some (.inl none, σ) := (ms_G_at rfl _ _ _).trans rfl
-- MaskedSum$Poly1305.carryUp()J
theorem mi_111_0 : ms_G 111 0 L S σ = ms_G 111 1 L (.long (lN 0) :: S) σ := (ms_G_at rfl _ _ _).trans rfl
theorem mi_111_1 : ms_G 111 1 [.ref b, l1, l2, l3] (.long X :: S) σ = ms_G 111 2 [.ref b, .long X, .null, l3] S σ := (ms_G_at rfl _ _ _).trans rfl
theorem mi_111_2 : ms_G 111 2 L S σ = ms_G 111 3 L (.int (nI 0) :: S) σ := (ms_G_at rfl _ _ _).trans rfl
theorem mi_111_3 : ms_G 111 3 [l0, l1, .null, l3] (.int x :: S) σ = ms_G 111 4 [l0, l1, .null, .int x] S σ := (ms_G_at rfl _ _ _).trans rfl
theorem mi_111_4 : ms_G 111 4 [l0, l1, l2, .int x] S σ = ms_G 111 5 [l0, l1, l2, .int x] (.int x :: S) σ := (ms_G_at rfl _ _ _).trans rfl
theorem mi_111_5 : ms_G 111 5 L S σ = ms_G 111 6 L (.int (nI 5) :: S) σ := (ms_G_at rfl _ _ _).trans rfl
theorem mi_111_6 : ms_G 111 6 L (.int y :: .int x :: S) σ = if y ≤ x then ms_G 111 47 L S σ else ms_G 111 9 L S σ := mz_bra rfl rfl rfl
theorem mi_111_9 : ms_G 111 9 [.ref a, l1, l2, l3] S σ = ms_G 111 10 [.ref a, l1, l2, l3] (.ref a :: S) σ := (ms_G_at rfl _ _ _).trans rfl
theorem mi_111_10 : ms_G 111 10 L (.ref (ms_ad 8 0) :: S) (ms_Z q w I J) = ms_G 111 13 L (.ref (ms_ad 10 0) :: S) (ms_Z q w I J) := mz_getf (c := (2, 10)) rfl (by decide) rfl (by decide) rfl
theorem mi_111_13 : ms_G 111 13 [l0, l1, l2, .int x] S σ = ms_G 111 14 [l0, l1, l2, .int x] (.int x :: S) σ := (ms_G_at rfl _ _ _).trans rfl
theorem mi_111_14 : ms_G 111 14 L (.int x :: .ref b :: S) σ = ms_G 111 15 L (.int x :: .ref b :: .int x :: .ref b :: S) σ := (ms_G_at rfl _ _ _).trans rfl
theorem mi_111_15 : ms_G 111 15 L (.int (nI i) :: .ref (ms_ad r u) :: S) (ms_Z q w I J) = cond (mo_1 q.1 r u i) (ms_G 111 16 L (.long (J r u i) :: S) (ms_Z q w I J)) (ms_raw 111 15 L (.int (nI i) :: .ref (ms_ad r u) :: S) (ms_Z q w I J)) := mz_lald rfl
theorem mi_111_16 : ms_G 111 16 [l0, .long X, l2, l3] S σ = ms_G 111 17 [l0, .long X, l2, l3] (.long X :: S) σ := (ms_G_at rfl _ _ _).trans rfl
theorem mi_111_17 : ms_G 111 17 L (.long Y :: .long X :: S) σ = ms_G 111 18 L (.long (X + Y) :: S) σ := (ms_G_at rfl _ _ _).trans rfl
theorem mi_111_18 : ms_G 111 18 L (.long X :: .int (nI i) :: .ref (ms_ad r u) :: S) (ms_Z q w I J) = cond (mo_1 q.1 r u i) (ms_G 111 19 L S (ms_Z q true I (ms_u J r u (vp_updL (J r u) i X)))) (ms_raw 111 18 L (.long X :: .int (nI i) :: .ref (ms_ad r u) :: S) (ms_Z q w I J)) := mz_last rfl X
theorem mi_111_19 : ms_G 111 19 [.ref a, l1, l2, l3] S σ = ms_G 111 20 [.ref a, l1, l2, l3] (.ref a :: S) σ := (ms_G_at rfl _ _ _).trans rfl
theorem mi_111_20 : ms_G 111 20 L (.ref (ms_ad 8 0) :: S) (ms_Z q w I J) = ms_G 111 23 L (.ref (ms_ad 10 0) :: S) (ms_Z q w I J) := mz_getf (c := (2, 10)) rfl (by decide) rfl (by decide) rfl
theorem mi_111_23 : ms_G 111 23 [l0, l1, l2, .int x] S σ = ms_G 111 24 [l0, l1, l2, .int x] (.int x :: S) σ := (ms_G_at rfl _ _ _).trans rfl
theorem mi_111_24 : ms_G 111 24 L (.int (nI i) :: .ref (ms_ad r u) :: S) (ms_Z q w I J) = cond (mo_1 q.1 r u i) (ms_G 111 25 L (.long (J r u i) :: S) (ms_Z q w I J)) (ms_raw 111 24 L (.int (nI i) :: .ref (ms_ad r u) :: S) (ms_Z q w I J)) := mz_lald rfl
theorem mi_111_25 : ms_G 111 25 L S σ = ms_G 111 27 L (.int (nI 26) :: S) σ := (ms_G_at rfl _ _ _).trans rfl
theorem mi_111_27 : ms_G 111 27 L (.int y :: .long X :: S) σ = ms_G 111 28 L (.long ((X.toUInt64 >>> (y.toInt64.toUInt64 &&& Int64.toUInt64 63)).toInt64) :: S) σ := (ms_G_at rfl _ _ _).trans rfl
theorem mi_111_28 : ms_G 111 28 [.ref b, l1, l2, l3] (.long X :: S) σ = ms_G 111 29 [.ref b, .long X, .null, l3] S σ := (ms_G_at rfl _ _ _).trans rfl
theorem mi_111_29 : ms_G 111 29 [.ref a, l1, l2, l3] S σ = ms_G 111 30 [.ref a, l1, l2, l3] (.ref a :: S) σ := (ms_G_at rfl _ _ _).trans rfl
theorem mi_111_30 : ms_G 111 30 L (.ref (ms_ad 8 0) :: S) (ms_Z q w I J) = ms_G 111 33 L (.ref (ms_ad 10 0) :: S) (ms_Z q w I J) := mz_getf (c := (2, 10)) rfl (by decide) rfl (by decide) rfl
theorem mi_111_33 : ms_G 111 33 [l0, l1, l2, .int x] S σ = ms_G 111 34 [l0, l1, l2, .int x] (.int x :: S) σ := (ms_G_at rfl _ _ _).trans rfl
theorem mi_111_34 : ms_G 111 34 L (.int x :: .ref b :: S) σ = ms_G 111 35 L (.int x :: .ref b :: .int x :: .ref b :: S) σ := (ms_G_at rfl _ _ _).trans rfl
theorem mi_111_35 : ms_G 111 35 L (.int (nI i) :: .ref (ms_ad r u) :: S) (ms_Z q w I J) = cond (mo_1 q.1 r u i) (ms_G 111 36 L (.long (J r u i) :: S) (ms_Z q w I J)) (ms_raw 111 35 L (.int (nI i) :: .ref (ms_ad r u) :: S) (ms_Z q w I J)) := mz_lald rfl
theorem mi_111_36 : ms_G 111 36 L S σ = ms_G 111 39 L (.long (lN 67108863) :: S) σ := (ms_G_at rfl _ _ _).trans rfl
theorem mi_111_39 : ms_G 111 39 L (.long Y :: .long X :: S) σ = ms_G 111 40 L (.long (X &&& Y) :: S) σ := (ms_G_at rfl _ _ _).trans rfl
theorem mi_111_40 : ms_G 111 40 L (.long X :: .int (nI i) :: .ref (ms_ad r u) :: S) (ms_Z q w I J) = cond (mo_1 q.1 r u i) (ms_G 111 41 L S (ms_Z q true I (ms_u J r u (vp_updL (J r u) i X)))) (ms_raw 111 40 L (.long X :: .int (nI i) :: .ref (ms_ad r u) :: S) (ms_Z q w I J)) := mz_last rfl X
theorem mi_111_41 : ms_G 111 41 [l0, l1, .null, .int x] S σ = ms_G 111 44 [l0, l1, .null, .int (x + nI 1)] S σ := (ms_G_at rfl _ _ _).trans rfl
theorem mi_111_44 : ms_G 111 44 L S σ = ms_G 111 4 L S σ := (ms_G_at rfl _ _ _).trans rfl
theorem mi_111_47 : ms_G 111 47 [l0, .long X, l2, l3] S σ = ms_G 111 48 [l0, .long X, l2, l3] (.long X :: S) σ := (ms_G_at rfl _ _ _).trans rfl
theorem mi_111_48 : ms_G 111 48 L [.long X] σ = some (.inl (some (.long X)), σ) := (ms_G_at rfl _ _ _).trans rfl
-- MaskedSum$Poly1305.finish()V
theorem mi_112_0 : ms_G 112 0 [.ref a, l1, l2, l3] S σ = ms_G 112 1 [.ref a, l1, l2, l3] (.ref a :: S) σ := (ms_G_at rfl _ _ _).trans rfl
theorem mi_112_1 : ms_G 112 1 L [.ref (ms_ad 8 0)] (ms_Z q w I J) = mo_cl 112 1 4 (ms_G 110 0 [.ref (ms_ad 8 0), .null, .null] [] (ms_Z q false I J)) w L [] := (mz_call rfl rfl (mz_can1 rfl rfl rfl rfl rfl (by decide) rfl (by decide))).trans rfl
theorem mi_112_4 : ms_G 112 4 [.ref a, l1, l2, l3] S σ = ms_G 112 5 [.ref a, l1, l2, l3] (.ref a :: S) σ := (ms_G_at rfl _ _ _).trans rfl
theorem mi_112_5 : ms_G 112 5 L [.ref (ms_ad 8 0)] (ms_Z q w I J) = mo_cl 112 5 8 (ms_G 113 0 [.ref (ms_ad 8 0)] [] (ms_Z q false I J)) w L [] := (mz_call rfl rfl (mz_can1 rfl rfl rfl rfl rfl (by decide) rfl (by decide))).trans rfl
theorem mi_112_8 : ms_G 112 8 L (.int x :: S) σ = if x = nI 0 then ms_G 112 28 L S σ else ms_G 112 11 L S σ := mz_bra rfl rfl rfl
theorem mi_112_11 : ms_G 112 11 [.ref a, l1, l2, l3] S σ = ms_G 112 12 [.ref a, l1, l2, l3] (.ref a :: S) σ := (ms_G_at rfl _ _ _).trans rfl
theorem mi_112_12 : ms_G 112 12 L (.ref (ms_ad 8 0) :: S) (ms_Z q w I J) = ms_G 112 15 L (.ref (ms_ad 10 0) :: S) (ms_Z q w I J) := mz_getf (c := (2, 10)) rfl (by decide) rfl (by decide) rfl
theorem mi_112_15 : ms_G 112 15 L S σ = ms_G 112 16 L (.int (nI 0) :: S) σ := (ms_G_at rfl _ _ _).trans rfl
theorem mi_112_16 : ms_G 112 16 L (.int x :: .ref b :: S) σ = ms_G 112 17 L (.int x :: .ref b :: .int x :: .ref b :: S) σ := (ms_G_at rfl _ _ _).trans rfl
theorem mi_112_17 : ms_G 112 17 L (.int (nI i) :: .ref (ms_ad r u) :: S) (ms_Z q w I J) = cond (mo_1 q.1 r u i) (ms_G 112 18 L (.long (J r u i) :: S) (ms_Z q w I J)) (ms_raw 112 17 L (.int (nI i) :: .ref (ms_ad r u) :: S) (ms_Z q w I J)) := mz_lald rfl
theorem mi_112_18 : ms_G 112 18 L S σ = ms_G 112 21 L (.long (lN 5) :: S) σ := (ms_G_at rfl _ _ _).trans rfl
theorem mi_112_21 : ms_G 112 21 L (.long Y :: .long X :: S) σ = ms_G 112 22 L (.long (X + Y) :: S) σ := (ms_G_at rfl _ _ _).trans rfl
theorem mi_112_22 : ms_G 112 22 L (.long X :: .int (nI i) :: .ref (ms_ad r u) :: S) (ms_Z q w I J) = cond (mo_1 q.1 r u i) (ms_G 112 23 L S (ms_Z q true I (ms_u J r u (vp_updL (J r u) i X)))) (ms_raw 112 22 L (.long X :: .int (nI i) :: .ref (ms_ad r u) :: S) (ms_Z q w I J)) := mz_last rfl X
theorem mi_112_23 : ms_G 112 23 [.ref a, l1, l2, l3] S σ = ms_G 112 24 [.ref a, l1, l2, l3] (.ref a :: S) σ := (ms_G_at rfl _ _ _).trans rfl
theorem mi_112_24 : ms_G 112 24 L [.ref (ms_ad 8 0)] (ms_Z q w I J) = mo_cl 112 24 27 (ms_G 111 0 [.ref (ms_ad 8 0), .null, .null, .null] [] (ms_Z q false I J)) w L [] := (mz_call rfl rfl (mz_can1 rfl rfl rfl rfl rfl (by decide) rfl (by decide))).trans rfl
theorem mi_112_27 : ms_G 112 27 L (.long X :: S) σ = ms_G 112 28 L S σ := (ms_G_at rfl _ _ _).trans rfl
theorem mi_112_28 : ms_G 112 28 L S σ = ms_G 112 29 L (.long (lN 0) :: S) σ := (ms_G_at rfl _ _ _).trans rfl
theorem mi_112_29 : ms_G 112 29 [.ref b, l1, l2, l3] (.long X :: S) σ = ms_G 112 30 [.ref b, .long X, .null, l3] S σ := (ms_G_at rfl _ _ _).trans rfl
theorem mi_112_30 : ms_G 112 30 L S σ = ms_G 112 31 L (.int (nI 0) :: S) σ := (ms_G_at rfl _ _ _).trans rfl
theorem mi_112_31 : ms_G 112 31 [l0, l1, .null, l3] (.int x :: S) σ = ms_G 112 32 [l0, l1, .null, .int x] S σ := (ms_G_at rfl _ _ _).trans rfl
theorem mi_112_32 : ms_G 112 32 [l0, l1, l2, .int x] S σ = ms_G 112 33 [l0, l1, l2, .int x] (.int x :: S) σ := (ms_G_at rfl _ _ _).trans rfl
theorem mi_112_33 : ms_G 112 33 L S σ = ms_G 112 34 L (.int (nI 4) :: S) σ := (ms_G_at rfl _ _ _).trans rfl
theorem mi_112_34 : ms_G 112 34 L (.int y :: .int x :: S) σ = if y ≤ x then ms_G 112 81 L S σ else ms_G 112 37 L S σ := mz_bra rfl rfl rfl
theorem mi_112_37 : ms_G 112 37 [l0, .long X, l2, l3] S σ = ms_G 112 38 [l0, .long X, l2, l3] (.long X :: S) σ := (ms_G_at rfl _ _ _).trans rfl
theorem mi_112_38 : ms_G 112 38 [.ref a, l1, l2, l3] S σ = ms_G 112 39 [.ref a, l1, l2, l3] (.ref a :: S) σ := (ms_G_at rfl _ _ _).trans rfl
theorem mi_112_39 : ms_G 112 39 [l0, l1, l2, .int x] S σ = ms_G 112 40 [l0, l1, l2, .int x] (.int x :: S) σ := (ms_G_at rfl _ _ _).trans rfl
theorem mi_112_40 : ms_G 112 40 L (.int x0 :: .ref (ms_ad 8 0) :: [.long f0]) (ms_Z q w I J) = mo_cl 112 40 43 (ms_G 114 0 [.ref (ms_ad 8 0), .int x0, .null] [] (ms_Z q false I J)) w L [.long f0] := (mz_call rfl rfl (mz_can1 rfl rfl rfl rfl rfl (by decide) rfl (by decide))).trans rfl
theorem mi_112_43 : ms_G 112 43 L (.int x :: S) σ = ms_G 112 44 L (.long x.toInt64 :: S) σ := (ms_G_at rfl _ _ _).trans rfl
theorem mi_112_44 : ms_G 112 44 L S σ = ms_G 112 47 L (.long (lN 4294967295) :: S) σ := (ms_G_at rfl _ _ _).trans rfl
theorem mi_112_47 : ms_G 112 47 L (.long Y :: .long X :: S) σ = ms_G 112 48 L (.long (X &&& Y) :: S) σ := (ms_G_at rfl _ _ _).trans rfl
theorem mi_112_48 : ms_G 112 48 [.ref a, l1, l2, l3] S σ = ms_G 112 49 [.ref a, l1, l2, l3] (.ref a :: S) σ := (ms_G_at rfl _ _ _).trans rfl
theorem mi_112_49 : ms_G 112 49 L (.ref (ms_ad 8 0) :: S) (ms_Z q w I J) = ms_G 112 52 L (.ref (ms_ad 12 0) :: S) (ms_Z q w I J) := mz_getf (c := (2, 12)) rfl (by decide) rfl (by decide) rfl
theorem mi_112_52 : ms_G 112 52 [l0, l1, l2, .int x] S σ = ms_G 112 53 [l0, l1, l2, .int x] (.int x :: S) σ := (ms_G_at rfl _ _ _).trans rfl
theorem mi_112_53 : ms_G 112 53 L (.int (nI i) :: .ref (ms_ad r u) :: S) (ms_Z q w I J) = cond (mo_0 q.1 r u i) (ms_G 112 54 L (.int (I r u i) :: S) (ms_Z q w I J)) (ms_raw 112 53 L (.int (nI i) :: .ref (ms_ad r u) :: S) (ms_Z q w I J)) := mz_iald rfl
theorem mi_112_54 : ms_G 112 54 L (.int x :: S) σ = ms_G 112 55 L (.long x.toInt64 :: S) σ := (ms_G_at rfl _ _ _).trans rfl
theorem mi_112_55 : ms_G 112 55 L S σ = ms_G 112 58 L (.long (lN 4294967295) :: S) σ := (ms_G_at rfl _ _ _).trans rfl
theorem mi_112_58 : ms_G 112 58 L (.long Y :: .long X :: S) σ = ms_G 112 59 L (.long (X &&& Y) :: S) σ := (ms_G_at rfl _ _ _).trans rfl
theorem mi_112_59 : ms_G 112 59 L (.long Y :: .long X :: S) σ = ms_G 112 60 L (.long (X + Y) :: S) σ := (ms_G_at rfl _ _ _).trans rfl
theorem mi_112_60 : ms_G 112 60 L (.long Y :: .long X :: S) σ = ms_G 112 61 L (.long (X + Y) :: S) σ := (ms_G_at rfl _ _ _).trans rfl
theorem mi_112_61 : ms_G 112 61 [.ref b, l1, l2, l3] (.long X :: S) σ = ms_G 112 62 [.ref b, .long X, .null, l3] S σ := (ms_G_at rfl _ _ _).trans rfl
theorem mi_112_62 : ms_G 112 62 [.ref a, l1, l2, l3] S σ = ms_G 112 63 [.ref a, l1, l2, l3] (.ref a :: S) σ := (ms_G_at rfl _ _ _).trans rfl
theorem mi_112_63 : ms_G 112 63 L (.ref (ms_ad 8 0) :: S) (ms_Z q w I J) = ms_G 112 66 L (.ref (ms_ad 13 0) :: S) (ms_Z q w I J) := mz_getf (c := (2, 13)) rfl (by decide) rfl (by decide) rfl
theorem mi_112_66 : ms_G 112 66 [l0, l1, l2, .int x] S σ = ms_G 112 67 [l0, l1, l2, .int x] (.int x :: S) σ := (ms_G_at rfl _ _ _).trans rfl
theorem mi_112_67 : ms_G 112 67 [l0, .long X, l2, l3] S σ = ms_G 112 68 [l0, .long X, l2, l3] (.long X :: S) σ := (ms_G_at rfl _ _ _).trans rfl
theorem mi_112_68 : ms_G 112 68 L (.long X :: S) σ = ms_G 112 69 L (.int X.toInt32 :: S) σ := (ms_G_at rfl _ _ _).trans rfl
theorem mi_112_69 : ms_G 112 69 L (.int x :: .int (nI i) :: .ref (ms_ad r u) :: S) (ms_Z q w I J) = cond (mo_0 q.1 r u i) (ms_G 112 70 L S (ms_Z q true (ms_u I r u (upd (I r u) i x)) J)) (ms_raw 112 69 L (.int x :: .int (nI i) :: .ref (ms_ad r u) :: S) (ms_Z q w I J)) := mz_iast rfl x
theorem mi_112_70 : ms_G 112 70 [l0, .long X, l2, l3] S σ = ms_G 112 71 [l0, .long X, l2, l3] (.long X :: S) σ := (ms_G_at rfl _ _ _).trans rfl
theorem mi_112_71 : ms_G 112 71 L S σ = ms_G 112 73 L (.int (nI 32) :: S) σ := (ms_G_at rfl _ _ _).trans rfl
theorem mi_112_73 : ms_G 112 73 L (.int y :: .long X :: S) σ = ms_G 112 74 L (.long ((X.toUInt64 >>> (y.toInt64.toUInt64 &&& Int64.toUInt64 63)).toInt64) :: S) σ := (ms_G_at rfl _ _ _).trans rfl
theorem mi_112_74 : ms_G 112 74 [.ref b, l1, l2, l3] (.long X :: S) σ = ms_G 112 75 [.ref b, .long X, .null, l3] S σ := (ms_G_at rfl _ _ _).trans rfl
theorem mi_112_75 : ms_G 112 75 [l0, l1, .null, .int x] S σ = ms_G 112 78 [l0, l1, .null, .int (x + nI 1)] S σ := (ms_G_at rfl _ _ _).trans rfl
theorem mi_112_78 : ms_G 112 78 L S σ = ms_G 112 32 L S σ := (ms_G_at rfl _ _ _).trans rfl
theorem mi_112_81 : ms_G 112 81 L [] σ = some (.inl none, σ) := (ms_G_at rfl _ _ _).trans rfl
-- MaskedSum$Poly1305.reachesPrime()Z
theorem mi_113_0 : ms_G 113 0 [.ref a] S σ = ms_G 113 1 [.ref a] (.ref a :: S) σ := (ms_G_at rfl _ _ _).trans rfl
theorem mi_113_1 : ms_G 113 1 L (.ref (ms_ad 8 0) :: S) (ms_Z q w I J) = ms_G 113 4 L (.ref (ms_ad 10 0) :: S) (ms_Z q w I J) := mz_getf (c := (2, 10)) rfl (by decide) rfl (by decide) rfl
theorem mi_113_4 : ms_G 113 4 L S σ = ms_G 113 5 L (.int (nI 0) :: S) σ := (ms_G_at rfl _ _ _).trans rfl
theorem mi_113_5 : ms_G 113 5 L (.int (nI i) :: .ref (ms_ad r u) :: S) (ms_Z q w I J) = cond (mo_1 q.1 r u i) (ms_G 113 6 L (.long (J r u i) :: S) (ms_Z q w I J)) (ms_raw 113 5 L (.int (nI i) :: .ref (ms_ad r u) :: S) (ms_Z q w I J)) := mz_lald rfl
theorem mi_113_6 : ms_G 113 6 L S σ = ms_G 113 9 L (.long (lN 67108859) :: S) σ := (ms_G_at rfl _ _ _).trans rfl
theorem mi_113_9 : ms_G 113 9 L (.long Y :: .long X :: S) σ = ms_G 113 10 L (.int (lg_cmp X Y) :: S) σ := (ms_G_at rfl _ _ _).trans rfl
theorem mi_113_10 : ms_G 113 10 L (.int x :: S) σ = if x < nI 0 then ms_G 113 69 L S σ else ms_G 113 13 L S σ := mz_bra rfl rfl rfl
theorem mi_113_13 : ms_G 113 13 [.ref a] S σ = ms_G 113 14 [.ref a] (.ref a :: S) σ := (ms_G_at rfl _ _ _).trans rfl
theorem mi_113_14 : ms_G 113 14 L (.ref (ms_ad 8 0) :: S) (ms_Z q w I J) = ms_G 113 17 L (.ref (ms_ad 10 0) :: S) (ms_Z q w I J) := mz_getf (c := (2, 10)) rfl (by decide) rfl (by decide) rfl
theorem mi_113_17 : ms_G 113 17 L S σ = ms_G 113 18 L (.int (nI 1) :: S) σ := (ms_G_at rfl _ _ _).trans rfl
theorem mi_113_18 : ms_G 113 18 L (.int (nI i) :: .ref (ms_ad r u) :: S) (ms_Z q w I J) = cond (mo_1 q.1 r u i) (ms_G 113 19 L (.long (J r u i) :: S) (ms_Z q w I J)) (ms_raw 113 18 L (.int (nI i) :: .ref (ms_ad r u) :: S) (ms_Z q w I J)) := mz_lald rfl
theorem mi_113_19 : ms_G 113 19 L S σ = ms_G 113 22 L (.long (lN 67108863) :: S) σ := (ms_G_at rfl _ _ _).trans rfl
theorem mi_113_22 : ms_G 113 22 L (.long Y :: .long X :: S) σ = ms_G 113 23 L (.int (lg_cmp X Y) :: S) σ := (ms_G_at rfl _ _ _).trans rfl
theorem mi_113_23 : ms_G 113 23 L (.int x :: S) σ = if x = nI 0 then ms_G 113 26 L S σ else ms_G 113 69 L S σ := mz_bra rfl rfl rfl
theorem mi_113_26 : ms_G 113 26 [.ref a] S σ = ms_G 113 27 [.ref a] (.ref a :: S) σ := (ms_G_at rfl _ _ _).trans rfl
theorem mi_113_27 : ms_G 113 27 L (.ref (ms_ad 8 0) :: S) (ms_Z q w I J) = ms_G 113 30 L (.ref (ms_ad 10 0) :: S) (ms_Z q w I J) := mz_getf (c := (2, 10)) rfl (by decide) rfl (by decide) rfl
theorem mi_113_30 : ms_G 113 30 L S σ = ms_G 113 31 L (.int (nI 2) :: S) σ := (ms_G_at rfl _ _ _).trans rfl
theorem mi_113_31 : ms_G 113 31 L (.int (nI i) :: .ref (ms_ad r u) :: S) (ms_Z q w I J) = cond (mo_1 q.1 r u i) (ms_G 113 32 L (.long (J r u i) :: S) (ms_Z q w I J)) (ms_raw 113 31 L (.int (nI i) :: .ref (ms_ad r u) :: S) (ms_Z q w I J)) := mz_lald rfl
theorem mi_113_32 : ms_G 113 32 L S σ = ms_G 113 35 L (.long (lN 67108863) :: S) σ := (ms_G_at rfl _ _ _).trans rfl
theorem mi_113_35 : ms_G 113 35 L (.long Y :: .long X :: S) σ = ms_G 113 36 L (.int (lg_cmp X Y) :: S) σ := (ms_G_at rfl _ _ _).trans rfl
theorem mi_113_36 : ms_G 113 36 L (.int x :: S) σ = if x = nI 0 then ms_G 113 39 L S σ else ms_G 113 69 L S σ := mz_bra rfl rfl rfl
theorem mi_113_39 : ms_G 113 39 [.ref a] S σ = ms_G 113 40 [.ref a] (.ref a :: S) σ := (ms_G_at rfl _ _ _).trans rfl
theorem mi_113_40 : ms_G 113 40 L (.ref (ms_ad 8 0) :: S) (ms_Z q w I J) = ms_G 113 43 L (.ref (ms_ad 10 0) :: S) (ms_Z q w I J) := mz_getf (c := (2, 10)) rfl (by decide) rfl (by decide) rfl
theorem mi_113_43 : ms_G 113 43 L S σ = ms_G 113 44 L (.int (nI 3) :: S) σ := (ms_G_at rfl _ _ _).trans rfl
theorem mi_113_44 : ms_G 113 44 L (.int (nI i) :: .ref (ms_ad r u) :: S) (ms_Z q w I J) = cond (mo_1 q.1 r u i) (ms_G 113 45 L (.long (J r u i) :: S) (ms_Z q w I J)) (ms_raw 113 44 L (.int (nI i) :: .ref (ms_ad r u) :: S) (ms_Z q w I J)) := mz_lald rfl
theorem mi_113_45 : ms_G 113 45 L S σ = ms_G 113 48 L (.long (lN 67108863) :: S) σ := (ms_G_at rfl _ _ _).trans rfl
theorem mi_113_48 : ms_G 113 48 L (.long Y :: .long X :: S) σ = ms_G 113 49 L (.int (lg_cmp X Y) :: S) σ := (ms_G_at rfl _ _ _).trans rfl
theorem mi_113_49 : ms_G 113 49 L (.int x :: S) σ = if x = nI 0 then ms_G 113 52 L S σ else ms_G 113 69 L S σ := mz_bra rfl rfl rfl
theorem mi_113_52 : ms_G 113 52 [.ref a] S σ = ms_G 113 53 [.ref a] (.ref a :: S) σ := (ms_G_at rfl _ _ _).trans rfl
theorem mi_113_53 : ms_G 113 53 L (.ref (ms_ad 8 0) :: S) (ms_Z q w I J) = ms_G 113 56 L (.ref (ms_ad 10 0) :: S) (ms_Z q w I J) := mz_getf (c := (2, 10)) rfl (by decide) rfl (by decide) rfl
theorem mi_113_56 : ms_G 113 56 L S σ = ms_G 113 57 L (.int (nI 4) :: S) σ := (ms_G_at rfl _ _ _).trans rfl
theorem mi_113_57 : ms_G 113 57 L (.int (nI i) :: .ref (ms_ad r u) :: S) (ms_Z q w I J) = cond (mo_1 q.1 r u i) (ms_G 113 58 L (.long (J r u i) :: S) (ms_Z q w I J)) (ms_raw 113 57 L (.int (nI i) :: .ref (ms_ad r u) :: S) (ms_Z q w I J)) := mz_lald rfl
theorem mi_113_58 : ms_G 113 58 L S σ = ms_G 113 61 L (.long (lN 67108863) :: S) σ := (ms_G_at rfl _ _ _).trans rfl
theorem mi_113_61 : ms_G 113 61 L (.long Y :: .long X :: S) σ = ms_G 113 62 L (.int (lg_cmp X Y) :: S) σ := (ms_G_at rfl _ _ _).trans rfl
theorem mi_113_62 : ms_G 113 62 L (.int x :: S) σ = if x = nI 0 then ms_G 113 65 L S σ else ms_G 113 69 L S σ := mz_bra rfl rfl rfl
theorem mi_113_65 : ms_G 113 65 L S σ = ms_G 113 66 L (.int (nI 1) :: S) σ := (ms_G_at rfl _ _ _).trans rfl
theorem mi_113_66 : ms_G 113 66 L S σ = ms_G 113 70 L S σ := (ms_G_at rfl _ _ _).trans rfl
theorem mi_113_69 : ms_G 113 69 L S σ = ms_G 113 70 L (.int (nI 0) :: S) σ := (ms_G_at rfl _ _ _).trans rfl
theorem mi_113_70 : ms_G 113 70 L [.int (nI 0)] σ = some (.inl (some (.int (nI 0))), σ) := (ms_G_at rfl _ _ _).trans rfl
theorem mi_113_70_1 : ms_G 113 70 L [.int (nI 1)] σ = some (.inl (some (.int (nI 1))), σ) := (ms_G_at rfl _ _ _).trans rfl
theorem mi_113_70_b (B : Bool) : ms_G 113 70 L [.int (ms_b B)] σ = some (.inl (some (.int (ms_b B))), σ) := by cases B <;> exact (ms_G_at rfl _ _ _).trans rfl
-- MaskedSum$Poly1305.sumWord(I)I
theorem mi_114_0 : ms_G 114 0 L S σ = ms_G 114 2 L (.int (nI 6) :: S) σ := (ms_G_at rfl _ _ _).trans rfl
theorem mi_114_2 : ms_G 114 2 [l0, .int x, l2] S σ = ms_G 114 3 [l0, .int x, l2] (.int x :: S) σ := (ms_G_at rfl _ _ _).trans rfl
theorem mi_114_3 : ms_G 114 3 L (.int y :: .int x :: S) σ = ms_G 114 4 L (.int (x * y) :: S) σ := (ms_G_at rfl _ _ _).trans rfl
theorem mi_114_4 : ms_G 114 4 [l0, .int y, l2] (.int x :: S) σ = ms_G 114 5 [l0, .int y, .int x] S σ := (ms_G_at rfl _ _ _).trans rfl
theorem mi_114_5 : ms_G 114 5 [.ref a, l1, l2] S σ = ms_G 114 6 [.ref a, l1, l2] (.ref a :: S) σ := (ms_G_at rfl _ _ _).trans rfl
theorem mi_114_6 : ms_G 114 6 L (.ref (ms_ad 8 0) :: S) (ms_Z q w I J) = ms_G 114 9 L (.ref (ms_ad 10 0) :: S) (ms_Z q w I J) := mz_getf (c := (2, 10)) rfl (by decide) rfl (by decide) rfl
theorem mi_114_9 : ms_G 114 9 [l0, .int x, l2] S σ = ms_G 114 10 [l0, .int x, l2] (.int x :: S) σ := (ms_G_at rfl _ _ _).trans rfl
theorem mi_114_10 : ms_G 114 10 L (.int (nI i) :: .ref (ms_ad r u) :: S) (ms_Z q w I J) = cond (mo_1 q.1 r u i) (ms_G 114 11 L (.long (J r u i) :: S) (ms_Z q w I J)) (ms_raw 114 10 L (.int (nI i) :: .ref (ms_ad r u) :: S) (ms_Z q w I J)) := mz_lald rfl
theorem mi_114_11 : ms_G 114 11 [l0, l1, .int x] S σ = ms_G 114 12 [l0, l1, .int x] (.int x :: S) σ := (ms_G_at rfl _ _ _).trans rfl
theorem mi_114_12 : ms_G 114 12 L (.int y :: .long X :: S) σ = ms_G 114 13 L (.long ((X.toUInt64 >>> (y.toInt64.toUInt64 &&& Int64.toUInt64 63)).toInt64) :: S) σ := (ms_G_at rfl _ _ _).trans rfl
theorem mi_114_13 : ms_G 114 13 [.ref a, l1, l2] S σ = ms_G 114 14 [.ref a, l1, l2] (.ref a :: S) σ := (ms_G_at rfl _ _ _).trans rfl
theorem mi_114_14 : ms_G 114 14 L (.ref (ms_ad 8 0) :: S) (ms_Z q w I J) = ms_G 114 17 L (.ref (ms_ad 10 0) :: S) (ms_Z q w I J) := mz_getf (c := (2, 10)) rfl (by decide) rfl (by decide) rfl
theorem mi_114_17 : ms_G 114 17 [l0, .int x, l2] S σ = ms_G 114 18 [l0, .int x, l2] (.int x :: S) σ := (ms_G_at rfl _ _ _).trans rfl
theorem mi_114_18 : ms_G 114 18 L S σ = ms_G 114 19 L (.int (nI 1) :: S) σ := (ms_G_at rfl _ _ _).trans rfl
theorem mi_114_19 : ms_G 114 19 L (.int y :: .int x :: S) σ = ms_G 114 20 L (.int (x + y) :: S) σ := (ms_G_at rfl _ _ _).trans rfl
theorem mi_114_20 : ms_G 114 20 L (.int (nI i) :: .ref (ms_ad r u) :: S) (ms_Z q w I J) = cond (mo_1 q.1 r u i) (ms_G 114 21 L (.long (J r u i) :: S) (ms_Z q w I J)) (ms_raw 114 20 L (.int (nI i) :: .ref (ms_ad r u) :: S) (ms_Z q w I J)) := mz_lald rfl
theorem mi_114_21 : ms_G 114 21 L S σ = ms_G 114 23 L (.int (nI 26) :: S) σ := (ms_G_at rfl _ _ _).trans rfl
theorem mi_114_23 : ms_G 114 23 [l0, l1, .int x] S σ = ms_G 114 24 [l0, l1, .int x] (.int x :: S) σ := (ms_G_at rfl _ _ _).trans rfl
theorem mi_114_24 : ms_G 114 24 L (.int y :: .int x :: S) σ = ms_G 114 25 L (.int (x - y) :: S) σ := (ms_G_at rfl _ _ _).trans rfl
theorem mi_114_25 : ms_G 114 25 L (.int y :: .long X :: S) σ = ms_G 114 26 L (.long (X <<< (y.toInt64 &&& 63)) :: S) σ := (ms_G_at rfl _ _ _).trans rfl
theorem mi_114_26 : ms_G 114 26 L (.long Y :: .long X :: S) σ = ms_G 114 27 L (.long (X ||| Y) :: S) σ := (ms_G_at rfl _ _ _).trans rfl
theorem mi_114_27 : ms_G 114 27 L (.long X :: S) σ = ms_G 114 28 L (.int X.toInt32 :: S) σ := (ms_G_at rfl _ _ _).trans rfl
theorem mi_114_28 : ms_G 114 28 L [.int x] σ = some (.inl (some (.int x)), σ) := (ms_G_at rfl _ _ _).trans rfl
-- MaskedSum$Server.begin(II)V
theorem mi_116_0 : ms_G 116 0 [.ref a, l1, l2] S σ = ms_G 116 1 [.ref a, l1, l2] (.ref a :: S) σ := (ms_G_at rfl _ _ _).trans rfl
theorem mi_116_1 : ms_G 116 1 [l0, .int x, l2] S σ = ms_G 116 2 [l0, .int x, l2] (.int x :: S) σ := (ms_G_at rfl _ _ _).trans rfl
theorem mi_116_2 : ms_G 116 2 L (.int x :: .ref (ms_ad 19 0) :: S) (ms_Z q w I J) = ms_G 116 5 L S (ms_Z q true (ms_u I 19 0 (upd (I 19 0) 0 x)) J) := mz_putf rfl (by decide) rfl (by decide) rfl rfl
theorem mi_116_5 : ms_G 116 5 [.ref a, l1, l2] S σ = ms_G 116 6 [.ref a, l1, l2] (.ref a :: S) σ := (ms_G_at rfl _ _ _).trans rfl
theorem mi_116_6 : ms_G 116 6 [l0, l1, .int x] S σ = ms_G 116 7 [l0, l1, .int x] (.int x :: S) σ := (ms_G_at rfl _ _ _).trans rfl
theorem mi_116_7 : ms_G 116 7 L (.int x :: .ref (ms_ad 19 0) :: S) (ms_Z q w I J) = ms_G 116 10 L S (ms_Z q true (ms_u I 19 0 (upd (I 19 0) 1 x)) J) := mz_putf rfl (by decide) rfl (by decide) rfl rfl
theorem mi_116_10 : ms_G 116 10 [.ref a, l1, l2] S σ = ms_G 116 11 [.ref a, l1, l2] (.ref a :: S) σ := (ms_G_at rfl _ _ _).trans rfl
theorem mi_116_11 : ms_G 116 11 L S σ = ms_G 116 12 L (.int (nI 0) :: S) σ := (ms_G_at rfl _ _ _).trans rfl
theorem mi_116_12 : ms_G 116 12 L (.int x :: .ref (ms_ad 19 0) :: S) (ms_Z q w I J) = ms_G 116 15 L S (ms_Z q true (ms_u I 19 0 (upd (I 19 0) 2 x)) J) := mz_putf rfl (by decide) rfl (by decide) rfl rfl
theorem mi_116_15 : ms_G 116 15 [.ref a, l1, l2] S σ = ms_G 116 16 [.ref a, l1, l2] (.ref a :: S) σ := (ms_G_at rfl _ _ _).trans rfl
theorem mi_116_16 : ms_G 116 16 L S σ = ms_G 116 17 L (.int (nI 0) :: S) σ := (ms_G_at rfl _ _ _).trans rfl
theorem mi_116_17 : ms_G 116 17 L (.int x :: .ref (ms_ad 19 0) :: S) (ms_Z q w I J) = ms_G 116 20 L S (ms_Z q true (ms_u I 19 0 (upd (I 19 0) 3 x)) J) := mz_putf rfl (by decide) rfl (by decide) rfl rfl
theorem mi_116_20 : ms_G 116 20 [.ref a, l1, l2] S σ = ms_G 116 21 [.ref a, l1, l2] (.ref a :: S) σ := (ms_G_at rfl _ _ _).trans rfl
theorem mi_116_21 : ms_G 116 21 L S σ = ms_G 116 22 L (.int (nI 0) :: S) σ := (ms_G_at rfl _ _ _).trans rfl
theorem mi_116_22 : ms_G 116 22 L (.int x :: .ref (ms_ad 19 0) :: S) (ms_Z q w I J) = ms_G 116 25 L S (ms_Z q true (ms_u I 19 0 (upd (I 19 0) 4 x)) J) := mz_putf rfl (by decide) rfl (by decide) rfl rfl
theorem mi_116_25 : ms_G 116 25 [.ref a, l1, l2] S σ = ms_G 116 26 [.ref a, l1, l2] (.ref a :: S) σ := (ms_G_at rfl _ _ _).trans rfl
theorem mi_116_26 : ms_G 116 26 L (.ref (ms_ad 19 0) :: S) (ms_Z q w I J) = ms_G 116 29 L (.ref (ms_ad 20 0) :: S) (ms_Z q w I J) := mz_getf (c := (2, 20)) rfl (by decide) rfl (by decide) rfl
theorem mi_116_29 : ms_G 116 29 L S σ = ms_G 116 30 L (.int (nI 0) :: S) σ := (ms_G_at rfl _ _ _).trans rfl
theorem mi_116_30 : ms_G 116 30 L [.int x1, .ref a0] (ms_Z q w I J) = mo_cl 116 30 33 (ms_G 148 0 [.ref a0, .int x1, .null, .null] [] (ms_Z q false I J)) w L [] := (mz_call rfl rfl (mz_can0 rfl rfl rfl rfl rfl)).trans rfl
theorem mi_116_33 : ms_G 116 33 L [] σ = some (.inl none, σ) := (ms_G_at rfl _ _ _).trans rfl
-- MaskedSum$Server.isOpen()Z
theorem mi_117_0 : ms_G 117 0 [.ref a] S σ = ms_G 117 1 [.ref a] (.ref a :: S) σ := (ms_G_at rfl _ _ _).trans rfl
theorem mi_117_1 : ms_G 117 1 L (.ref (ms_ad 19 0) :: S) (ms_Z q w I J) = ms_G 117 4 L (.int (I 19 0 2) :: S) (ms_Z q w I J) := mz_getf (c := (0, 2)) rfl (by decide) rfl (by decide) rfl
theorem mi_117_4 : ms_G 117 4 L S σ = ms_G 117 5 L (.int (nI 3) :: S) σ := (ms_G_at rfl _ _ _).trans rfl
theorem mi_117_5 : ms_G 117 5 L (.int y :: .int x :: S) σ = if y < x then ms_G 117 12 L S σ else ms_G 117 8 L S σ := mz_bra rfl rfl rfl
theorem mi_117_8 : ms_G 117 8 L S σ = ms_G 117 9 L (.int (nI 1) :: S) σ := (ms_G_at rfl _ _ _).trans rfl
theorem mi_117_9 : ms_G 117 9 L S σ = ms_G 117 13 L S σ := (ms_G_at rfl _ _ _).trans rfl
theorem mi_117_12 : ms_G 117 12 L S σ = ms_G 117 13 L (.int (nI 0) :: S) σ := (ms_G_at rfl _ _ _).trans rfl
theorem mi_117_13 : ms_G 117 13 L [.int (nI 0)] σ = some (.inl (some (.int (nI 0))), σ) := (ms_G_at rfl _ _ _).trans rfl
theorem mi_117_13_1 : ms_G 117 13 L [.int (nI 1)] σ = some (.inl (some (.int (nI 1))), σ) := (ms_G_at rfl _ _ _).trans rfl
theorem mi_117_13_b (B : Bool) : ms_G 117 13 L [.int (ms_b B)] σ = some (.inl (some (.int (ms_b B))), σ) := by cases B <;> exact (ms_G_at rfl _ _ _).trans rfl
-- MaskedSum$Server.tell(I)I
theorem mi_118_0 : ms_G 118 0 [l0, .int x] S σ = ms_G 118 1 [l0, .int x] (.int x :: S) σ := (ms_G_at rfl _ _ _).trans rfl
theorem mi_118_1_c1 : ms_G 118 1 L (.int (nI 1) :: S) σ = ms_G 118 40 L S σ := (ms_G_at rfl _ _ _).trans rfl
theorem mi_118_1_c2 : ms_G 118 1 L (.int (nI 2) :: S) σ = ms_G 118 45 L S σ := (ms_G_at rfl _ _ _).trans rfl
theorem mi_118_1_c3 : ms_G 118 1 L (.int (nI 3) :: S) σ = ms_G 118 50 L S σ := (ms_G_at rfl _ _ _).trans rfl
theorem mi_118_1_c4 : ms_G 118 1 L (.int (nI 4) :: S) σ = ms_G 118 50 L S σ := (ms_G_at rfl _ _ _).trans rfl
theorem mi_118_1_c5 : ms_G 118 1 L (.int (nI 5) :: S) σ = ms_G 118 50 L S σ := (ms_G_at rfl _ _ _).trans rfl
theorem mi_118_1_c6 : ms_G 118 1 L (.int (nI 6) :: S) σ = ms_G 118 59 L S σ := (ms_G_at rfl _ _ _).trans rfl
theorem mi_118_1_d (hx : x.toInt < 1 ∨ 6 < x.toInt) : ms_G 118 1 L (.int x :: S) σ = ms_G 118 64 L S σ := mz_sw rfl hx
theorem mi_118_40 : ms_G 118 40 [.ref a, l1] S σ = ms_G 118 41 [.ref a, l1] (.ref a :: S) σ := (ms_G_at rfl _ _ _).trans rfl
theorem mi_118_41 : ms_G 118 41 L (.ref (ms_ad 19 0) :: S) (ms_Z q w I J) = ms_G 118 44 L (.int (I 19 0 2) :: S) (ms_Z q w I J) := mz_getf (c := (0, 2)) rfl (by decide) rfl (by decide) rfl
theorem mi_118_44 : ms_G 118 44 L [.int x] σ = some (.inl (some (.int x)), σ) := (ms_G_at rfl _ _ _).trans rfl
theorem mi_118_45 : ms_G 118 45 [.ref a, l1] S σ = ms_G 118 46 [.ref a, l1] (.ref a :: S) σ := (ms_G_at rfl _ _ _).trans rfl
theorem mi_118_46 : ms_G 118 46 L (.ref (ms_ad 19 0) :: S) (ms_Z q w I J) = ms_G 118 49 L (.int (I 19 0 3) :: S) (ms_Z q w I J) := mz_getf (c := (0, 3)) rfl (by decide) rfl (by decide) rfl
theorem mi_118_49 : ms_G 118 49 L [.int x] σ = some (.inl (some (.int x)), σ) := (ms_G_at rfl _ _ _).trans rfl
theorem mi_118_50 : ms_G 118 50 [.ref a, l1] S σ = ms_G 118 51 [.ref a, l1] (.ref a :: S) σ := (ms_G_at rfl _ _ _).trans rfl
theorem mi_118_51 : ms_G 118 51 L (.ref (ms_ad 19 0) :: S) (ms_Z q w I J) = ms_G 118 54 L (.ref (ms_ad 20 0) :: S) (ms_Z q w I J) := mz_getf (c := (2, 20)) rfl (by decide) rfl (by decide) rfl
theorem mi_118_54 : ms_G 118 54 [l0, .int x] S σ = ms_G 118 55 [l0, .int x] (.int x :: S) σ := (ms_G_at rfl _ _ _).trans rfl
theorem mi_118_55 : ms_G 118 55 L S σ = ms_G 118 56 L (.int (nI 3) :: S) σ := (ms_G_at rfl _ _ _).trans rfl
theorem mi_118_56 : ms_G 118 56 L (.int y :: .int x :: S) σ = ms_G 118 57 L (.int (x - y) :: S) σ := (ms_G_at rfl _ _ _).trans rfl
theorem mi_118_57 : ms_G 118 57 L (.int (nI i) :: .ref (ms_ad r u) :: S) (ms_Z q w I J) = cond (mo_0 q.1 r u i) (ms_G 118 58 L (.int (I r u i) :: S) (ms_Z q w I J)) (ms_raw 118 57 L (.int (nI i) :: .ref (ms_ad r u) :: S) (ms_Z q w I J)) := mz_iald rfl
theorem mi_118_58 : ms_G 118 58 L [.int x] σ = some (.inl (some (.int x)), σ) := (ms_G_at rfl _ _ _).trans rfl
theorem mi_118_59 : ms_G 118 59 [.ref a, l1] S σ = ms_G 118 60 [.ref a, l1] (.ref a :: S) σ := (ms_G_at rfl _ _ _).trans rfl
theorem mi_118_60 : ms_G 118 60 L (.ref (ms_ad 19 0) :: S) (ms_Z q w I J) = ms_G 118 63 L (.int (I 19 0 4) :: S) (ms_Z q w I J) := mz_getf (c := (0, 4)) rfl (by decide) rfl (by decide) rfl
theorem mi_118_63 : ms_G 118 63 L [.int x] σ = some (.inl (some (.int x)), σ) := (ms_G_at rfl _ _ _).trans rfl
theorem mi_118_64 : ms_G 118 64 L S σ = ms_G 118 65 L (.int (-1) :: S) σ := (ms_G_at rfl _ _ _).trans rfl
theorem mi_118_65 : ms_G 118 65 L [.int x] σ = some (.inl (some (.int x)), σ) := (ms_G_at rfl _ _ _).trans rfl
-- MaskedSum$Server.hear(LMaskedSum$Message;)Z
theorem mi_119_0 : ms_G 119 0 [l0, .ref a, l2, l3] S σ = ms_G 119 1 [l0, .ref a, l2, l3] (.ref a :: S) σ := (ms_G_at rfl _ _ _).trans rfl
theorem mi_119_1 (hu : u < 56) : ms_G 119 1 L (.ref (ms_ad 17 u) :: S) (ms_Z q w I J) = ms_G 119 4 L (.int (nI (ms_sv 1 u)) :: S) (ms_Z q w I J) := mz_getf (c := (3, 1)) rfl hu rfl (by decide) rfl
theorem mi_119_4 : ms_G 119 4 [l0, .ref b, l2, l3] (.int x :: S) σ = ms_G 119 5 [l0, .ref b, .int x, l3] S σ := (ms_G_at rfl _ _ _).trans rfl
theorem mi_119_5 : ms_G 119 5 [l0, .ref a, l2, l3] S σ = ms_G 119 6 [l0, .ref a, l2, l3] (.ref a :: S) σ := (ms_G_at rfl _ _ _).trans rfl
theorem mi_119_6 (hu : u < 56) : ms_G 119 6 L (.ref (ms_ad 17 u) :: S) (ms_Z q w I J) = ms_G 119 9 L (.int (nI (ms_sv 0 u)) :: S) (ms_Z q w I J) := mz_getf (c := (3, 0)) rfl hu rfl (by decide) rfl
theorem mi_119_9 : ms_G 119 9 [.ref a, l1, l2, l3] S σ = ms_G 119 10 [.ref a, l1, l2, l3] (.ref a :: S) σ := (ms_G_at rfl _ _ _).trans rfl
theorem mi_119_10 : ms_G 119 10 L (.ref (ms_ad 19 0) :: S) (ms_Z q w I J) = ms_G 119 13 L (.int (I 19 0 2) :: S) (ms_Z q w I J) := mz_getf (c := (0, 2)) rfl (by decide) rfl (by decide) rfl
theorem mi_119_13 : ms_G 119 13 L (.int y :: .int x :: S) σ = if x = y then ms_G 119 16 L S σ else ms_G 119 35 L S σ := mz_bra rfl rfl rfl
theorem mi_119_16 : ms_G 119 16 [.ref a, l1, l2, l3] S σ = ms_G 119 17 [.ref a, l1, l2, l3] (.ref a :: S) σ := (ms_G_at rfl _ _ _).trans rfl
theorem mi_119_17 : ms_G 119 17 L (.ref (ms_ad 19 0) :: S) (ms_Z q w I J) = ms_G 119 20 L (.int (I 19 0 4) :: S) (ms_Z q w I J) := mz_getf (c := (0, 4)) rfl (by decide) rfl (by decide) rfl
theorem mi_119_20 : ms_G 119 20 [l0, l1, .int x, l3] S σ = ms_G 119 21 [l0, l1, .int x, l3] (.int x :: S) σ := (ms_G_at rfl _ _ _).trans rfl
theorem mi_119_21 : ms_G 119 21 L [.int x1, .int x0] (ms_Z q w I J) = mo_cl 119 21 24 (ms_G 15 0 [.int x0, .int x1] [] (ms_Z q false I J)) w L [] := (mz_call rfl rfl (mz_can0 rfl rfl rfl rfl rfl)).trans rfl
theorem mi_119_24 : ms_G 119 24 L (.int x :: S) σ = if x = nI 0 then ms_G 119 27 L S σ else ms_G 119 35 L S σ := mz_bra rfl rfl rfl
theorem mi_119_27 : ms_G 119 27 [.ref a, l1, l2, l3] S σ = ms_G 119 28 [.ref a, l1, l2, l3] (.ref a :: S) σ := (ms_G_at rfl _ _ _).trans rfl
theorem mi_119_28 : ms_G 119 28 [l0, l1, .int x, l3] S σ = ms_G 119 29 [l0, l1, .int x, l3] (.int x :: S) σ := (ms_G_at rfl _ _ _).trans rfl
theorem mi_119_29 : ms_G 119 29 L [.int x0, .ref (ms_ad 19 0)] (ms_Z q w I J) = mo_cl 119 29 32 (ms_G 120 0 [.ref (ms_ad 19 0), .int x0] [] (ms_Z q false I J)) w L [] := (mz_call rfl rfl (mz_can1 rfl rfl rfl rfl rfl (by decide) rfl (by decide))).trans rfl
theorem mi_119_32 : ms_G 119 32 L (.int x :: S) σ = if x = nI 0 then ms_G 119 35 L S σ else ms_G 119 37 L S σ := mz_bra rfl rfl rfl
theorem mi_119_35 : ms_G 119 35 L S σ = ms_G 119 36 L (.int (nI 0) :: S) σ := (ms_G_at rfl _ _ _).trans rfl
theorem mi_119_36 : ms_G 119 36 L [.int (nI 0)] σ = some (.inl (some (.int (nI 0))), σ) := (ms_G_at rfl _ _ _).trans rfl
theorem mi_119_36_1 : ms_G 119 36 L [.int (nI 1)] σ = some (.inl (some (.int (nI 1))), σ) := (ms_G_at rfl _ _ _).trans rfl
theorem mi_119_36_b (B : Bool) : ms_G 119 36 L [.int (ms_b B)] σ = some (.inl (some (.int (ms_b B))), σ) := by cases B <;> exact (ms_G_at rfl _ _ _).trans rfl
theorem mi_119_37 : ms_G 119 37 [.ref a, l1, l2, l3] S σ = ms_G 119 38 [.ref a, l1, l2, l3] (.ref a :: S) σ := (ms_G_at rfl _ _ _).trans rfl
theorem mi_119_38 : ms_G 119 38 [l0, l1, .int x, l3] S σ = ms_G 119 39 [l0, l1, .int x, l3] (.int x :: S) σ := (ms_G_at rfl _ _ _).trans rfl
theorem mi_119_39 : ms_G 119 39 L [.int x0, .ref (ms_ad 19 0)] (ms_Z q w I J) = mo_cl 119 39 42 (ms_G 121 0 [.ref (ms_ad 19 0), .int x0] [] (ms_Z q false I J)) w L [] := (mz_call rfl rfl (mz_can1 rfl rfl rfl rfl rfl (by decide) rfl (by decide))).trans rfl
theorem mi_119_42 : ms_G 119 42 [l0, l1, .int y, l3] (.ref a :: S) σ = ms_G 119 43 [l0, l1, .int y, .ref a] S σ := (ms_G_at rfl _ _ _).trans rfl
theorem mi_119_43 : ms_G 119 43 [l0, .ref a, l2, l3] S σ = ms_G 119 44 [l0, .ref a, l2, l3] (.ref a :: S) σ := (ms_G_at rfl _ _ _).trans rfl
theorem mi_119_44 (hu : u < 56) : ms_G 119 44 L (.ref (ms_ad 17 u) :: S) (ms_Z q w I J) = ms_G 119 47 L (.ref (ms_ad 18 u) :: S) (ms_Z q w I J) := mz_getf (c := (2, 18)) rfl hu rfl (by decide) rfl
theorem mi_119_47 : ms_G 119 47 L S σ = ms_G 119 48 L (.int (nI 0) :: S) σ := (ms_G_at rfl _ _ _).trans rfl
theorem mi_119_48 : ms_G 119 48 [l0, l1, l2, .ref a] S σ = ms_G 119 49 [l0, l1, l2, .ref a] (.ref a :: S) σ := (ms_G_at rfl _ _ _).trans rfl
theorem mi_119_49 : ms_G 119 49 L S σ = ms_G 119 50 L (.int (nI 0) :: S) σ := (ms_G_at rfl _ _ _).trans rfl
theorem mi_119_50 : ms_G 119 50 [l0, l1, l2, .ref a] S σ = ms_G 119 51 [l0, l1, l2, .ref a] (.ref a :: S) σ := (ms_G_at rfl _ _ _).trans rfl
theorem mi_119_51 : ms_G 119 51 L (.ref (ms_ad r u) :: S) (ms_Z q w I J) = cond (mo_3 r u) (ms_G 119 52 L (.int (nI (ms_nr q.1 r u)) :: S) (ms_Z q w I J)) (ms_raw 119 51 L (.ref (ms_ad r u) :: S) (ms_Z q w I J)) := mz_alen rfl
theorem mi_119_52 : ms_G 119 52 L (.int (nI n) :: .int (nI dp) :: .ref (ms_ad r' u') :: .int (nI sp) :: .ref (ms_ad r u) :: []) (ms_Z q w I J) = cond (mo_c q.1 r u r' u' sp dp n) (ms_G 119 55 L [] (ms_Z q true (ms_u I r' u' (va_cpy (I r u) (I r' u') sp dp n)) J)) (ms_raw 119 52 L (.int (nI n) :: .int (nI dp) :: .ref (ms_ad r' u') :: .int (nI sp) :: .ref (ms_ad r u) :: []) (ms_Z q w I J)) := mz_acp rfl (Nat.le_of_ble_eq_true rfl)
theorem mi_119_55 : ms_G 119 55 [.ref a, l1, l2, l3] S σ = ms_G 119 56 [.ref a, l1, l2, l3] (.ref a :: S) σ := (ms_G_at rfl _ _ _).trans rfl
theorem mi_119_56 : ms_G 119 56 L (.ref a :: S) σ = ms_G 119 57 L (.ref a :: .ref a :: S) σ := (ms_G_at rfl _ _ _).trans rfl
theorem mi_119_57 : ms_G 119 57 L (.ref (ms_ad 19 0) :: S) (ms_Z q w I J) = ms_G 119 60 L (.int (I 19 0 4) :: S) (ms_Z q w I J) := mz_getf (c := (0, 4)) rfl (by decide) rfl (by decide) rfl
theorem mi_119_60 : ms_G 119 60 L S σ = ms_G 119 61 L (.int (nI 1) :: S) σ := (ms_G_at rfl _ _ _).trans rfl
theorem mi_119_61 : ms_G 119 61 [l0, l1, .int x, l3] S σ = ms_G 119 62 [l0, l1, .int x, l3] (.int x :: S) σ := (ms_G_at rfl _ _ _).trans rfl
theorem mi_119_62 : ms_G 119 62 L (.int y :: .int x :: S) σ = ms_G 119 63 L (.int (x <<< (y &&& 31)) :: S) σ := (ms_G_at rfl _ _ _).trans rfl
theorem mi_119_63 : ms_G 119 63 L (.int y :: .int x :: S) σ = ms_G 119 64 L (.int (x ||| y) :: S) σ := (ms_G_at rfl _ _ _).trans rfl
theorem mi_119_64 : ms_G 119 64 L (.int x :: .ref (ms_ad 19 0) :: S) (ms_Z q w I J) = ms_G 119 67 L S (ms_Z q true (ms_u I 19 0 (upd (I 19 0) 4 x)) J) := mz_putf rfl (by decide) rfl (by decide) rfl rfl
theorem mi_119_67 : ms_G 119 67 L S σ = ms_G 119 68 L (.int (nI 1) :: S) σ := (ms_G_at rfl _ _ _).trans rfl
theorem mi_119_68 : ms_G 119 68 L [.int (nI 0)] σ = some (.inl (some (.int (nI 0))), σ) := (ms_G_at rfl _ _ _).trans rfl
theorem mi_119_68_1 : ms_G 119 68 L [.int (nI 1)] σ = some (.inl (some (.int (nI 1))), σ) := (ms_G_at rfl _ _ _).trans rfl
theorem mi_119_68_b (B : Bool) : ms_G 119 68 L [.int (ms_b B)] σ = some (.inl (some (.int (ms_b B))), σ) := by cases B <;> exact (ms_G_at rfl _ _ _).trans rfl
-- MaskedSum$Server.isAwaited(I)Z
theorem mi_120_0 : ms_G 120 0 [.ref a, l1] S σ = ms_G 120 1 [.ref a, l1] (.ref a :: S) σ := (ms_G_at rfl _ _ _).trans rfl
theorem mi_120_1 : ms_G 120 1 L (.ref (ms_ad 19 0) :: S) (ms_Z q w I J) = ms_G 120 4 L (.int (I 19 0 2) :: S) (ms_Z q w I J) := mz_getf (c := (0, 2)) rfl (by decide) rfl (by decide) rfl
theorem mi_120_4_c0 : ms_G 120 4 L (.int (nI 0) :: S) σ = ms_G 120 32 L S σ := (ms_G_at rfl _ _ _).trans rfl
theorem mi_120_4_c1 : ms_G 120 4 L (.int (nI 1) :: S) σ = ms_G 120 34 L S σ := (ms_G_at rfl _ _ _).trans rfl
theorem mi_120_4_d (hx : x.toInt ≠ 0 ∧ x.toInt ≠ 1) : ms_G 120 4 L (.int x :: S) σ = ms_G 120 45 L S σ := mz_lsw rfl (by simp [hx])
theorem mi_120_32 : ms_G 120 32 L S σ = ms_G 120 33 L (.int (nI 1) :: S) σ := (ms_G_at rfl _ _ _).trans rfl
theorem mi_120_33 : ms_G 120 33 L [.int (nI 0)] σ = some (.inl (some (.int (nI 0))), σ) := (ms_G_at rfl _ _ _).trans rfl
theorem mi_120_33_1 : ms_G 120 33 L [.int (nI 1)] σ = some (.inl (some (.int (nI 1))), σ) := (ms_G_at rfl _ _ _).trans rfl
theorem mi_120_33_b (B : Bool) : ms_G 120 33 L [.int (ms_b B)] σ = some (.inl (some (.int (ms_b B))), σ) := by cases B <;> exact (ms_G_at rfl _ _ _).trans rfl
theorem mi_120_34 : ms_G 120 34 [.ref a, l1] S σ = ms_G 120 35 [.ref a, l1] (.ref a :: S) σ := (ms_G_at rfl _ _ _).trans rfl
theorem mi_120_35 : ms_G 120 35 L (.ref (ms_ad 19 0) :: S) (ms_Z q w I J) = ms_G 120 38 L (.ref (ms_ad 20 0) :: S) (ms_Z q w I J) := mz_getf (c := (2, 20)) rfl (by decide) rfl (by decide) rfl
theorem mi_120_38 : ms_G 120 38 L S σ = ms_G 120 39 L (.int (nI 0) :: S) σ := (ms_G_at rfl _ _ _).trans rfl
theorem mi_120_39 : ms_G 120 39 L (.int (nI i) :: .ref (ms_ad r u) :: S) (ms_Z q w I J) = cond (mo_0 q.1 r u i) (ms_G 120 40 L (.int (I r u i) :: S) (ms_Z q w I J)) (ms_raw 120 39 L (.int (nI i) :: .ref (ms_ad r u) :: S) (ms_Z q w I J)) := mz_iald rfl
theorem mi_120_40 : ms_G 120 40 [l0, .int x] S σ = ms_G 120 41 [l0, .int x] (.int x :: S) σ := (ms_G_at rfl _ _ _).trans rfl
theorem mi_120_41 : ms_G 120 41 L [.int x1, .int x0] (ms_Z q w I J) = mo_cl 120 41 44 (ms_G 15 0 [.int x0, .int x1] [] (ms_Z q false I J)) w L [] := (mz_call rfl rfl (mz_can0 rfl rfl rfl rfl rfl)).trans rfl
theorem mi_120_44 : ms_G 120 44 L [.int (nI 0)] σ = some (.inl (some (.int (nI 0))), σ) := (ms_G_at rfl _ _ _).trans rfl
theorem mi_120_44_1 : ms_G 120 44 L [.int (nI 1)] σ = some (.inl (some (.int (nI 1))), σ) := (ms_G_at rfl _ _ _).trans rfl
theorem mi_120_44_b (B : Bool) : ms_G 120 44 L [.int (ms_b B)] σ = some (.inl (some (.int (ms_b B))), σ) := by cases B <;> exact (ms_G_at rfl _ _ _).trans rfl
theorem mi_120_45 : ms_G 120 45 [.ref a, l1] S σ = ms_G 120 46 [.ref a, l1] (.ref a :: S) σ := (ms_G_at rfl _ _ _).trans rfl
theorem mi_120_46 : ms_G 120 46 L (.ref (ms_ad 19 0) :: S) (ms_Z q w I J) = ms_G 120 49 L (.ref (ms_ad 20 0) :: S) (ms_Z q w I J) := mz_getf (c := (2, 20)) rfl (by decide) rfl (by decide) rfl
theorem mi_120_49 : ms_G 120 49 L S σ = ms_G 120 50 L (.int (nI 1) :: S) σ := (ms_G_at rfl _ _ _).trans rfl
theorem mi_120_50 : ms_G 120 50 L (.int (nI i) :: .ref (ms_ad r u) :: S) (ms_Z q w I J) = cond (mo_0 q.1 r u i) (ms_G 120 51 L (.int (I r u i) :: S) (ms_Z q w I J)) (ms_raw 120 50 L (.int (nI i) :: .ref (ms_ad r u) :: S) (ms_Z q w I J)) := mz_iald rfl
theorem mi_120_51 : ms_G 120 51 [l0, .int x] S σ = ms_G 120 52 [l0, .int x] (.int x :: S) σ := (ms_G_at rfl _ _ _).trans rfl
theorem mi_120_52 : ms_G 120 52 L [.int x1, .int x0] (ms_Z q w I J) = mo_cl 120 52 55 (ms_G 15 0 [.int x0, .int x1] [] (ms_Z q false I J)) w L [] := (mz_call rfl rfl (mz_can0 rfl rfl rfl rfl rfl)).trans rfl
theorem mi_120_55 : ms_G 120 55 L [.int (nI 0)] σ = some (.inl (some (.int (nI 0))), σ) := (ms_G_at rfl _ _ _).trans rfl
theorem mi_120_55_1 : ms_G 120 55 L [.int (nI 1)] σ = some (.inl (some (.int (nI 1))), σ) := (ms_G_at rfl _ _ _).trans rfl
theorem mi_120_55_b (B : Bool) : ms_G 120 55 L [.int (ms_b B)] σ = some (.inl (some (.int (ms_b B))), σ) := by cases B <;> exact (ms_G_at rfl _ _ _).trans rfl
-- MaskedSum$Server.rowFor(I)[I
theorem mi_121_0 : ms_G 121 0 [.ref a, l1] S σ = ms_G 121 1 [.ref a, l1] (.ref a :: S) σ := (ms_G_at rfl _ _ _).trans rfl
theorem mi_121_1 : ms_G 121 1 L (.ref (ms_ad 19 0) :: S) (ms_Z q w I J) = ms_G 121 4 L (.int (I 19 0 2) :: S) (ms_Z q w I J) := mz_getf (c := (0, 2)) rfl (by decide) rfl (by decide) rfl
theorem mi_121_4_c0 : ms_G 121 4 L (.int (nI 0) :: S) σ = ms_G 121 32 L S σ := (ms_G_at rfl _ _ _).trans rfl
theorem mi_121_4_c1 : ms_G 121 4 L (.int (nI 1) :: S) σ = ms_G 121 39 L S σ := (ms_G_at rfl _ _ _).trans rfl
theorem mi_121_4_c2 : ms_G 121 4 L (.int (nI 2) :: S) σ = ms_G 121 46 L S σ := (ms_G_at rfl _ _ _).trans rfl
theorem mi_121_4_d (hx : x.toInt < 0 ∨ 2 < x.toInt) : ms_G 121 4 L (.int x :: S) σ = ms_G 121 53 L S σ := mz_sw rfl hx
theorem mi_121_32 : ms_G 121 32 [.ref a, l1] S σ = ms_G 121 33 [.ref a, l1] (.ref a :: S) σ := (ms_G_at rfl _ _ _).trans rfl
theorem mi_121_33 : ms_G 121 33 L (.ref (ms_ad 19 0) :: S) (ms_Z q w I J) = ms_G 121 36 L (.ref (ms_ad 21 0) :: S) (ms_Z q w I J) := mz_getf (c := (2, 21)) rfl (by decide) rfl (by decide) rfl
theorem mi_121_36 : ms_G 121 36 [l0, .int x] S σ = ms_G 121 37 [l0, .int x] (.int x :: S) σ := (ms_G_at rfl _ _ _).trans rfl
theorem mi_121_37 : ms_G 121 37 L (.int (nI i) :: .ref (ms_ad r u) :: S) (ms_Z q w I J) = cond (mo_2 q.1 r u i) (ms_G 121 38 L (.ref (ms_ad (ms_er r) i) :: S) (ms_Z q w I J)) (ms_raw 121 37 L (.int (nI i) :: .ref (ms_ad r u) :: S) (ms_Z q w I J)) := mz_aald rfl
theorem mi_121_38 : ms_G 121 38 L [.ref a] σ = some (.inl (some (.ref a)), σ) := (ms_G_at rfl _ _ _).trans rfl
theorem mi_121_39 : ms_G 121 39 [.ref a, l1] S σ = ms_G 121 40 [.ref a, l1] (.ref a :: S) σ := (ms_G_at rfl _ _ _).trans rfl
theorem mi_121_40 : ms_G 121 40 L (.ref (ms_ad 19 0) :: S) (ms_Z q w I J) = ms_G 121 43 L (.ref (ms_ad 23 0) :: S) (ms_Z q w I J) := mz_getf (c := (2, 23)) rfl (by decide) rfl (by decide) rfl
theorem mi_121_43 : ms_G 121 43 [l0, .int x] S σ = ms_G 121 44 [l0, .int x] (.int x :: S) σ := (ms_G_at rfl _ _ _).trans rfl
theorem mi_121_44 : ms_G 121 44 L (.int (nI i) :: .ref (ms_ad r u) :: S) (ms_Z q w I J) = cond (mo_2 q.1 r u i) (ms_G 121 45 L (.ref (ms_ad (ms_er r) i) :: S) (ms_Z q w I J)) (ms_raw 121 44 L (.int (nI i) :: .ref (ms_ad r u) :: S) (ms_Z q w I J)) := mz_aald rfl
theorem mi_121_45 : ms_G 121 45 L [.ref a] σ = some (.inl (some (.ref a)), σ) := (ms_G_at rfl _ _ _).trans rfl
theorem mi_121_46 : ms_G 121 46 [.ref a, l1] S σ = ms_G 121 47 [.ref a, l1] (.ref a :: S) σ := (ms_G_at rfl _ _ _).trans rfl
theorem mi_121_47 : ms_G 121 47 L (.ref (ms_ad 19 0) :: S) (ms_Z q w I J) = ms_G 121 50 L (.ref (ms_ad 25 0) :: S) (ms_Z q w I J) := mz_getf (c := (2, 25)) rfl (by decide) rfl (by decide) rfl
theorem mi_121_50 : ms_G 121 50 [l0, .int x] S σ = ms_G 121 51 [l0, .int x] (.int x :: S) σ := (ms_G_at rfl _ _ _).trans rfl
theorem mi_121_51 : ms_G 121 51 L (.int (nI i) :: .ref (ms_ad r u) :: S) (ms_Z q w I J) = cond (mo_2 q.1 r u i) (ms_G 121 52 L (.ref (ms_ad (ms_er r) i) :: S) (ms_Z q w I J)) (ms_raw 121 51 L (.int (nI i) :: .ref (ms_ad r u) :: S) (ms_Z q w I J)) := mz_aald rfl
theorem mi_121_52 : ms_G 121 52 L [.ref a] σ = some (.inl (some (.ref a)), σ) := (ms_G_at rfl _ _ _).trans rfl
theorem mi_121_53 : ms_G 121 53 [.ref a, l1] S σ = ms_G 121 54 [.ref a, l1] (.ref a :: S) σ := (ms_G_at rfl _ _ _).trans rfl
theorem mi_121_54 : ms_G 121 54 L (.ref (ms_ad 19 0) :: S) (ms_Z q w I J) = ms_G 121 57 L (.ref (ms_ad 27 0) :: S) (ms_Z q w I J) := mz_getf (c := (2, 27)) rfl (by decide) rfl (by decide) rfl
theorem mi_121_57 : ms_G 121 57 [l0, .int x] S σ = ms_G 121 58 [l0, .int x] (.int x :: S) σ := (ms_G_at rfl _ _ _).trans rfl
theorem mi_121_58 : ms_G 121 58 L (.int (nI i) :: .ref (ms_ad r u) :: S) (ms_Z q w I J) = cond (mo_2 q.1 r u i) (ms_G 121 59 L (.ref (ms_ad (ms_er r) i) :: S) (ms_Z q w I J)) (ms_raw 121 58 L (.int (nI i) :: .ref (ms_ad r u) :: S) (ms_Z q w I J)) := mz_aald rfl
theorem mi_121_59 : ms_G 121 59 L [.ref a] σ = some (.inl (some (.ref a)), σ) := (ms_G_at rfl _ _ _).trans rfl
-- MaskedSum$Server.closeStage(LMaskedSum$Mail;LMaskedSum$Crypto;)V
theorem mi_122_0 : ms_G 122 0 [.ref a, l1, l2] S σ = ms_G 122 1 [.ref a, l1, l2] (.ref a :: S) σ := (ms_G_at rfl _ _ _).trans rfl
theorem mi_122_1 : ms_G 122 1 L (.ref (ms_ad 19 0) :: S) (ms_Z q w I J) = ms_G 122 4 L (.int (I 19 0 4) :: S) (ms_Z q w I J) := mz_getf (c := (0, 4)) rfl (by decide) rfl (by decide) rfl
theorem mi_122_4 : ms_G 122 4 L [.int x0] (ms_Z q w I J) = mo_cl 122 4 7 (ms_G 146 0 [.int x0] [] (ms_Z q false I J)) w L [] := (mz_call rfl rfl (mz_can0 rfl rfl rfl rfl rfl)).trans rfl
theorem mi_122_7 : ms_G 122 7 [.ref a, l1, l2] S σ = ms_G 122 8 [.ref a, l1, l2] (.ref a :: S) σ := (ms_G_at rfl _ _ _).trans rfl
theorem mi_122_8 : ms_G 122 8 L (.ref (ms_ad 19 0) :: S) (ms_Z q w I J) = ms_G 122 11 L (.int (I 19 0 1) :: S) (ms_Z q w I J) := mz_getf (c := (0, 1)) rfl (by decide) rfl (by decide) rfl
theorem mi_122_11 : ms_G 122 11 L (.int y :: .int x :: S) σ = if y ≤ x then ms_G 122 27 L S σ else ms_G 122 14 L S σ := mz_bra rfl rfl rfl
theorem mi_122_14 : ms_G 122 14 [.ref a, l1, l2] S σ = ms_G 122 15 [.ref a, l1, l2] (.ref a :: S) σ := (ms_G_at rfl _ _ _).trans rfl
theorem mi_122_15 : ms_G 122 15 L S σ = ms_G 122 16 L (.int (nI 1) :: S) σ := (ms_G_at rfl _ _ _).trans rfl
theorem mi_122_16 : ms_G 122 16 [.ref a, l1, l2] S σ = ms_G 122 17 [.ref a, l1, l2] (.ref a :: S) σ := (ms_G_at rfl _ _ _).trans rfl
theorem mi_122_17 : ms_G 122 17 L (.ref (ms_ad 19 0) :: S) (ms_Z q w I J) = ms_G 122 20 L (.int (I 19 0 2) :: S) (ms_Z q w I J) := mz_getf (c := (0, 2)) rfl (by decide) rfl (by decide) rfl
theorem mi_122_20 : ms_G 122 20 L (.int y :: .int x :: S) σ = ms_G 122 21 L (.int (x + y) :: S) σ := (ms_G_at rfl _ _ _).trans rfl
theorem mi_122_21 : ms_G 122 21 L [.int x0, .ref (ms_ad 19 0)] (ms_Z q w I J) = mo_cl 122 21 24 (ms_G 123 0 [.ref (ms_ad 19 0), .int x0] [] (ms_Z q false I J)) w L [] := (mz_call rfl rfl (mz_can1 rfl rfl rfl rfl rfl (by decide) rfl (by decide))).trans rfl
theorem mi_122_24 : ms_G 122 24 L S σ = ms_G 122 92 L S σ := (ms_G_at rfl _ _ _).trans rfl
theorem mi_122_27 : ms_G 122 27 [.ref a, l1, l2] S σ = ms_G 122 28 [.ref a, l1, l2] (.ref a :: S) σ := (ms_G_at rfl _ _ _).trans rfl
theorem mi_122_28 : ms_G 122 28 L (.ref (ms_ad 19 0) :: S) (ms_Z q w I J) = ms_G 122 31 L (.int (I 19 0 2) :: S) (ms_Z q w I J) := mz_getf (c := (0, 2)) rfl (by decide) rfl (by decide) rfl
theorem mi_122_31 : ms_G 122 31 L S σ = ms_G 122 32 L (.int (nI 3) :: S) σ := (ms_G_at rfl _ _ _).trans rfl
theorem mi_122_32 : ms_G 122 32 L (.int y :: .int x :: S) σ = if y ≤ x then ms_G 122 71 L S σ else ms_G 122 35 L S σ := mz_bra rfl rfl rfl
theorem mi_122_35 : ms_G 122 35 [.ref a, l1, l2] S σ = ms_G 122 36 [.ref a, l1, l2] (.ref a :: S) σ := (ms_G_at rfl _ _ _).trans rfl
theorem mi_122_36 : ms_G 122 36 L (.ref (ms_ad 19 0) :: S) (ms_Z q w I J) = ms_G 122 39 L (.ref (ms_ad 20 0) :: S) (ms_Z q w I J) := mz_getf (c := (2, 20)) rfl (by decide) rfl (by decide) rfl
theorem mi_122_39 : ms_G 122 39 [.ref a, l1, l2] S σ = ms_G 122 40 [.ref a, l1, l2] (.ref a :: S) σ := (ms_G_at rfl _ _ _).trans rfl
theorem mi_122_40 : ms_G 122 40 L (.ref (ms_ad 19 0) :: S) (ms_Z q w I J) = ms_G 122 43 L (.int (I 19 0 2) :: S) (ms_Z q w I J) := mz_getf (c := (0, 2)) rfl (by decide) rfl (by decide) rfl
theorem mi_122_43 : ms_G 122 43 [.ref a, l1, l2] S σ = ms_G 122 44 [.ref a, l1, l2] (.ref a :: S) σ := (ms_G_at rfl _ _ _).trans rfl
theorem mi_122_44 : ms_G 122 44 L (.ref (ms_ad 19 0) :: S) (ms_Z q w I J) = ms_G 122 47 L (.int (I 19 0 4) :: S) (ms_Z q w I J) := mz_getf (c := (0, 4)) rfl (by decide) rfl (by decide) rfl
theorem mi_122_47 : ms_G 122 47 L (.int x :: .int (nI i) :: .ref (ms_ad r u) :: S) (ms_Z q w I J) = cond (mo_0 q.1 r u i) (ms_G 122 48 L S (ms_Z q true (ms_u I r u (upd (I r u) i x)) J)) (ms_raw 122 47 L (.int x :: .int (nI i) :: .ref (ms_ad r u) :: S) (ms_Z q w I J)) := mz_iast rfl x
theorem mi_122_48 : ms_G 122 48 [.ref a, l1, l2] S σ = ms_G 122 49 [.ref a, l1, l2] (.ref a :: S) σ := (ms_G_at rfl _ _ _).trans rfl
theorem mi_122_49 : ms_G 122 49 [l0, .ref a, l2] S σ = ms_G 122 50 [l0, .ref a, l2] (.ref a :: S) σ := (ms_G_at rfl _ _ _).trans rfl
theorem mi_122_50 : ms_G 122 50 L [.ref a0, .ref (ms_ad 19 0)] (ms_Z q w I J) = mo_cl 122 50 53 (ms_G 124 0 [.ref (ms_ad 19 0), .ref a0, .null, .null, .null] [] (ms_Z q false I J)) w L [] := (mz_call rfl rfl (mz_can1 rfl rfl rfl rfl rfl (by decide) rfl (by decide))).trans rfl
theorem mi_122_53 : ms_G 122 53 [.ref a, l1, l2] S σ = ms_G 122 54 [.ref a, l1, l2] (.ref a :: S) σ := (ms_G_at rfl _ _ _).trans rfl
theorem mi_122_54 : ms_G 122 54 L S σ = ms_G 122 55 L (.int (nI 0) :: S) σ := (ms_G_at rfl _ _ _).trans rfl
theorem mi_122_55 : ms_G 122 55 L (.int x :: .ref (ms_ad 19 0) :: S) (ms_Z q w I J) = ms_G 122 58 L S (ms_Z q true (ms_u I 19 0 (upd (I 19 0) 4 x)) J) := mz_putf rfl (by decide) rfl (by decide) rfl rfl
theorem mi_122_58 : ms_G 122 58 [.ref a, l1, l2] S σ = ms_G 122 59 [.ref a, l1, l2] (.ref a :: S) σ := (ms_G_at rfl _ _ _).trans rfl
theorem mi_122_59 : ms_G 122 59 L (.ref a :: S) σ = ms_G 122 60 L (.ref a :: .ref a :: S) σ := (ms_G_at rfl _ _ _).trans rfl
theorem mi_122_60 : ms_G 122 60 L (.ref (ms_ad 19 0) :: S) (ms_Z q w I J) = ms_G 122 63 L (.int (I 19 0 2) :: S) (ms_Z q w I J) := mz_getf (c := (0, 2)) rfl (by decide) rfl (by decide) rfl
theorem mi_122_63 : ms_G 122 63 L S σ = ms_G 122 64 L (.int (nI 1) :: S) σ := (ms_G_at rfl _ _ _).trans rfl
theorem mi_122_64 : ms_G 122 64 L (.int y :: .int x :: S) σ = ms_G 122 65 L (.int (x + y) :: S) σ := (ms_G_at rfl _ _ _).trans rfl
theorem mi_122_65 : ms_G 122 65 L (.int x :: .ref (ms_ad 19 0) :: S) (ms_Z q w I J) = ms_G 122 68 L S (ms_Z q true (ms_u I 19 0 (upd (I 19 0) 2 x)) J) := mz_putf rfl (by decide) rfl (by decide) rfl rfl
theorem mi_122_68 : ms_G 122 68 L S σ = ms_G 122 92 L S σ := (ms_G_at rfl _ _ _).trans rfl
theorem mi_122_71 : ms_G 122 71 [.ref a, l1, l2] S σ = ms_G 122 72 [.ref a, l1, l2] (.ref a :: S) σ := (ms_G_at rfl _ _ _).trans rfl
theorem mi_122_72 : ms_G 122 72 [l0, l1, .ref a] S σ = ms_G 122 73 [l0, l1, .ref a] (.ref a :: S) σ := (ms_G_at rfl _ _ _).trans rfl
theorem mi_122_73 : ms_G 122 73 L [.ref a0, .ref (ms_ad 19 0)] (ms_Z q w I J) = mo_cl 122 73 76 (ms_G 127 0 [.ref (ms_ad 19 0), .ref a0, .null, .null, .null, .null] [] (ms_Z q false I J)) w L [] := (mz_call rfl rfl (mz_can1 rfl rfl rfl rfl rfl (by decide) rfl (by decide))).trans rfl
theorem mi_122_76 : ms_G 122 76 L (.int x :: S) σ = if x = nI 0 then ms_G 122 87 L S σ else ms_G 122 79 L S σ := mz_bra rfl rfl rfl
theorem mi_122_79 : ms_G 122 79 [.ref a, l1, l2] S σ = ms_G 122 80 [.ref a, l1, l2] (.ref a :: S) σ := (ms_G_at rfl _ _ _).trans rfl
theorem mi_122_80 : ms_G 122 80 L S σ = ms_G 122 81 L (.int (nI 4) :: S) σ := (ms_G_at rfl _ _ _).trans rfl
theorem mi_122_81 : ms_G 122 81 L (.int x :: .ref (ms_ad 19 0) :: S) (ms_Z q w I J) = ms_G 122 84 L S (ms_Z q true (ms_u I 19 0 (upd (I 19 0) 2 x)) J) := mz_putf rfl (by decide) rfl (by decide) rfl rfl
theorem mi_122_84 : ms_G 122 84 L S σ = ms_G 122 92 L S σ := (ms_G_at rfl _ _ _).trans rfl
theorem mi_122_87 : ms_G 122 87 [.ref a, l1, l2] S σ = ms_G 122 88 [.ref a, l1, l2] (.ref a :: S) σ := (ms_G_at rfl _ _ _).trans rfl
theorem mi_122_88 : ms_G 122 88 L S σ = ms_G 122 89 L (.int (nI 5) :: S) σ := (ms_G_at rfl _ _ _).trans rfl
theorem mi_122_89 : ms_G 122 89 L [.int x0, .ref (ms_ad 19 0)] (ms_Z q w I J) = mo_cl 122 89 92 (ms_G 123 0 [.ref (ms_ad 19 0), .int x0] [] (ms_Z q false I J)) w L [] := (mz_call rfl rfl (mz_can1 rfl rfl rfl rfl rfl (by decide) rfl (by decide))).trans rfl
theorem mi_122_92 : ms_G 122 92 L [] σ = some (.inl none, σ) := (ms_G_at rfl _ _ _).trans rfl
-- MaskedSum$Server.fail(I)V
theorem mi_123_0 : ms_G 123 0 [.ref a, l1] S σ = ms_G 123 1 [.ref a, l1] (.ref a :: S) σ := (ms_G_at rfl _ _ _).trans rfl
theorem mi_123_1 : ms_G 123 1 L S σ = ms_G 123 2 L (.int (nI 5) :: S) σ := (ms_G_at rfl _ _ _).trans rfl
theorem mi_123_2 : ms_G 123 2 L (.int x :: .ref (ms_ad 19 0) :: S) (ms_Z q w I J) = ms_G 123 5 L S (ms_Z q true (ms_u I 19 0 (upd (I 19 0) 2 x)) J) := mz_putf rfl (by decide) rfl (by decide) rfl rfl
theorem mi_123_5 : ms_G 123 5 [.ref a, l1] S σ = ms_G 123 6 [.ref a, l1] (.ref a :: S) σ := (ms_G_at rfl _ _ _).trans rfl
theorem mi_123_6 : ms_G 123 6 [l0, .int x] S σ = ms_G 123 7 [l0, .int x] (.int x :: S) σ := (ms_G_at rfl _ _ _).trans rfl
theorem mi_123_7 : ms_G 123 7 L (.int x :: .ref (ms_ad 19 0) :: S) (ms_Z q w I J) = ms_G 123 10 L S (ms_Z q true (ms_u I 19 0 (upd (I 19 0) 3 x)) J) := mz_putf rfl (by decide) rfl (by decide) rfl rfl
theorem mi_123_10 : ms_G 123 10 L [] σ = some (.inl none, σ) := (ms_G_at rfl _ _ _).trans rfl
-- MaskedSum$Server.answerAll(LMaskedSum$Mail;)V
theorem mi_124_0 : ms_G 124 0 [.ref a, l1, l2, l3, l4] S σ = ms_G 124 1 [.ref a, l1, l2, l3, l4] (.ref a :: S) σ := (ms_G_at rfl _ _ _).trans rfl
theorem mi_124_1 : ms_G 124 1 L (.ref (ms_ad 19 0) :: S) (ms_Z q w I J) = ms_G 124 4 L (.int (I 19 0 2) :: S) (ms_Z q w I J) := mz_getf (c := (0, 2)) rfl (by decide) rfl (by decide) rfl
theorem mi_124_4 : ms_G 124 4 L S σ = ms_G 124 5 L (.int (nI 2) :: S) σ := (ms_G_at rfl _ _ _).trans rfl
theorem mi_124_5 : ms_G 124 5 L (.int y :: .int x :: S) σ = if x = y then ms_G 124 8 L S σ else ms_G 124 17 L S σ := mz_bra rfl rfl rfl
theorem mi_124_8 : ms_G 124 8 [.ref a, l1, l2, l3, l4] S σ = ms_G 124 9 [.ref a, l1, l2, l3, l4] (.ref a :: S) σ := (ms_G_at rfl _ _ _).trans rfl
theorem mi_124_9 : ms_G 124 9 L (.ref (ms_ad 19 0) :: S) (ms_Z q w I J) = ms_G 124 12 L (.ref (ms_ad 20 0) :: S) (ms_Z q w I J) := mz_getf (c := (2, 20)) rfl (by decide) rfl (by decide) rfl
theorem mi_124_12 : ms_G 124 12 L S σ = ms_G 124 13 L (.int (nI 1) :: S) σ := (ms_G_at rfl _ _ _).trans rfl
theorem mi_124_13 : ms_G 124 13 L (.int (nI i) :: .ref (ms_ad r u) :: S) (ms_Z q w I J) = cond (mo_0 q.1 r u i) (ms_G 124 14 L (.int (I r u i) :: S) (ms_Z q w I J)) (ms_raw 124 13 L (.int (nI i) :: .ref (ms_ad r u) :: S) (ms_Z q w I J)) := mz_iald rfl
theorem mi_124_14 : ms_G 124 14 L S σ = ms_G 124 26 L S σ := (ms_G_at rfl _ _ _).trans rfl
theorem mi_124_17 : ms_G 124 17 [.ref a, l1, l2, l3, l4] S σ = ms_G 124 18 [.ref a, l1, l2, l3, l4] (.ref a :: S) σ := (ms_G_at rfl _ _ _).trans rfl
theorem mi_124_18 : ms_G 124 18 L (.ref (ms_ad 19 0) :: S) (ms_Z q w I J) = ms_G 124 21 L (.ref (ms_ad 20 0) :: S) (ms_Z q w I J) := mz_getf (c := (2, 20)) rfl (by decide) rfl (by decide) rfl
theorem mi_124_21 : ms_G 124 21 [.ref a, l1, l2, l3, l4] S σ = ms_G 124 22 [.ref a, l1, l2, l3, l4] (.ref a :: S) σ := (ms_G_at rfl _ _ _).trans rfl
theorem mi_124_22 : ms_G 124 22 L (.ref (ms_ad 19 0) :: S) (ms_Z q w I J) = ms_G 124 25 L (.int (I 19 0 2) :: S) (ms_Z q w I J) := mz_getf (c := (0, 2)) rfl (by decide) rfl (by decide) rfl
theorem mi_124_25 : ms_G 124 25 L (.int (nI i) :: .ref (ms_ad r u) :: S) (ms_Z q w I J) = cond (mo_0 q.1 r u i) (ms_G 124 26 L (.int (I r u i) :: S) (ms_Z q w I J)) (ms_raw 124 25 L (.int (nI i) :: .ref (ms_ad r u) :: S) (ms_Z q w I J)) := mz_iald rfl
theorem mi_124_26 : ms_G 124 26 [l0, .ref b, l2, l3, l4] (.int x :: S) σ = ms_G 124 27 [l0, .ref b, .int x, l3, l4] S σ := (ms_G_at rfl _ _ _).trans rfl
theorem mi_124_27 : ms_G 124 27 L S σ = ms_G 124 28 L (.int (nI 0) :: S) σ := (ms_G_at rfl _ _ _).trans rfl
theorem mi_124_28 : ms_G 124 28 [l0, l1, .int y, l3, l4] (.int x :: S) σ = ms_G 124 29 [l0, l1, .int y, .int x, l4] S σ := (ms_G_at rfl _ _ _).trans rfl
theorem mi_124_29 : ms_G 124 29 [l0, l1, l2, .int x, l4] S σ = ms_G 124 30 [l0, l1, l2, .int x, l4] (.int x :: S) σ := (ms_G_at rfl _ _ _).trans rfl
theorem mi_124_30 : ms_G 124 30 L S σ = ms_G 124 32 L (.int (nI 8) :: S) σ := (ms_G_at rfl _ _ _).trans rfl
theorem mi_124_32 : ms_G 124 32 L (.int y :: .int x :: S) σ = if y ≤ x then ms_G 124 110 L S σ else ms_G 124 35 L S σ := mz_bra rfl rfl rfl
theorem mi_124_35 : ms_G 124 35 [l0, l1, .int x, l3, l4] S σ = ms_G 124 36 [l0, l1, .int x, l3, l4] (.int x :: S) σ := (ms_G_at rfl _ _ _).trans rfl
theorem mi_124_36 : ms_G 124 36 [l0, l1, l2, .int x, l4] S σ = ms_G 124 37 [l0, l1, l2, .int x, l4] (.int x :: S) σ := (ms_G_at rfl _ _ _).trans rfl
theorem mi_124_37 : ms_G 124 37 L [.int x1, .int x0] (ms_Z q w I J) = mo_cl 124 37 40 (ms_G 15 0 [.int x0, .int x1] [] (ms_Z q false I J)) w L [] := (mz_call rfl rfl (mz_can0 rfl rfl rfl rfl rfl)).trans rfl
theorem mi_124_40 : ms_G 124 40 L (.int x :: S) σ = if x = nI 0 then ms_G 124 104 L S σ else ms_G 124 43 L S σ := mz_bra rfl rfl rfl
theorem mi_124_43 : ms_G 124 43 [l0, .ref a, l2, l3, l4] S σ = ms_G 124 44 [l0, .ref a, l2, l3, l4] (.ref a :: S) σ := (ms_G_at rfl _ _ _).trans rfl
theorem mi_124_44 : ms_G 124 44 [l0, l1, l2, .int x, l4] S σ = ms_G 124 45 [l0, l1, l2, .int x, l4] (.int x :: S) σ := (ms_G_at rfl _ _ _).trans rfl
theorem mi_124_45 : ms_G 124 45 [.ref a, l1, l2, l3, l4] S σ = ms_G 124 46 [.ref a, l1, l2, l3, l4] (.ref a :: S) σ := (ms_G_at rfl _ _ _).trans rfl
theorem mi_124_46 : ms_G 124 46 L (.ref (ms_ad 19 0) :: S) (ms_Z q w I J) = ms_G 124 49 L (.int (I 19 0 2) :: S) (ms_Z q w I J) := mz_getf (c := (0, 2)) rfl (by decide) rfl (by decide) rfl
theorem mi_124_49 : ms_G 124 49 L [.int x1, .int x0, .ref (ms_ad 14 0)] (ms_Z q w I J) = mo_cl 124 49 52 (ms_G 80 0 [.ref (ms_ad 14 0), .int x0, .int x1] [] (ms_Z q false I J)) w L [] := (mz_call rfl rfl (mz_can1 rfl rfl rfl rfl rfl (by decide) rfl (by decide))).trans rfl
theorem mi_124_52 : ms_G 124 52 [l0, l1, l2, .int y, l4] (.ref a :: S) σ = ms_G 124 54 [l0, l1, l2, .int y, .ref a] S σ := (ms_G_at rfl _ _ _).trans rfl
theorem mi_124_54 : ms_G 124 54 [l0, l1, l2, l3, .ref a] S σ = ms_G 124 56 [l0, l1, l2, l3, .ref a] (.ref a :: S) σ := (ms_G_at rfl _ _ _).trans rfl
theorem mi_124_56 : ms_G 124 56 L S σ = ms_G 124 57 L (.int (nI 0) :: S) σ := (ms_G_at rfl _ _ _).trans rfl
theorem mi_124_57 : ms_G 124 57 L [.int x1, .ref a0] (ms_Z q w I J) = mo_cl 124 57 60 (ms_G 148 0 [.ref a0, .int x1, .null, .null] [] (ms_Z q false I J)) w L [] := (mz_call rfl rfl (mz_can0 rfl rfl rfl rfl rfl)).trans rfl
theorem mi_124_60 : ms_G 124 60 [l0, l1, l2, l3, .ref a] S σ = ms_G 124 62 [l0, l1, l2, l3, .ref a] (.ref a :: S) σ := (ms_G_at rfl _ _ _).trans rfl
theorem mi_124_62 : ms_G 124 62 L S σ = ms_G 124 63 L (.int (nI 0) :: S) σ := (ms_G_at rfl _ _ _).trans rfl
theorem mi_124_63 : ms_G 124 63 [.ref a, l1, l2, l3, l4] S σ = ms_G 124 64 [.ref a, l1, l2, l3, l4] (.ref a :: S) σ := (ms_G_at rfl _ _ _).trans rfl
theorem mi_124_64 : ms_G 124 64 L (.ref (ms_ad 19 0) :: S) (ms_Z q w I J) = ms_G 124 67 L (.ref (ms_ad 20 0) :: S) (ms_Z q w I J) := mz_getf (c := (2, 20)) rfl (by decide) rfl (by decide) rfl
theorem mi_124_67 : ms_G 124 67 [.ref a, l1, l2, l3, l4] S σ = ms_G 124 68 [.ref a, l1, l2, l3, l4] (.ref a :: S) σ := (ms_G_at rfl _ _ _).trans rfl
theorem mi_124_68 : ms_G 124 68 L (.ref (ms_ad 19 0) :: S) (ms_Z q w I J) = ms_G 124 71 L (.int (I 19 0 2) :: S) (ms_Z q w I J) := mz_getf (c := (0, 2)) rfl (by decide) rfl (by decide) rfl
theorem mi_124_71 : ms_G 124 71 L (.int (nI i) :: .ref (ms_ad r u) :: S) (ms_Z q w I J) = cond (mo_0 q.1 r u i) (ms_G 124 72 L (.int (I r u i) :: S) (ms_Z q w I J)) (ms_raw 124 71 L (.int (nI i) :: .ref (ms_ad r u) :: S) (ms_Z q w I J)) := mz_iald rfl
theorem mi_124_72 : ms_G 124 72 L (.int x :: .int (nI i) :: .ref (ms_ad r u) :: S) (ms_Z q w I J) = cond (mo_0 q.1 r u i) (ms_G 124 73 L S (ms_Z q true (ms_u I r u (upd (I r u) i x)) J)) (ms_raw 124 72 L (.int x :: .int (nI i) :: .ref (ms_ad r u) :: S) (ms_Z q w I J)) := mz_iast rfl x
theorem mi_124_73 : ms_G 124 73 [.ref a, l1, l2, l3, l4] S σ = ms_G 124 74 [.ref a, l1, l2, l3, l4] (.ref a :: S) σ := (ms_G_at rfl _ _ _).trans rfl
theorem mi_124_74 : ms_G 124 74 L (.ref (ms_ad 19 0) :: S) (ms_Z q w I J) = ms_G 124 77 L (.int (I 19 0 2) :: S) (ms_Z q w I J) := mz_getf (c := (0, 2)) rfl (by decide) rfl (by decide) rfl
theorem mi_124_77 : ms_G 124 77 L (.int x :: S) σ = if x = nI 0 then ms_G 124 80 L S σ else ms_G 124 89 L S σ := mz_bra rfl rfl rfl
theorem mi_124_80 : ms_G 124 80 [.ref a, l1, l2, l3, l4] S σ = ms_G 124 81 [.ref a, l1, l2, l3, l4] (.ref a :: S) σ := (ms_G_at rfl _ _ _).trans rfl
theorem mi_124_81 : ms_G 124 81 [l0, l1, l2, l3, .ref a] S σ = ms_G 124 83 [l0, l1, l2, l3, .ref a] (.ref a :: S) σ := (ms_G_at rfl _ _ _).trans rfl
theorem mi_124_83 : ms_G 124 83 L [.ref a0, .ref (ms_ad 19 0)] (ms_Z q w I J) = mo_cl 124 83 86 (ms_G 125 0 [.ref (ms_ad 19 0), .ref a0, .null] [] (ms_Z q false I J)) w L [] := (mz_call rfl rfl (mz_can1 rfl rfl rfl rfl rfl (by decide) rfl (by decide))).trans rfl
theorem mi_124_86 : ms_G 124 86 L S σ = ms_G 124 104 L S σ := (ms_G_at rfl _ _ _).trans rfl
theorem mi_124_89 : ms_G 124 89 [.ref a, l1, l2, l3, l4] S σ = ms_G 124 90 [.ref a, l1, l2, l3, l4] (.ref a :: S) σ := (ms_G_at rfl _ _ _).trans rfl
theorem mi_124_90 : ms_G 124 90 L (.ref (ms_ad 19 0) :: S) (ms_Z q w I J) = ms_G 124 93 L (.int (I 19 0 2) :: S) (ms_Z q w I J) := mz_getf (c := (0, 2)) rfl (by decide) rfl (by decide) rfl
theorem mi_124_93 : ms_G 124 93 L S σ = ms_G 124 94 L (.int (nI 1) :: S) σ := (ms_G_at rfl _ _ _).trans rfl
theorem mi_124_94 : ms_G 124 94 L (.int y :: .int x :: S) σ = if x = y then ms_G 124 97 L S σ else ms_G 124 104 L S σ := mz_bra rfl rfl rfl
theorem mi_124_97 : ms_G 124 97 [.ref a, l1, l2, l3, l4] S σ = ms_G 124 98 [.ref a, l1, l2, l3, l4] (.ref a :: S) σ := (ms_G_at rfl _ _ _).trans rfl
theorem mi_124_98 : ms_G 124 98 [l0, l1, l2, l3, .ref a] S σ = ms_G 124 100 [l0, l1, l2, l3, .ref a] (.ref a :: S) σ := (ms_G_at rfl _ _ _).trans rfl
theorem mi_124_100 : ms_G 124 100 [l0, l1, l2, .int x, l4] S σ = ms_G 124 101 [l0, l1, l2, .int x, l4] (.int x :: S) σ := (ms_G_at rfl _ _ _).trans rfl
theorem mi_124_101 : ms_G 124 101 L [.int x1, .ref a0, .ref (ms_ad 19 0)] (ms_Z q w I J) = mo_cl 124 101 104 (ms_G 126 0 [.ref (ms_ad 19 0), .ref a0, .int x1, .null] [] (ms_Z q false I J)) w L [] := (mz_call rfl rfl (mz_can1 rfl rfl rfl rfl rfl (by decide) rfl (by decide))).trans rfl
theorem mi_124_104 : ms_G 124 104 [l0, l1, .int y, .int x, l4] S σ = ms_G 124 107 [l0, l1, .int y, .int (x + nI 1), l4] S σ := (ms_G_at rfl _ _ _).trans rfl
theorem mi_124_107 : ms_G 124 107 L S σ = ms_G 124 29 L S σ := (ms_G_at rfl _ _ _).trans rfl
theorem mi_124_110 : ms_G 124 110 L [] σ = some (.inl none, σ) := (ms_G_at rfl _ _ _).trans rfl
-- MaskedSum$Server.writeKeys([I)V
theorem mi_125_0 : ms_G 125 0 L S σ = ms_G 125 1 L (.int (nI 0) :: S) σ := (ms_G_at rfl _ _ _).trans rfl
theorem mi_125_1 : ms_G 125 1 [l0, .ref b, l2] (.int x :: S) σ = ms_G 125 2 [l0, .ref b, .int x] S σ := (ms_G_at rfl _ _ _).trans rfl
theorem mi_125_2 : ms_G 125 2 [l0, l1, .int x] S σ = ms_G 125 3 [l0, l1, .int x] (.int x :: S) σ := (ms_G_at rfl _ _ _).trans rfl
theorem mi_125_3 : ms_G 125 3 L S σ = ms_G 125 5 L (.int (nI 8) :: S) σ := (ms_G_at rfl _ _ _).trans rfl
theorem mi_125_5 : ms_G 125 5 L (.int y :: .int x :: S) σ = if y ≤ x then ms_G 125 44 L S σ else ms_G 125 8 L S σ := mz_bra rfl rfl rfl
theorem mi_125_8 : ms_G 125 8 [.ref a, l1, l2] S σ = ms_G 125 9 [.ref a, l1, l2] (.ref a :: S) σ := (ms_G_at rfl _ _ _).trans rfl
theorem mi_125_9 : ms_G 125 9 L (.ref (ms_ad 19 0) :: S) (ms_Z q w I J) = ms_G 125 12 L (.ref (ms_ad 20 0) :: S) (ms_Z q w I J) := mz_getf (c := (2, 20)) rfl (by decide) rfl (by decide) rfl
theorem mi_125_12 : ms_G 125 12 L S σ = ms_G 125 13 L (.int (nI 0) :: S) σ := (ms_G_at rfl _ _ _).trans rfl
theorem mi_125_13 : ms_G 125 13 L (.int (nI i) :: .ref (ms_ad r u) :: S) (ms_Z q w I J) = cond (mo_0 q.1 r u i) (ms_G 125 14 L (.int (I r u i) :: S) (ms_Z q w I J)) (ms_raw 125 13 L (.int (nI i) :: .ref (ms_ad r u) :: S) (ms_Z q w I J)) := mz_iald rfl
theorem mi_125_14 : ms_G 125 14 [l0, l1, .int x] S σ = ms_G 125 15 [l0, l1, .int x] (.int x :: S) σ := (ms_G_at rfl _ _ _).trans rfl
theorem mi_125_15 : ms_G 125 15 L [.int x1, .int x0] (ms_Z q w I J) = mo_cl 125 15 18 (ms_G 15 0 [.int x0, .int x1] [] (ms_Z q false I J)) w L [] := (mz_call rfl rfl (mz_can0 rfl rfl rfl rfl rfl)).trans rfl
theorem mi_125_18 : ms_G 125 18 L (.int x :: S) σ = if x = nI 0 then ms_G 125 38 L S σ else ms_G 125 21 L S σ := mz_bra rfl rfl rfl
theorem mi_125_21 : ms_G 125 21 [.ref a, l1, l2] S σ = ms_G 125 22 [.ref a, l1, l2] (.ref a :: S) σ := (ms_G_at rfl _ _ _).trans rfl
theorem mi_125_22 : ms_G 125 22 L (.ref (ms_ad 19 0) :: S) (ms_Z q w I J) = ms_G 125 25 L (.ref (ms_ad 21 0) :: S) (ms_Z q w I J) := mz_getf (c := (2, 21)) rfl (by decide) rfl (by decide) rfl
theorem mi_125_25 : ms_G 125 25 [l0, l1, .int x] S σ = ms_G 125 26 [l0, l1, .int x] (.int x :: S) σ := (ms_G_at rfl _ _ _).trans rfl
theorem mi_125_26 : ms_G 125 26 L (.int (nI i) :: .ref (ms_ad r u) :: S) (ms_Z q w I J) = cond (mo_2 q.1 r u i) (ms_G 125 27 L (.ref (ms_ad (ms_er r) i) :: S) (ms_Z q w I J)) (ms_raw 125 26 L (.int (nI i) :: .ref (ms_ad r u) :: S) (ms_Z q w I J)) := mz_aald rfl
theorem mi_125_27 : ms_G 125 27 L S σ = ms_G 125 28 L (.int (nI 0) :: S) σ := (ms_G_at rfl _ _ _).trans rfl
theorem mi_125_28 : ms_G 125 28 [l0, .ref a, l2] S σ = ms_G 125 29 [l0, .ref a, l2] (.ref a :: S) σ := (ms_G_at rfl _ _ _).trans rfl
theorem mi_125_29 : ms_G 125 29 L S σ = ms_G 125 30 L (.int (nI 1) :: S) σ := (ms_G_at rfl _ _ _).trans rfl
theorem mi_125_30 : ms_G 125 30 L S σ = ms_G 125 31 L (.int (nI 4) :: S) σ := (ms_G_at rfl _ _ _).trans rfl
theorem mi_125_31 : ms_G 125 31 [l0, l1, .int x] S σ = ms_G 125 32 [l0, l1, .int x] (.int x :: S) σ := (ms_G_at rfl _ _ _).trans rfl
theorem mi_125_32 : ms_G 125 32 L (.int y :: .int x :: S) σ = ms_G 125 33 L (.int (x * y) :: S) σ := (ms_G_at rfl _ _ _).trans rfl
theorem mi_125_33 : ms_G 125 33 L (.int y :: .int x :: S) σ = ms_G 125 34 L (.int (x + y) :: S) σ := (ms_G_at rfl _ _ _).trans rfl
theorem mi_125_34 : ms_G 125 34 L S σ = ms_G 125 35 L (.int (nI 4) :: S) σ := (ms_G_at rfl _ _ _).trans rfl
theorem mi_125_35 : ms_G 125 35 L (.int (nI n) :: .int (nI dp) :: .ref (ms_ad r' u') :: .int (nI sp) :: .ref (ms_ad r u) :: []) (ms_Z q w I J) = cond (mo_c q.1 r u r' u' sp dp n) (ms_G 125 38 L [] (ms_Z q true (ms_u I r' u' (va_cpy (I r u) (I r' u') sp dp n)) J)) (ms_raw 125 35 L (.int (nI n) :: .int (nI dp) :: .ref (ms_ad r' u') :: .int (nI sp) :: .ref (ms_ad r u) :: []) (ms_Z q w I J)) := mz_acp rfl (Nat.le_of_ble_eq_true rfl)
theorem mi_125_38 : ms_G 125 38 [l0, .ref b, .int x] S σ = ms_G 125 41 [l0, .ref b, .int (x + nI 1)] S σ := (ms_G_at rfl _ _ _).trans rfl
theorem mi_125_41 : ms_G 125 41 L S σ = ms_G 125 2 L S σ := (ms_G_at rfl _ _ _).trans rfl
theorem mi_125_44 : ms_G 125 44 L [] σ = some (.inl none, σ) := (ms_G_at rfl _ _ _).trans rfl
-- MaskedSum$Server.writeBoxes([II)V
theorem mi_126_0 : ms_G 126 0 L S σ = ms_G 126 1 L (.int (nI 0) :: S) σ := (ms_G_at rfl _ _ _).trans rfl
theorem mi_126_1 : ms_G 126 1 [l0, l1, .int y, l3] (.int x :: S) σ = ms_G 126 2 [l0, l1, .int y, .int x] S σ := (ms_G_at rfl _ _ _).trans rfl
theorem mi_126_2 : ms_G 126 2 [l0, l1, l2, .int x] S σ = ms_G 126 3 [l0, l1, l2, .int x] (.int x :: S) σ := (ms_G_at rfl _ _ _).trans rfl
theorem mi_126_3 : ms_G 126 3 L S σ = ms_G 126 5 L (.int (nI 8) :: S) σ := (ms_G_at rfl _ _ _).trans rfl
theorem mi_126_5 : ms_G 126 5 L (.int y :: .int x :: S) σ = if y ≤ x then ms_G 126 54 L S σ else ms_G 126 8 L S σ := mz_bra rfl rfl rfl
theorem mi_126_8 : ms_G 126 8 [l0, l1, l2, .int x] S σ = ms_G 126 9 [l0, l1, l2, .int x] (.int x :: S) σ := (ms_G_at rfl _ _ _).trans rfl
theorem mi_126_9 : ms_G 126 9 [l0, l1, .int x, l3] S σ = ms_G 126 10 [l0, l1, .int x, l3] (.int x :: S) σ := (ms_G_at rfl _ _ _).trans rfl
theorem mi_126_10 : ms_G 126 10 L (.int y :: .int x :: S) σ = if x = y then ms_G 126 48 L S σ else ms_G 126 13 L S σ := mz_bra rfl rfl rfl
theorem mi_126_13 : ms_G 126 13 [.ref a, l1, l2, l3] S σ = ms_G 126 14 [.ref a, l1, l2, l3] (.ref a :: S) σ := (ms_G_at rfl _ _ _).trans rfl
theorem mi_126_14 : ms_G 126 14 L (.ref (ms_ad 19 0) :: S) (ms_Z q w I J) = ms_G 126 17 L (.ref (ms_ad 20 0) :: S) (ms_Z q w I J) := mz_getf (c := (2, 20)) rfl (by decide) rfl (by decide) rfl
theorem mi_126_17 : ms_G 126 17 L S σ = ms_G 126 18 L (.int (nI 1) :: S) σ := (ms_G_at rfl _ _ _).trans rfl
theorem mi_126_18 : ms_G 126 18 L (.int (nI i) :: .ref (ms_ad r u) :: S) (ms_Z q w I J) = cond (mo_0 q.1 r u i) (ms_G 126 19 L (.int (I r u i) :: S) (ms_Z q w I J)) (ms_raw 126 18 L (.int (nI i) :: .ref (ms_ad r u) :: S) (ms_Z q w I J)) := mz_iald rfl
theorem mi_126_19 : ms_G 126 19 [l0, l1, l2, .int x] S σ = ms_G 126 20 [l0, l1, l2, .int x] (.int x :: S) σ := (ms_G_at rfl _ _ _).trans rfl
theorem mi_126_20 : ms_G 126 20 L [.int x1, .int x0] (ms_Z q w I J) = mo_cl 126 20 23 (ms_G 15 0 [.int x0, .int x1] [] (ms_Z q false I J)) w L [] := (mz_call rfl rfl (mz_can0 rfl rfl rfl rfl rfl)).trans rfl
theorem mi_126_23 : ms_G 126 23 L (.int x :: S) σ = if x = nI 0 then ms_G 126 48 L S σ else ms_G 126 26 L S σ := mz_bra rfl rfl rfl
theorem mi_126_26 : ms_G 126 26 [.ref a, l1, l2, l3] S σ = ms_G 126 27 [.ref a, l1, l2, l3] (.ref a :: S) σ := (ms_G_at rfl _ _ _).trans rfl
theorem mi_126_27 : ms_G 126 27 L (.ref (ms_ad 19 0) :: S) (ms_Z q w I J) = ms_G 126 30 L (.ref (ms_ad 23 0) :: S) (ms_Z q w I J) := mz_getf (c := (2, 23)) rfl (by decide) rfl (by decide) rfl
theorem mi_126_30 : ms_G 126 30 [l0, l1, l2, .int x] S σ = ms_G 126 31 [l0, l1, l2, .int x] (.int x :: S) σ := (ms_G_at rfl _ _ _).trans rfl
theorem mi_126_31 : ms_G 126 31 L (.int (nI i) :: .ref (ms_ad r u) :: S) (ms_Z q w I J) = cond (mo_2 q.1 r u i) (ms_G 126 32 L (.ref (ms_ad (ms_er r) i) :: S) (ms_Z q w I J)) (ms_raw 126 31 L (.int (nI i) :: .ref (ms_ad r u) :: S) (ms_Z q w I J)) := mz_aald rfl
theorem mi_126_32 : ms_G 126 32 L S σ = ms_G 126 34 L (.int (nI 8) :: S) σ := (ms_G_at rfl _ _ _).trans rfl
theorem mi_126_34 : ms_G 126 34 [l0, l1, .int x, l3] S σ = ms_G 126 35 [l0, l1, .int x, l3] (.int x :: S) σ := (ms_G_at rfl _ _ _).trans rfl
theorem mi_126_35 : ms_G 126 35 L (.int y :: .int x :: S) σ = ms_G 126 36 L (.int (x * y) :: S) σ := (ms_G_at rfl _ _ _).trans rfl
theorem mi_126_36 : ms_G 126 36 [l0, .ref a, l2, l3] S σ = ms_G 126 37 [l0, .ref a, l2, l3] (.ref a :: S) σ := (ms_G_at rfl _ _ _).trans rfl
theorem mi_126_37 : ms_G 126 37 L S σ = ms_G 126 38 L (.int (nI 1) :: S) σ := (ms_G_at rfl _ _ _).trans rfl
theorem mi_126_38 : ms_G 126 38 L S σ = ms_G 126 40 L (.int (nI 8) :: S) σ := (ms_G_at rfl _ _ _).trans rfl
theorem mi_126_40 : ms_G 126 40 [l0, l1, l2, .int x] S σ = ms_G 126 41 [l0, l1, l2, .int x] (.int x :: S) σ := (ms_G_at rfl _ _ _).trans rfl
theorem mi_126_41 : ms_G 126 41 L (.int y :: .int x :: S) σ = ms_G 126 42 L (.int (x * y) :: S) σ := (ms_G_at rfl _ _ _).trans rfl
theorem mi_126_42 : ms_G 126 42 L (.int y :: .int x :: S) σ = ms_G 126 43 L (.int (x + y) :: S) σ := (ms_G_at rfl _ _ _).trans rfl
theorem mi_126_43 : ms_G 126 43 L S σ = ms_G 126 45 L (.int (nI 8) :: S) σ := (ms_G_at rfl _ _ _).trans rfl
theorem mi_126_45 : ms_G 126 45 L (.int (nI n) :: .int (nI dp) :: .ref (ms_ad r' u') :: .int (nI sp) :: .ref (ms_ad r u) :: []) (ms_Z q w I J) = cond (mo_c q.1 r u r' u' sp dp n) (ms_G 126 48 L [] (ms_Z q true (ms_u I r' u' (va_cpy (I r u) (I r' u') sp dp n)) J)) (ms_raw 126 45 L (.int (nI n) :: .int (nI dp) :: .ref (ms_ad r' u') :: .int (nI sp) :: .ref (ms_ad r u) :: []) (ms_Z q w I J)) := mz_acp rfl (Nat.le_of_ble_eq_true rfl)
theorem mi_126_48 : ms_G 126 48 [l0, l1, .int y, .int x] S σ = ms_G 126 51 [l0, l1, .int y, .int (x + nI 1)] S σ := (ms_G_at rfl _ _ _).trans rfl
theorem mi_126_51 : ms_G 126 51 L S σ = ms_G 126 2 L S σ := (ms_G_at rfl _ _ _).trans rfl
theorem mi_126_54 : ms_G 126 54 L [] σ = some (.inl none, σ) := (ms_G_at rfl _ _ _).trans rfl
-- MaskedSum$Server.unmask(LMaskedSum$Crypto;)Z
theorem mi_127_0 : ms_G 127 0 [.ref a, l1, l2, l3, l4, l5] S σ = ms_G 127 1 [.ref a, l1, l2, l3, l4, l5] (.ref a :: S) σ := (ms_G_at rfl _ _ _).trans rfl
theorem mi_127_1 : ms_G 127 1 L (.ref (ms_ad 19 0) :: S) (ms_Z q w I J) = ms_G 127 4 L (.ref (ms_ad 29 0) :: S) (ms_Z q w I J) := mz_getf (c := (2, 29)) rfl (by decide) rfl (by decide) rfl
theorem mi_127_4 : ms_G 127 4 L S σ = ms_G 127 5 L (.int (nI 0) :: S) σ := (ms_G_at rfl _ _ _).trans rfl
theorem mi_127_5 : ms_G 127 5 L [.int x1, .ref a0] (ms_Z q w I J) = mo_cl 127 5 8 (ms_G 148 0 [.ref a0, .int x1, .null, .null] [] (ms_Z q false I J)) w L [] := (mz_call rfl rfl (mz_can0 rfl rfl rfl rfl rfl)).trans rfl
theorem mi_127_8 : ms_G 127 8 L S σ = ms_G 127 9 L (.int (nI 0) :: S) σ := (ms_G_at rfl _ _ _).trans rfl
theorem mi_127_9 : ms_G 127 9 [l0, .ref b, l2, l3, l4, l5] (.int x :: S) σ = ms_G 127 10 [l0, .ref b, .int x, l3, l4, l5] S σ := (ms_G_at rfl _ _ _).trans rfl
theorem mi_127_10 : ms_G 127 10 [l0, l1, .int x, l3, l4, l5] S σ = ms_G 127 11 [l0, l1, .int x, l3, l4, l5] (.int x :: S) σ := (ms_G_at rfl _ _ _).trans rfl
theorem mi_127_11 : ms_G 127 11 L S σ = ms_G 127 13 L (.int (nI 8) :: S) σ := (ms_G_at rfl _ _ _).trans rfl
theorem mi_127_13 : ms_G 127 13 L (.int y :: .int x :: S) σ = if y ≤ x then ms_G 127 111 L S σ else ms_G 127 16 L S σ := mz_bra rfl rfl rfl
theorem mi_127_16 : ms_G 127 16 [.ref a, l1, l2, l3, l4, l5] S σ = ms_G 127 17 [.ref a, l1, l2, l3, l4, l5] (.ref a :: S) σ := (ms_G_at rfl _ _ _).trans rfl
theorem mi_127_17 : ms_G 127 17 L (.ref (ms_ad 19 0) :: S) (ms_Z q w I J) = ms_G 127 20 L (.ref (ms_ad 20 0) :: S) (ms_Z q w I J) := mz_getf (c := (2, 20)) rfl (by decide) rfl (by decide) rfl
theorem mi_127_20 : ms_G 127 20 L S σ = ms_G 127 21 L (.int (nI 1) :: S) σ := (ms_G_at rfl _ _ _).trans rfl
theorem mi_127_21 : ms_G 127 21 L (.int (nI i) :: .ref (ms_ad r u) :: S) (ms_Z q w I J) = cond (mo_0 q.1 r u i) (ms_G 127 22 L (.int (I r u i) :: S) (ms_Z q w I J)) (ms_raw 127 21 L (.int (nI i) :: .ref (ms_ad r u) :: S) (ms_Z q w I J)) := mz_iald rfl
theorem mi_127_22 : ms_G 127 22 [l0, l1, .int x, l3, l4, l5] S σ = ms_G 127 23 [l0, l1, .int x, l3, l4, l5] (.int x :: S) σ := (ms_G_at rfl _ _ _).trans rfl
theorem mi_127_23 : ms_G 127 23 L [.int x1, .int x0] (ms_Z q w I J) = mo_cl 127 23 26 (ms_G 15 0 [.int x0, .int x1] [] (ms_Z q false I J)) w L [] := (mz_call rfl rfl (mz_can0 rfl rfl rfl rfl rfl)).trans rfl
theorem mi_127_26 : ms_G 127 26 L (.int x :: S) σ = if x = nI 0 then ms_G 127 105 L S σ else ms_G 127 29 L S σ := mz_bra rfl rfl rfl
theorem mi_127_29 : ms_G 127 29 [.ref a, l1, l2, l3, l4, l5] S σ = ms_G 127 30 [.ref a, l1, l2, l3, l4, l5] (.ref a :: S) σ := (ms_G_at rfl _ _ _).trans rfl
theorem mi_127_30 : ms_G 127 30 [l0, l1, .int x, l3, l4, l5] S σ = ms_G 127 31 [l0, l1, .int x, l3, l4, l5] (.int x :: S) σ := (ms_G_at rfl _ _ _).trans rfl
theorem mi_127_31 : ms_G 127 31 L [.int x0, .ref (ms_ad 19 0)] (ms_Z q w I J) = mo_cl 127 31 34 (ms_G 128 0 [.ref (ms_ad 19 0), .int x0, .null, .null, .null] [] (ms_Z q false I J)) w L [] := (mz_call rfl rfl (mz_can1 rfl rfl rfl rfl rfl (by decide) rfl (by decide))).trans rfl
theorem mi_127_34 : ms_G 127 34 [l0, l1, .int y, l3, l4, l5] (.int x :: S) σ = ms_G 127 35 [l0, l1, .int y, .int x, l4, l5] S σ := (ms_G_at rfl _ _ _).trans rfl
theorem mi_127_35 : ms_G 127 35 [l0, l1, l2, .int x, l4, l5] S σ = ms_G 127 36 [l0, l1, l2, .int x, l4, l5] (.int x :: S) σ := (ms_G_at rfl _ _ _).trans rfl
theorem mi_127_36 : ms_G 127 36 L [.int x0] (ms_Z q w I J) = mo_cl 127 36 39 (ms_G 146 0 [.int x0] [] (ms_Z q false I J)) w L [] := (mz_call rfl rfl (mz_can0 rfl rfl rfl rfl rfl)).trans rfl
theorem mi_127_39 : ms_G 127 39 [.ref a, l1, l2, l3, l4, l5] S σ = ms_G 127 40 [.ref a, l1, l2, l3, l4, l5] (.ref a :: S) σ := (ms_G_at rfl _ _ _).trans rfl
theorem mi_127_40 : ms_G 127 40 L (.ref (ms_ad 19 0) :: S) (ms_Z q w I J) = ms_G 127 43 L (.int (I 19 0 1) :: S) (ms_Z q w I J) := mz_getf (c := (0, 1)) rfl (by decide) rfl (by decide) rfl
theorem mi_127_43 : ms_G 127 43 L (.int y :: .int x :: S) σ = if y ≤ x then ms_G 127 48 L S σ else ms_G 127 46 L S σ := mz_bra rfl rfl rfl
theorem mi_127_46 : ms_G 127 46 L S σ = ms_G 127 47 L (.int (nI 0) :: S) σ := (ms_G_at rfl _ _ _).trans rfl
theorem mi_127_47 : ms_G 127 47 L [.int (nI 0)] σ = some (.inl (some (.int (nI 0))), σ) := (ms_G_at rfl _ _ _).trans rfl
theorem mi_127_47_1 : ms_G 127 47 L [.int (nI 1)] σ = some (.inl (some (.int (nI 1))), σ) := (ms_G_at rfl _ _ _).trans rfl
theorem mi_127_47_b (B : Bool) : ms_G 127 47 L [.int (ms_b B)] σ = some (.inl (some (.int (ms_b B))), σ) := by cases B <;> exact (ms_G_at rfl _ _ _).trans rfl
theorem mi_127_48 : ms_G 127 48 [.ref a, l1, l2, l3, l4, l5] S σ = ms_G 127 49 [.ref a, l1, l2, l3, l4, l5] (.ref a :: S) σ := (ms_G_at rfl _ _ _).trans rfl
theorem mi_127_49 : ms_G 127 49 L (.ref (ms_ad 19 0) :: S) (ms_Z q w I J) = ms_G 127 52 L (.ref (ms_ad 27 0) :: S) (ms_Z q w I J) := mz_getf (c := (2, 27)) rfl (by decide) rfl (by decide) rfl
theorem mi_127_52 : ms_G 127 52 L S σ = ms_G 127 53 L (.int (nI 1) :: S) σ := (ms_G_at rfl _ _ _).trans rfl
theorem mi_127_53 : ms_G 127 53 L S σ = ms_G 127 54 L (.int (nI 2) :: S) σ := (ms_G_at rfl _ _ _).trans rfl
theorem mi_127_54 : ms_G 127 54 [l0, l1, .int x, l3, l4, l5] S σ = ms_G 127 55 [l0, l1, .int x, l3, l4, l5] (.int x :: S) σ := (ms_G_at rfl _ _ _).trans rfl
theorem mi_127_55 : ms_G 127 55 L (.int y :: .int x :: S) σ = ms_G 127 56 L (.int (x * y) :: S) σ := (ms_G_at rfl _ _ _).trans rfl
theorem mi_127_56 : ms_G 127 56 L (.int y :: .int x :: S) σ = ms_G 127 57 L (.int (x + y) :: S) σ := (ms_G_at rfl _ _ _).trans rfl
theorem mi_127_57 : ms_G 127 57 [l0, l1, l2, .int x, l4, l5] S σ = ms_G 127 58 [l0, l1, l2, .int x, l4, l5] (.int x :: S) σ := (ms_G_at rfl _ _ _).trans rfl
theorem mi_127_58 : ms_G 127 58 L [.int x2, .int x1, .ref a0] (ms_Z q w I J) = mo_cl 127 58 61 (ms_G 132 0 [.ref a0, .int x1, .int x2, .null, .null, .null, .null, .null, .null, .null, .null] [] (ms_Z q false I J)) w L [] := (mz_call rfl rfl (mz_can0 rfl rfl rfl rfl rfl)).trans rfl
theorem mi_127_61 : ms_G 127 61 [l0, l1, l2, .int y, l4, l5] (.long X :: S) σ = ms_G 127 63 [l0, l1, l2, .int y, .long X, .null] S σ := (ms_G_at rfl _ _ _).trans rfl
theorem mi_127_63 : ms_G 127 63 [.ref a, l1, l2, l3, l4, l5] S σ = ms_G 127 64 [.ref a, l1, l2, l3, l4, l5] (.ref a :: S) σ := (ms_G_at rfl _ _ _).trans rfl
theorem mi_127_64 : ms_G 127 64 L (.ref (ms_ad 19 0) :: S) (ms_Z q w I J) = ms_G 127 67 L (.ref (ms_ad 20 0) :: S) (ms_Z q w I J) := mz_getf (c := (2, 20)) rfl (by decide) rfl (by decide) rfl
theorem mi_127_67 : ms_G 127 67 L S σ = ms_G 127 68 L (.int (nI 2) :: S) σ := (ms_G_at rfl _ _ _).trans rfl
theorem mi_127_68 : ms_G 127 68 L (.int (nI i) :: .ref (ms_ad r u) :: S) (ms_Z q w I J) = cond (mo_0 q.1 r u i) (ms_G 127 69 L (.int (I r u i) :: S) (ms_Z q w I J)) (ms_raw 127 68 L (.int (nI i) :: .ref (ms_ad r u) :: S) (ms_Z q w I J)) := mz_iald rfl
theorem mi_127_69 : ms_G 127 69 [l0, l1, .int x, l3, l4, l5] S σ = ms_G 127 70 [l0, l1, .int x, l3, l4, l5] (.int x :: S) σ := (ms_G_at rfl _ _ _).trans rfl
theorem mi_127_70 : ms_G 127 70 L [.int x1, .int x0] (ms_Z q w I J) = mo_cl 127 70 73 (ms_G 15 0 [.int x0, .int x1] [] (ms_Z q false I J)) w L [] := (mz_call rfl rfl (mz_can0 rfl rfl rfl rfl rfl)).trans rfl
theorem mi_127_73 : ms_G 127 73 L (.int x :: S) σ = if x = nI 0 then ms_G 127 97 L S σ else ms_G 127 76 L S σ := mz_bra rfl rfl rfl
theorem mi_127_76 : ms_G 127 76 [.ref a, l1, l2, l3, l4, l5] S σ = ms_G 127 77 [.ref a, l1, l2, l3, l4, l5] (.ref a :: S) σ := (ms_G_at rfl _ _ _).trans rfl
theorem mi_127_77 : ms_G 127 77 [l0, l1, .int x, l3, l4, l5] S σ = ms_G 127 78 [l0, l1, .int x, l3, l4, l5] (.int x :: S) σ := (ms_G_at rfl _ _ _).trans rfl
theorem mi_127_78 : ms_G 127 78 L [.int x0, .ref (ms_ad 19 0)] (ms_Z q w I J) = mo_cl 127 78 81 (ms_G 129 0 [.ref (ms_ad 19 0), .int x0, .null] [] (ms_Z q false I J)) w L [] := (mz_call rfl rfl (mz_can1 rfl rfl rfl rfl rfl (by decide) rfl (by decide))).trans rfl
theorem mi_127_81 : ms_G 127 81 [l0, .ref a, l2, l3, l4, l5] S σ = ms_G 127 82 [l0, .ref a, l2, l3, l4, l5] (.ref a :: S) σ := (ms_G_at rfl _ _ _).trans rfl
theorem mi_127_82 : ms_G 127 82 [.ref a, l1, l2, l3, l4, l5] S σ = ms_G 127 83 [.ref a, l1, l2, l3, l4, l5] (.ref a :: S) σ := (ms_G_at rfl _ _ _).trans rfl
theorem mi_127_83 : ms_G 127 83 L (.ref (ms_ad 19 0) :: S) (ms_Z q w I J) = ms_G 127 86 L (.ref (ms_ad 29 0) :: S) (ms_Z q w I J) := mz_getf (c := (2, 29)) rfl (by decide) rfl (by decide) rfl
theorem mi_127_86 : ms_G 127 86 L S σ = ms_G 127 87 L (.int (nI 0) :: S) σ := (ms_G_at rfl _ _ _).trans rfl
theorem mi_127_87 : ms_G 127 87 [l0, l1, l2, l3, .long X, l5] S σ = ms_G 127 89 [l0, l1, l2, l3, .long X, l5] (.long X :: S) σ := (ms_G_at rfl _ _ _).trans rfl
theorem mi_127_89 : ms_G 127 89 L S σ = ms_G 127 90 L (.int (nI 0) :: S) σ := (ms_G_at rfl _ _ _).trans rfl
theorem mi_127_90 : ms_G 127 90 [l0, l1, .int x, l3, l4, l5] S σ = ms_G 127 91 [l0, l1, .int x, l3, l4, l5] (.int x :: S) σ := (ms_G_at rfl _ _ _).trans rfl
theorem mi_127_91 : ms_G 127 91 L [.int x4, .int x3, .long X2, .int x1, .ref a0, .ref (ms_ad 4 0)] (ms_Z q w I J) = mo_cl 127 91 94 (ms_G 70 0 [.ref (ms_ad 4 0), .ref a0, .int x1, .long X2, .null, .int x3, .int x4, .null, .null] [] (ms_Z q false I J)) w L [] := (mz_call rfl rfl (mz_can1 rfl rfl rfl rfl rfl (by decide) rfl (by decide))).trans rfl
theorem mi_127_94 : ms_G 127 94 L S σ = ms_G 127 105 L S σ := (ms_G_at rfl _ _ _).trans rfl
theorem mi_127_97 : ms_G 127 97 [.ref a, l1, l2, l3, l4, l5] S σ = ms_G 127 98 [.ref a, l1, l2, l3, l4, l5] (.ref a :: S) σ := (ms_G_at rfl _ _ _).trans rfl
theorem mi_127_98 : ms_G 127 98 [l0, l1, .int x, l3, l4, l5] S σ = ms_G 127 99 [l0, l1, .int x, l3, l4, l5] (.int x :: S) σ := (ms_G_at rfl _ _ _).trans rfl
theorem mi_127_99 : ms_G 127 99 [l0, l1, l2, l3, .long X, l5] S σ = ms_G 127 101 [l0, l1, l2, l3, .long X, l5] (.long X :: S) σ := (ms_G_at rfl _ _ _).trans rfl
theorem mi_127_101 : ms_G 127 101 [l0, .ref a, l2, l3, l4, l5] S σ = ms_G 127 102 [l0, .ref a, l2, l3, l4, l5] (.ref a :: S) σ := (ms_G_at rfl _ _ _).trans rfl
theorem mi_127_102 : ms_G 127 102 L [.ref a2, .long X1, .int x0, .ref (ms_ad 19 0)] (ms_Z q w I J) = mo_cl 127 102 105 (ms_G 130 0 [.ref (ms_ad 19 0), .int x0, .long X1, .null, .ref a2, .null, .null, .null] [] (ms_Z q false I J)) w L [] := (mz_call rfl rfl (mz_can1 rfl rfl rfl rfl rfl (by decide) rfl (by decide))).trans rfl
theorem mi_127_105 : ms_G 127 105 [l0, .ref b, .int x, l3, l4, l5] S σ = ms_G 127 108 [l0, .ref b, .int (x + nI 1), l3, l4, l5] S σ := (ms_G_at rfl _ _ _).trans rfl
theorem mi_127_108 : ms_G 127 108 L S σ = ms_G 127 10 L S σ := (ms_G_at rfl _ _ _).trans rfl
theorem mi_127_111 : ms_G 127 111 L S σ = ms_G 127 112 L (.int (nI 1) :: S) σ := (ms_G_at rfl _ _ _).trans rfl
theorem mi_127_112 : ms_G 127 112 L [.int (nI 0)] σ = some (.inl (some (.int (nI 0))), σ) := (ms_G_at rfl _ _ _).trans rfl
theorem mi_127_112_1 : ms_G 127 112 L [.int (nI 1)] σ = some (.inl (some (.int (nI 1))), σ) := (ms_G_at rfl _ _ _).trans rfl
theorem mi_127_112_b (B : Bool) : ms_G 127 112 L [.int (ms_b B)] σ = some (.inl (some (.int (ms_b B))), σ) := by cases B <;> exact (ms_G_at rfl _ _ _).trans rfl
-- MaskedSum$Server.lowestHolders(I)I
theorem mi_128_0 : ms_G 128 0 L S σ = ms_G 128 1 L (.int (nI 0) :: S) σ := (ms_G_at rfl _ _ _).trans rfl
theorem mi_128_1 : ms_G 128 1 [l0, .int y, l2, l3, l4] (.int x :: S) σ = ms_G 128 2 [l0, .int y, .int x, l3, l4] S σ := (ms_G_at rfl _ _ _).trans rfl
theorem mi_128_2 : ms_G 128 2 L S σ = ms_G 128 3 L (.int (nI 0) :: S) σ := (ms_G_at rfl _ _ _).trans rfl
theorem mi_128_3 : ms_G 128 3 [l0, l1, .int y, l3, l4] (.int x :: S) σ = ms_G 128 4 [l0, l1, .int y, .int x, l4] S σ := (ms_G_at rfl _ _ _).trans rfl
theorem mi_128_4 : ms_G 128 4 [l0, l1, l2, .int x, l4] S σ = ms_G 128 5 [l0, l1, l2, .int x, l4] (.int x :: S) σ := (ms_G_at rfl _ _ _).trans rfl
theorem mi_128_5 : ms_G 128 5 L S σ = ms_G 128 7 L (.int (nI 8) :: S) σ := (ms_G_at rfl _ _ _).trans rfl
theorem mi_128_7 : ms_G 128 7 L (.int y :: .int x :: S) σ = if y ≤ x then ms_G 128 71 L S σ else ms_G 128 10 L S σ := mz_bra rfl rfl rfl
theorem mi_128_10 : ms_G 128 10 [.ref a, l1, l2, l3, l4] S σ = ms_G 128 11 [.ref a, l1, l2, l3, l4] (.ref a :: S) σ := (ms_G_at rfl _ _ _).trans rfl
theorem mi_128_11 : ms_G 128 11 L (.ref (ms_ad 19 0) :: S) (ms_Z q w I J) = ms_G 128 14 L (.int (I 19 0 4) :: S) (ms_Z q w I J) := mz_getf (c := (0, 4)) rfl (by decide) rfl (by decide) rfl
theorem mi_128_14 : ms_G 128 14 [l0, l1, l2, .int x, l4] S σ = ms_G 128 15 [l0, l1, l2, .int x, l4] (.int x :: S) σ := (ms_G_at rfl _ _ _).trans rfl
theorem mi_128_15 : ms_G 128 15 L [.int x1, .int x0] (ms_Z q w I J) = mo_cl 128 15 18 (ms_G 15 0 [.int x0, .int x1] [] (ms_Z q false I J)) w L [] := (mz_call rfl rfl (mz_can0 rfl rfl rfl rfl rfl)).trans rfl
theorem mi_128_18 : ms_G 128 18 L (.int x :: S) σ = if x = nI 0 then ms_G 128 40 L S σ else ms_G 128 21 L S σ := mz_bra rfl rfl rfl
theorem mi_128_21 : ms_G 128 21 [.ref a, l1, l2, l3, l4] S σ = ms_G 128 22 [.ref a, l1, l2, l3, l4] (.ref a :: S) σ := (ms_G_at rfl _ _ _).trans rfl
theorem mi_128_22 : ms_G 128 22 L (.ref (ms_ad 19 0) :: S) (ms_Z q w I J) = ms_G 128 25 L (.ref (ms_ad 27 0) :: S) (ms_Z q w I J) := mz_getf (c := (2, 27)) rfl (by decide) rfl (by decide) rfl
theorem mi_128_25 : ms_G 128 25 [l0, l1, l2, .int x, l4] S σ = ms_G 128 26 [l0, l1, l2, .int x, l4] (.int x :: S) σ := (ms_G_at rfl _ _ _).trans rfl
theorem mi_128_26 : ms_G 128 26 L (.int (nI i) :: .ref (ms_ad r u) :: S) (ms_Z q w I J) = cond (mo_2 q.1 r u i) (ms_G 128 27 L (.ref (ms_ad (ms_er r) i) :: S) (ms_Z q w I J)) (ms_raw 128 26 L (.int (nI i) :: .ref (ms_ad r u) :: S) (ms_Z q w I J)) := mz_aald rfl
theorem mi_128_27 : ms_G 128 27 L S σ = ms_G 128 28 L (.int (nI 0) :: S) σ := (ms_G_at rfl _ _ _).trans rfl
theorem mi_128_28 : ms_G 128 28 L (.int (nI i) :: .ref (ms_ad r u) :: S) (ms_Z q w I J) = cond (mo_0 q.1 r u i) (ms_G 128 29 L (.int (I r u i) :: S) (ms_Z q w I J)) (ms_raw 128 28 L (.int (nI i) :: .ref (ms_ad r u) :: S) (ms_Z q w I J)) := mz_iald rfl
theorem mi_128_29 : ms_G 128 29 [l0, .int x, l2, l3, l4] S σ = ms_G 128 30 [l0, .int x, l2, l3, l4] (.int x :: S) σ := (ms_G_at rfl _ _ _).trans rfl
theorem mi_128_30 : ms_G 128 30 L [.int x1, .int x0] (ms_Z q w I J) = mo_cl 128 30 33 (ms_G 15 0 [.int x0, .int x1] [] (ms_Z q false I J)) w L [] := (mz_call rfl rfl (mz_can0 rfl rfl rfl rfl rfl)).trans rfl
theorem mi_128_33 : ms_G 128 33 L (.int x :: S) σ = if x = nI 0 then ms_G 128 40 L S σ else ms_G 128 36 L S σ := mz_bra rfl rfl rfl
theorem mi_128_36 : ms_G 128 36 L S σ = ms_G 128 37 L (.int (nI 1) :: S) σ := (ms_G_at rfl _ _ _).trans rfl
theorem mi_128_37 : ms_G 128 37 L S σ = ms_G 128 41 L S σ := (ms_G_at rfl _ _ _).trans rfl
theorem mi_128_40 : ms_G 128 40 L S σ = ms_G 128 41 L (.int (nI 0) :: S) σ := (ms_G_at rfl _ _ _).trans rfl
theorem mi_128_41 : ms_G 128 41 [l0, l1, l2, .int y, l4] (.int x :: S) σ = ms_G 128 43 [l0, l1, l2, .int y, .int x] S σ := (ms_G_at rfl _ _ _).trans rfl
theorem mi_128_43 : ms_G 128 43 [l0, l1, l2, l3, .int x] S σ = ms_G 128 45 [l0, l1, l2, l3, .int x] (.int x :: S) σ := (ms_G_at rfl _ _ _).trans rfl
theorem mi_128_45 : ms_G 128 45 L (.int x :: S) σ = if x = nI 0 then ms_G 128 65 L S σ else ms_G 128 48 L S σ := mz_bra rfl rfl rfl
theorem mi_128_48 : ms_G 128 48 [l0, l1, .int x, l3, l4] S σ = ms_G 128 49 [l0, l1, .int x, l3, l4] (.int x :: S) σ := (ms_G_at rfl _ _ _).trans rfl
theorem mi_128_49 : ms_G 128 49 L [.int x0] (ms_Z q w I J) = mo_cl 128 49 52 (ms_G 146 0 [.int x0] [] (ms_Z q false I J)) w L [] := (mz_call rfl rfl (mz_can0 rfl rfl rfl rfl rfl)).trans rfl
theorem mi_128_52 : ms_G 128 52 [.ref a, l1, l2, l3, l4] S σ = ms_G 128 53 [.ref a, l1, l2, l3, l4] (.ref a :: S) σ := (ms_G_at rfl _ _ _).trans rfl
theorem mi_128_53 : ms_G 128 53 L (.ref (ms_ad 19 0) :: S) (ms_Z q w I J) = ms_G 128 56 L (.int (I 19 0 1) :: S) (ms_Z q w I J) := mz_getf (c := (0, 1)) rfl (by decide) rfl (by decide) rfl
theorem mi_128_56 : ms_G 128 56 L (.int y :: .int x :: S) σ = if y ≤ x then ms_G 128 65 L S σ else ms_G 128 59 L S σ := mz_bra rfl rfl rfl
theorem mi_128_59 : ms_G 128 59 [l0, l1, .int x, l3, l4] S σ = ms_G 128 60 [l0, l1, .int x, l3, l4] (.int x :: S) σ := (ms_G_at rfl _ _ _).trans rfl
theorem mi_128_60 : ms_G 128 60 L S σ = ms_G 128 61 L (.int (nI 1) :: S) σ := (ms_G_at rfl _ _ _).trans rfl
theorem mi_128_61 : ms_G 128 61 [l0, l1, l2, .int x, l4] S σ = ms_G 128 62 [l0, l1, l2, .int x, l4] (.int x :: S) σ := (ms_G_at rfl _ _ _).trans rfl
theorem mi_128_62 : ms_G 128 62 L (.int y :: .int x :: S) σ = ms_G 128 63 L (.int (x <<< (y &&& 31)) :: S) σ := (ms_G_at rfl _ _ _).trans rfl
theorem mi_128_63 : ms_G 128 63 L (.int y :: .int x :: S) σ = ms_G 128 64 L (.int (x ||| y) :: S) σ := (ms_G_at rfl _ _ _).trans rfl
theorem mi_128_64 : ms_G 128 64 [l0, .int y, l2, l3, l4] (.int x :: S) σ = ms_G 128 65 [l0, .int y, .int x, l3, l4] S σ := (ms_G_at rfl _ _ _).trans rfl
theorem mi_128_65 : ms_G 128 65 [l0, l1, .int y, .int x, l4] S σ = ms_G 128 68 [l0, l1, .int y, .int (x + nI 1), l4] S σ := (ms_G_at rfl _ _ _).trans rfl
theorem mi_128_68 : ms_G 128 68 L S σ = ms_G 128 4 L S σ := (ms_G_at rfl _ _ _).trans rfl
theorem mi_128_71 : ms_G 128 71 [l0, l1, .int x, l3, l4] S σ = ms_G 128 72 [l0, l1, .int x, l3, l4] (.int x :: S) σ := (ms_G_at rfl _ _ _).trans rfl
theorem mi_128_72 : ms_G 128 72 L [.int x] σ = some (.inl (some (.int x)), σ) := (ms_G_at rfl _ _ _).trans rfl
-- MaskedSum$Server.addMasked(I)V
theorem mi_129_0 : ms_G 129 0 L S σ = ms_G 129 1 L (.int (nI 0) :: S) σ := (ms_G_at rfl _ _ _).trans rfl
theorem mi_129_1 : ms_G 129 1 [l0, .int y, l2] (.int x :: S) σ = ms_G 129 2 [l0, .int y, .int x] S σ := (ms_G_at rfl _ _ _).trans rfl
theorem mi_129_2 : ms_G 129 2 [l0, l1, .int x] S σ = ms_G 129 3 [l0, l1, .int x] (.int x :: S) σ := (ms_G_at rfl _ _ _).trans rfl
theorem mi_129_3 : ms_G 129 3 L S σ = ms_G 129 4 L (.int (nI 4) :: S) σ := (ms_G_at rfl _ _ _).trans rfl
theorem mi_129_4 : ms_G 129 4 L (.int y :: .int x :: S) σ = if y ≤ x then ms_G 129 30 L S σ else ms_G 129 7 L S σ := mz_bra rfl rfl rfl
theorem mi_129_7 : ms_G 129 7 [.ref a, l1, l2] S σ = ms_G 129 8 [.ref a, l1, l2] (.ref a :: S) σ := (ms_G_at rfl _ _ _).trans rfl
theorem mi_129_8 : ms_G 129 8 L (.ref (ms_ad 19 0) :: S) (ms_Z q w I J) = ms_G 129 11 L (.ref (ms_ad 29 0) :: S) (ms_Z q w I J) := mz_getf (c := (2, 29)) rfl (by decide) rfl (by decide) rfl
theorem mi_129_11 : ms_G 129 11 [l0, l1, .int x] S σ = ms_G 129 12 [l0, l1, .int x] (.int x :: S) σ := (ms_G_at rfl _ _ _).trans rfl
theorem mi_129_12 : ms_G 129 12 L (.int x :: .ref b :: S) σ = ms_G 129 13 L (.int x :: .ref b :: .int x :: .ref b :: S) σ := (ms_G_at rfl _ _ _).trans rfl
theorem mi_129_13 : ms_G 129 13 L (.int (nI i) :: .ref (ms_ad r u) :: S) (ms_Z q w I J) = cond (mo_0 q.1 r u i) (ms_G 129 14 L (.int (I r u i) :: S) (ms_Z q w I J)) (ms_raw 129 13 L (.int (nI i) :: .ref (ms_ad r u) :: S) (ms_Z q w I J)) := mz_iald rfl
theorem mi_129_14 : ms_G 129 14 [.ref a, l1, l2] S σ = ms_G 129 15 [.ref a, l1, l2] (.ref a :: S) σ := (ms_G_at rfl _ _ _).trans rfl
theorem mi_129_15 : ms_G 129 15 L (.ref (ms_ad 19 0) :: S) (ms_Z q w I J) = ms_G 129 18 L (.ref (ms_ad 25 0) :: S) (ms_Z q w I J) := mz_getf (c := (2, 25)) rfl (by decide) rfl (by decide) rfl
theorem mi_129_18 : ms_G 129 18 [l0, .int x, l2] S σ = ms_G 129 19 [l0, .int x, l2] (.int x :: S) σ := (ms_G_at rfl _ _ _).trans rfl
theorem mi_129_19 : ms_G 129 19 L (.int (nI i) :: .ref (ms_ad r u) :: S) (ms_Z q w I J) = cond (mo_2 q.1 r u i) (ms_G 129 20 L (.ref (ms_ad (ms_er r) i) :: S) (ms_Z q w I J)) (ms_raw 129 19 L (.int (nI i) :: .ref (ms_ad r u) :: S) (ms_Z q w I J)) := mz_aald rfl
theorem mi_129_20 : ms_G 129 20 [l0, l1, .int x] S σ = ms_G 129 21 [l0, l1, .int x] (.int x :: S) σ := (ms_G_at rfl _ _ _).trans rfl
theorem mi_129_21 : ms_G 129 21 L (.int (nI i) :: .ref (ms_ad r u) :: S) (ms_Z q w I J) = cond (mo_0 q.1 r u i) (ms_G 129 22 L (.int (I r u i) :: S) (ms_Z q w I J)) (ms_raw 129 21 L (.int (nI i) :: .ref (ms_ad r u) :: S) (ms_Z q w I J)) := mz_iald rfl
theorem mi_129_22 : ms_G 129 22 L (.int y :: .int x :: S) σ = ms_G 129 23 L (.int (x + y) :: S) σ := (ms_G_at rfl _ _ _).trans rfl
theorem mi_129_23 : ms_G 129 23 L (.int x :: .int (nI i) :: .ref (ms_ad r u) :: S) (ms_Z q w I J) = cond (mo_0 q.1 r u i) (ms_G 129 24 L S (ms_Z q true (ms_u I r u (upd (I r u) i x)) J)) (ms_raw 129 23 L (.int x :: .int (nI i) :: .ref (ms_ad r u) :: S) (ms_Z q w I J)) := mz_iast rfl x
theorem mi_129_24 : ms_G 129 24 [l0, .int y, .int x] S σ = ms_G 129 27 [l0, .int y, .int (x + nI 1)] S σ := (ms_G_at rfl _ _ _).trans rfl
theorem mi_129_27 : ms_G 129 27 L S σ = ms_G 129 2 L S σ := (ms_G_at rfl _ _ _).trans rfl
theorem mi_129_30 : ms_G 129 30 L [] σ = some (.inl none, σ) := (ms_G_at rfl _ _ _).trans rfl
-- MaskedSum$Server.takePairsOff(IJLMaskedSum$Crypto;)V
theorem mi_130_0 : ms_G 130 0 L S σ = ms_G 130 1 L (.int (nI 0) :: S) σ := (ms_G_at rfl _ _ _).trans rfl
theorem mi_130_1 : ms_G 130 1 [l0, l1, l2, l3, .ref b, l5, l6, l7] (.int x :: S) σ = ms_G 130 3 [l0, l1, l2, l3, .ref b, .int x, l6, l7] S σ := (ms_G_at rfl _ _ _).trans rfl
theorem mi_130_3 : ms_G 130 3 [l0, l1, l2, l3, l4, .int x, l6, l7] S σ = ms_G 130 5 [l0, l1, l2, l3, l4, .int x, l6, l7] (.int x :: S) σ := (ms_G_at rfl _ _ _).trans rfl
theorem mi_130_5 : ms_G 130 5 L S σ = ms_G 130 7 L (.int (nI 8) :: S) σ := (ms_G_at rfl _ _ _).trans rfl
theorem mi_130_7 : ms_G 130 7 L (.int y :: .int x :: S) σ = if y ≤ x then ms_G 130 71 L S σ else ms_G 130 10 L S σ := mz_bra rfl rfl rfl
theorem mi_130_10 : ms_G 130 10 [.ref a, l1, l2, l3, l4, l5, l6, l7] S σ = ms_G 130 11 [.ref a, l1, l2, l3, l4, l5, l6, l7] (.ref a :: S) σ := (ms_G_at rfl _ _ _).trans rfl
theorem mi_130_11 : ms_G 130 11 L (.ref (ms_ad 19 0) :: S) (ms_Z q w I J) = ms_G 130 14 L (.ref (ms_ad 20 0) :: S) (ms_Z q w I J) := mz_getf (c := (2, 20)) rfl (by decide) rfl (by decide) rfl
theorem mi_130_14 : ms_G 130 14 L S σ = ms_G 130 15 L (.int (nI 2) :: S) σ := (ms_G_at rfl _ _ _).trans rfl
theorem mi_130_15 : ms_G 130 15 L (.int (nI i) :: .ref (ms_ad r u) :: S) (ms_Z q w I J) = cond (mo_0 q.1 r u i) (ms_G 130 16 L (.int (I r u i) :: S) (ms_Z q w I J)) (ms_raw 130 15 L (.int (nI i) :: .ref (ms_ad r u) :: S) (ms_Z q w I J)) := mz_iald rfl
theorem mi_130_16 : ms_G 130 16 [l0, l1, l2, l3, l4, .int x, l6, l7] S σ = ms_G 130 18 [l0, l1, l2, l3, l4, .int x, l6, l7] (.int x :: S) σ := (ms_G_at rfl _ _ _).trans rfl
theorem mi_130_18 : ms_G 130 18 L [.int x1, .int x0] (ms_Z q w I J) = mo_cl 130 18 21 (ms_G 15 0 [.int x0, .int x1] [] (ms_Z q false I J)) w L [] := (mz_call rfl rfl (mz_can0 rfl rfl rfl rfl rfl)).trans rfl
theorem mi_130_21 : ms_G 130 21 L (.int x :: S) σ = if x = nI 0 then ms_G 130 65 L S σ else ms_G 130 24 L S σ := mz_bra rfl rfl rfl
theorem mi_130_24 : ms_G 130 24 [.ref a, l1, l2, l3, l4, l5, l6, l7] S σ = ms_G 130 25 [.ref a, l1, l2, l3, l4, l5, l6, l7] (.ref a :: S) σ := (ms_G_at rfl _ _ _).trans rfl
theorem mi_130_25 : ms_G 130 25 L (.ref (ms_ad 19 0) :: S) (ms_Z q w I J) = ms_G 130 28 L (.ref (ms_ad 21 0) :: S) (ms_Z q w I J) := mz_getf (c := (2, 21)) rfl (by decide) rfl (by decide) rfl
theorem mi_130_28 : ms_G 130 28 [l0, l1, l2, l3, l4, .int x, l6, l7] S σ = ms_G 130 30 [l0, l1, l2, l3, l4, .int x, l6, l7] (.int x :: S) σ := (ms_G_at rfl _ _ _).trans rfl
theorem mi_130_30 : ms_G 130 30 L (.int (nI i) :: .ref (ms_ad r u) :: S) (ms_Z q w I J) = cond (mo_2 q.1 r u i) (ms_G 130 31 L (.ref (ms_ad (ms_er r) i) :: S) (ms_Z q w I J)) (ms_raw 130 30 L (.int (nI i) :: .ref (ms_ad r u) :: S) (ms_Z q w I J)) := mz_aald rfl
theorem mi_130_31 : ms_G 130 31 L S σ = ms_G 130 32 L (.int (nI 0) :: S) σ := (ms_G_at rfl _ _ _).trans rfl
theorem mi_130_32 : ms_G 130 32 L [.int x1, .ref a0] (ms_Z q w I J) = mo_cl 130 32 35 (ms_G 85 0 [.ref a0, .int x1] [] (ms_Z q false I J)) w L [] := (mz_call rfl rfl (mz_can0 rfl rfl rfl rfl rfl)).trans rfl
theorem mi_130_35 : ms_G 130 35 [l0, l1, .long X, l3, l4, l5, l6, l7] S σ = ms_G 130 36 [l0, l1, .long X, l3, l4, l5, l6, l7] (.long X :: S) σ := (ms_G_at rfl _ _ _).trans rfl
theorem mi_130_36 : ms_G 130 36 L [.long X1, .long X0] (ms_Z q w I J) = mo_cl 130 36 39 (ms_G 91 0 [.long X0, .null, .long X1, .null, .null, .null, .null, .null, .null] [] (ms_Z q false I J)) w L [] := (mz_call rfl rfl (mz_can0 rfl rfl rfl rfl rfl)).trans rfl
theorem mi_130_39 : ms_G 130 39 [l0, l1, l2, l3, l4, .int y, l6, l7] (.long X :: S) σ = ms_G 130 41 [l0, l1, l2, l3, l4, .int y, .long X, .null] S σ := (ms_G_at rfl _ _ _).trans rfl
theorem mi_130_41 : ms_G 130 41 [l0, l1, l2, l3, .ref a, l5, l6, l7] S σ = ms_G 130 43 [l0, l1, l2, l3, .ref a, l5, l6, l7] (.ref a :: S) σ := (ms_G_at rfl _ _ _).trans rfl
theorem mi_130_43 : ms_G 130 43 [.ref a, l1, l2, l3, l4, l5, l6, l7] S σ = ms_G 130 44 [.ref a, l1, l2, l3, l4, l5, l6, l7] (.ref a :: S) σ := (ms_G_at rfl _ _ _).trans rfl
theorem mi_130_44 : ms_G 130 44 L (.ref (ms_ad 19 0) :: S) (ms_Z q w I J) = ms_G 130 47 L (.ref (ms_ad 29 0) :: S) (ms_Z q w I J) := mz_getf (c := (2, 29)) rfl (by decide) rfl (by decide) rfl
theorem mi_130_47 : ms_G 130 47 [l0, .int x, l2, l3, l4, l5, l6, l7] S σ = ms_G 130 48 [l0, .int x, l2, l3, l4, l5, l6, l7] (.int x :: S) σ := (ms_G_at rfl _ _ _).trans rfl
theorem mi_130_48 : ms_G 130 48 [l0, l1, l2, l3, l4, .int x, l6, l7] S σ = ms_G 130 50 [l0, l1, l2, l3, l4, .int x, l6, l7] (.int x :: S) σ := (ms_G_at rfl _ _ _).trans rfl
theorem mi_130_50 : ms_G 130 50 L (.int y :: .int x :: S) σ = if y ≤ x then ms_G 130 57 L S σ else ms_G 130 53 L S σ := mz_bra rfl rfl rfl
theorem mi_130_53 : ms_G 130 53 L S σ = ms_G 130 54 L (.int (nI 1) :: S) σ := (ms_G_at rfl _ _ _).trans rfl
theorem mi_130_54 : ms_G 130 54 L S σ = ms_G 130 58 L S σ := (ms_G_at rfl _ _ _).trans rfl
theorem mi_130_57 : ms_G 130 57 L S σ = ms_G 130 58 L (.int (nI 0) :: S) σ := (ms_G_at rfl _ _ _).trans rfl
theorem mi_130_58 : ms_G 130 58 [l0, l1, l2, l3, l4, l5, .long X, l7] S σ = ms_G 130 60 [l0, l1, l2, l3, l4, l5, .long X, l7] (.long X :: S) σ := (ms_G_at rfl _ _ _).trans rfl
theorem mi_130_60 : ms_G 130 60 L S σ = ms_G 130 61 L (.int (nI 1) :: S) σ := (ms_G_at rfl _ _ _).trans rfl
theorem mi_130_61 : ms_G 130 61 L S σ = ms_G 130 62 L (.int (nI 0) :: S) σ := (ms_G_at rfl _ _ _).trans rfl
theorem mi_130_62 : ms_G 130 62 L [.int x4, .int x3, .long X2, .int x1, .ref a0, .ref (ms_ad 4 0)] (ms_Z q w I J) = mo_cl 130 62 65 (ms_G 70 0 [.ref (ms_ad 4 0), .ref a0, .int x1, .long X2, .null, .int x3, .int x4, .null, .null] [] (ms_Z q false I J)) w L [] := (mz_call rfl rfl (mz_can1 rfl rfl rfl rfl rfl (by decide) rfl (by decide))).trans rfl
theorem mi_130_65 : ms_G 130 65 [l0, l1, l2, l3, .ref b, .int x, l6, l7] S σ = ms_G 130 68 [l0, l1, l2, l3, .ref b, .int (x + nI 1), l6, l7] S σ := (ms_G_at rfl _ _ _).trans rfl
theorem mi_130_68 : ms_G 130 68 L S σ = ms_G 130 3 L S σ := (ms_G_at rfl _ _ _).trans rfl
theorem mi_130_71 : ms_G 130 71 L [] σ = some (.inl none, σ) := (ms_G_at rfl _ _ _).trans rfl
-- MaskedSum$Sharing.share(J[III)J
theorem mi_131_0 : ms_G 131 0 L S σ = ms_G 131 1 L (.long (lN 0) :: S) σ := (ms_G_at rfl _ _ _).trans rfl
theorem mi_131_1 : ms_G 131 1 [l0, l1, l2, l3, .int y, l5, l6, l7, l8, l9] (.long X :: S) σ = ms_G 131 3 [l0, l1, l2, l3, .int y, .long X, .null, l7, l8, l9] S σ := (ms_G_at rfl _ _ _).trans rfl
theorem mi_131_3 : ms_G 131 3 [l0, l1, l2, .int x, l4, l5, l6, l7, l8, l9] S σ = ms_G 131 4 [l0, l1, l2, .int x, l4, l5, l6, l7, l8, l9] (.int x :: S) σ := (ms_G_at rfl _ _ _).trans rfl
theorem mi_131_4 : ms_G 131 4 L S σ = ms_G 131 5 L (.int (nI 1) :: S) σ := (ms_G_at rfl _ _ _).trans rfl
theorem mi_131_5 : ms_G 131 5 L (.int y :: .int x :: S) σ = ms_G 131 6 L (.int (x - y) :: S) σ := (ms_G_at rfl _ _ _).trans rfl
theorem mi_131_6 : ms_G 131 6 [l0, l1, l2, l3, l4, l5, .null, l7, l8, l9] (.int x :: S) σ = ms_G 131 8 [l0, l1, l2, l3, l4, l5, .null, .int x, l8, l9] S σ := (ms_G_at rfl _ _ _).trans rfl
theorem mi_131_8 : ms_G 131 8 [l0, l1, l2, l3, l4, l5, l6, .int x, l8, l9] S σ = ms_G 131 10 [l0, l1, l2, l3, l4, l5, l6, .int x, l8, l9] (.int x :: S) σ := (ms_G_at rfl _ _ _).trans rfl
theorem mi_131_10 : ms_G 131 10 L S σ = ms_G 131 11 L (.int (nI 1) :: S) σ := (ms_G_at rfl _ _ _).trans rfl
theorem mi_131_11 : ms_G 131 11 L (.int y :: .int x :: S) σ = if x < y then ms_G 131 49 L S σ else ms_G 131 14 L S σ := mz_bra rfl rfl rfl
theorem mi_131_14 : ms_G 131 14 [l0, l1, .ref a, l3, l4, l5, l6, l7, l8, l9] S σ = ms_G 131 15 [l0, l1, .ref a, l3, l4, l5, l6, l7, l8, l9] (.ref a :: S) σ := (ms_G_at rfl _ _ _).trans rfl
theorem mi_131_15 : ms_G 131 15 L S σ = ms_G 131 16 L (.int (nI 2) :: S) σ := (ms_G_at rfl _ _ _).trans rfl
theorem mi_131_16 : ms_G 131 16 [l0, l1, l2, l3, l4, l5, l6, .int x, l8, l9] S σ = ms_G 131 18 [l0, l1, l2, l3, l4, l5, l6, .int x, l8, l9] (.int x :: S) σ := (ms_G_at rfl _ _ _).trans rfl
theorem mi_131_18 : ms_G 131 18 L S σ = ms_G 131 19 L (.int (nI 1) :: S) σ := (ms_G_at rfl _ _ _).trans rfl
theorem mi_131_19 : ms_G 131 19 L (.int y :: .int x :: S) σ = ms_G 131 20 L (.int (x - y) :: S) σ := (ms_G_at rfl _ _ _).trans rfl
theorem mi_131_20 : ms_G 131 20 L (.int y :: .int x :: S) σ = ms_G 131 21 L (.int (x * y) :: S) σ := (ms_G_at rfl _ _ _).trans rfl
theorem mi_131_21 : ms_G 131 21 L [.int x1, .ref a0] (ms_Z q w I J) = mo_cl 131 21 24 (ms_G 85 0 [.ref a0, .int x1] [] (ms_Z q false I J)) w L [] := (mz_call rfl rfl (mz_can0 rfl rfl rfl rfl rfl)).trans rfl
theorem mi_131_24 : ms_G 131 24 [l0, l1, l2, l3, l4, l5, l6, .int y, l8, l9] (.long X :: S) σ = ms_G 131 26 [l0, l1, l2, l3, l4, l5, l6, .int y, .long X, .null] S σ := (ms_G_at rfl _ _ _).trans rfl
theorem mi_131_26 : ms_G 131 26 [l0, l1, l2, l3, l4, .long X, l6, l7, l8, l9] S σ = ms_G 131 28 [l0, l1, l2, l3, l4, .long X, l6, l7, l8, l9] (.long X :: S) σ := (ms_G_at rfl _ _ _).trans rfl
theorem mi_131_28 : ms_G 131 28 [l0, l1, l2, l3, l4, l5, l6, l7, .long X, l9] S σ = ms_G 131 30 [l0, l1, l2, l3, l4, l5, l6, l7, .long X, l9] (.long X :: S) σ := (ms_G_at rfl _ _ _).trans rfl
theorem mi_131_30 : ms_G 131 30 L [.long X1, .long X0] (ms_Z q w I J) = mo_cl 131 30 33 (ms_G 88 0 [.long X0, .null, .long X1, .null] [] (ms_Z q false I J)) w L [] := (mz_call rfl rfl (mz_can0 rfl rfl rfl rfl rfl)).trans rfl
theorem mi_131_33 : ms_G 131 33 [l0, l1, l2, l3, .int x, l5, l6, l7, l8, l9] S σ = ms_G 131 35 [l0, l1, l2, l3, .int x, l5, l6, l7, l8, l9] (.int x :: S) σ := (ms_G_at rfl _ _ _).trans rfl
theorem mi_131_35 : ms_G 131 35 L S σ = ms_G 131 36 L (.int (nI 1) :: S) σ := (ms_G_at rfl _ _ _).trans rfl
theorem mi_131_36 : ms_G 131 36 L (.int y :: .int x :: S) σ = ms_G 131 37 L (.int (x + y) :: S) σ := (ms_G_at rfl _ _ _).trans rfl
theorem mi_131_37 : ms_G 131 37 L (.int x :: S) σ = ms_G 131 38 L (.long x.toInt64 :: S) σ := (ms_G_at rfl _ _ _).trans rfl
theorem mi_131_38 : ms_G 131 38 L [.long X1, .long X0] (ms_Z q w I J) = mo_cl 131 38 41 (ms_G 90 0 [.long X0, .null, .long X1, .null, .null, .null, .null, .null, .null, .null, .null, .null, .null, .null, .null, .null] [] (ms_Z q false I J)) w L [] := (mz_call rfl rfl (mz_can0 rfl rfl rfl rfl rfl)).trans rfl
theorem mi_131_41 : ms_G 131 41 [l0, l1, l2, l3, .int y, l5, l6, l7, l8, l9] (.long X :: S) σ = ms_G 131 43 [l0, l1, l2, l3, .int y, .long X, .null, l7, l8, l9] S σ := (ms_G_at rfl _ _ _).trans rfl
theorem mi_131_43 : ms_G 131 43 [l0, l1, l2, l3, l4, l5, .null, .int x, l8, l9] S σ = ms_G 131 46 [l0, l1, l2, l3, l4, l5, .null, .int (x + Int32.ofInt (-1)), l8, l9] S σ := (ms_G_at rfl _ _ _).trans rfl
theorem mi_131_46 : ms_G 131 46 L S σ = ms_G 131 8 L S σ := (ms_G_at rfl _ _ _).trans rfl
theorem mi_131_49 : ms_G 131 49 [l0, l1, l2, l3, l4, .long X, l6, l7, l8, l9] S σ = ms_G 131 51 [l0, l1, l2, l3, l4, .long X, l6, l7, l8, l9] (.long X :: S) σ := (ms_G_at rfl _ _ _).trans rfl
theorem mi_131_51 : ms_G 131 51 [.long X, l1, l2, l3, l4, l5, l6, l7, l8, l9] S σ = ms_G 131 52 [.long X, l1, l2, l3, l4, l5, l6, l7, l8, l9] (.long X :: S) σ := (ms_G_at rfl _ _ _).trans rfl
theorem mi_131_52 : ms_G 131 52 L [.long X1, .long X0] (ms_Z q w I J) = mo_cl 131 52 55 (ms_G 88 0 [.long X0, .null, .long X1, .null] [] (ms_Z q false I J)) w L [] := (mz_call rfl rfl (mz_can0 rfl rfl rfl rfl rfl)).trans rfl
theorem mi_131_55 : ms_G 131 55 L [.long X] σ = some (.inl (some (.long X)), σ) := (ms_G_at rfl _ _ _).trans rfl
-- MaskedSum$Sharing.join([[III)J
theorem mi_132_0 : ms_G 132 0 L S σ = ms_G 132 1 L (.long (lN 0) :: S) σ := (ms_G_at rfl _ _ _).trans rfl
theorem mi_132_1 : ms_G 132 1 [l0, l1, .int y, l3, l4, l5, l6, l7, l8, l9, l10] (.long X :: S) σ = ms_G 132 2 [l0, l1, .int y, .long X, .null, l5, l6, l7, l8, l9, l10] S σ := (ms_G_at rfl _ _ _).trans rfl
theorem mi_132_2 : ms_G 132 2 L S σ = ms_G 132 3 L (.int (nI 0) :: S) σ := (ms_G_at rfl _ _ _).trans rfl
theorem mi_132_3 : ms_G 132 3 [l0, l1, l2, l3, .null, l5, l6, l7, l8, l9, l10] (.int x :: S) σ = ms_G 132 5 [l0, l1, l2, l3, .null, .int x, l6, l7, l8, l9, l10] S σ := (ms_G_at rfl _ _ _).trans rfl
theorem mi_132_5 : ms_G 132 5 [l0, l1, l2, l3, l4, .int x, l6, l7, l8, l9, l10] S σ = ms_G 132 7 [l0, l1, l2, l3, l4, .int x, l6, l7, l8, l9, l10] (.int x :: S) σ := (ms_G_at rfl _ _ _).trans rfl
theorem mi_132_7 : ms_G 132 7 L S σ = ms_G 132 9 L (.int (nI 8) :: S) σ := (ms_G_at rfl _ _ _).trans rfl
theorem mi_132_9 : ms_G 132 9 L (.int y :: .int x :: S) σ = if y ≤ x then ms_G 132 122 L S σ else ms_G 132 12 L S σ := mz_bra rfl rfl rfl
theorem mi_132_12 : ms_G 132 12 [l0, l1, .int x, l3, l4, l5, l6, l7, l8, l9, l10] S σ = ms_G 132 13 [l0, l1, .int x, l3, l4, l5, l6, l7, l8, l9, l10] (.int x :: S) σ := (ms_G_at rfl _ _ _).trans rfl
theorem mi_132_13 : ms_G 132 13 [l0, l1, l2, l3, l4, .int x, l6, l7, l8, l9, l10] S σ = ms_G 132 15 [l0, l1, l2, l3, l4, .int x, l6, l7, l8, l9, l10] (.int x :: S) σ := (ms_G_at rfl _ _ _).trans rfl
theorem mi_132_15 : ms_G 132 15 L [.int x1, .int x0] (ms_Z q w I J) = mo_cl 132 15 18 (ms_G 15 0 [.int x0, .int x1] [] (ms_Z q false I J)) w L [] := (mz_call rfl rfl (mz_can0 rfl rfl rfl rfl rfl)).trans rfl
theorem mi_132_18 : ms_G 132 18 L (.int x :: S) σ = if x = nI 0 then ms_G 132 116 L S σ else ms_G 132 21 L S σ := mz_bra rfl rfl rfl
theorem mi_132_21 : ms_G 132 21 [.ref a, l1, l2, l3, l4, l5, l6, l7, l8, l9, l10] S σ = ms_G 132 22 [.ref a, l1, l2, l3, l4, l5, l6, l7, l8, l9, l10] (.ref a :: S) σ := (ms_G_at rfl _ _ _).trans rfl
theorem mi_132_22 : ms_G 132 22 [l0, l1, l2, l3, l4, .int x, l6, l7, l8, l9, l10] S σ = ms_G 132 24 [l0, l1, l2, l3, l4, .int x, l6, l7, l8, l9, l10] (.int x :: S) σ := (ms_G_at rfl _ _ _).trans rfl
theorem mi_132_24 : ms_G 132 24 L (.int (nI i) :: .ref (ms_ad r u) :: S) (ms_Z q w I J) = cond (mo_2 q.1 r u i) (ms_G 132 25 L (.ref (ms_ad (ms_er r) i) :: S) (ms_Z q w I J)) (ms_raw 132 24 L (.int (nI i) :: .ref (ms_ad r u) :: S) (ms_Z q w I J)) := mz_aald rfl
theorem mi_132_25 : ms_G 132 25 [l0, .int x, l2, l3, l4, l5, l6, l7, l8, l9, l10] S σ = ms_G 132 26 [l0, .int x, l2, l3, l4, l5, l6, l7, l8, l9, l10] (.int x :: S) σ := (ms_G_at rfl _ _ _).trans rfl
theorem mi_132_26 : ms_G 132 26 L [.int x1, .ref a0] (ms_Z q w I J) = mo_cl 132 26 29 (ms_G 85 0 [.ref a0, .int x1] [] (ms_Z q false I J)) w L [] := (mz_call rfl rfl (mz_can0 rfl rfl rfl rfl rfl)).trans rfl
theorem mi_132_29 : ms_G 132 29 [l0, l1, l2, l3, l4, .int y, l6, l7, l8, l9, l10] (.long X :: S) σ = ms_G 132 31 [l0, l1, l2, l3, l4, .int y, .long X, .null, l8, l9, l10] S σ := (ms_G_at rfl _ _ _).trans rfl
theorem mi_132_31 : ms_G 132 31 L S σ = ms_G 132 32 L (.long (lN 1) :: S) σ := (ms_G_at rfl _ _ _).trans rfl
theorem mi_132_32 : ms_G 132 32 [l0, l1, l2, l3, l4, l5, l6, .null, l8, l9, l10] (.long X :: S) σ = ms_G 132 34 [l0, l1, l2, l3, l4, l5, l6, .null, .long X, .null, l10] S σ := (ms_G_at rfl _ _ _).trans rfl
theorem mi_132_34 : ms_G 132 34 L S σ = ms_G 132 35 L (.int (nI 0) :: S) σ := (ms_G_at rfl _ _ _).trans rfl
theorem mi_132_35 : ms_G 132 35 [l0, l1, l2, l3, l4, l5, l6, l7, l8, .null, l10] (.int x :: S) σ = ms_G 132 37 [l0, l1, l2, l3, l4, l5, l6, l7, l8, .null, .int x] S σ := (ms_G_at rfl _ _ _).trans rfl
theorem mi_132_37 : ms_G 132 37 [l0, l1, l2, l3, l4, l5, l6, l7, l8, l9, .int x] S σ = ms_G 132 39 [l0, l1, l2, l3, l4, l5, l6, l7, l8, l9, .int x] (.int x :: S) σ := (ms_G_at rfl _ _ _).trans rfl
theorem mi_132_39 : ms_G 132 39 L S σ = ms_G 132 41 L (.int (nI 8) :: S) σ := (ms_G_at rfl _ _ _).trans rfl
theorem mi_132_41 : ms_G 132 41 L (.int y :: .int x :: S) σ = if y ≤ x then ms_G 132 98 L S σ else ms_G 132 44 L S σ := mz_bra rfl rfl rfl
theorem mi_132_44 : ms_G 132 44 [l0, l1, l2, l3, l4, l5, l6, l7, l8, l9, .int x] S σ = ms_G 132 46 [l0, l1, l2, l3, l4, l5, l6, l7, l8, l9, .int x] (.int x :: S) σ := (ms_G_at rfl _ _ _).trans rfl
theorem mi_132_46 : ms_G 132 46 [l0, l1, l2, l3, l4, .int x, l6, l7, l8, l9, l10] S σ = ms_G 132 48 [l0, l1, l2, l3, l4, .int x, l6, l7, l8, l9, l10] (.int x :: S) σ := (ms_G_at rfl _ _ _).trans rfl
theorem mi_132_48 : ms_G 132 48 L (.int y :: .int x :: S) σ = if x = y then ms_G 132 92 L S σ else ms_G 132 51 L S σ := mz_bra rfl rfl rfl
theorem mi_132_51 : ms_G 132 51 [l0, l1, .int x, l3, l4, l5, l6, l7, l8, l9, l10] S σ = ms_G 132 52 [l0, l1, .int x, l3, l4, l5, l6, l7, l8, l9, l10] (.int x :: S) σ := (ms_G_at rfl _ _ _).trans rfl
theorem mi_132_52 : ms_G 132 52 [l0, l1, l2, l3, l4, l5, l6, l7, l8, l9, .int x] S σ = ms_G 132 54 [l0, l1, l2, l3, l4, l5, l6, l7, l8, l9, .int x] (.int x :: S) σ := (ms_G_at rfl _ _ _).trans rfl
theorem mi_132_54 : ms_G 132 54 L [.int x1, .int x0] (ms_Z q w I J) = mo_cl 132 54 57 (ms_G 15 0 [.int x0, .int x1] [] (ms_Z q false I J)) w L [] := (mz_call rfl rfl (mz_can0 rfl rfl rfl rfl rfl)).trans rfl
theorem mi_132_57 : ms_G 132 57 L (.int x :: S) σ = if x = nI 0 then ms_G 132 92 L S σ else ms_G 132 60 L S σ := mz_bra rfl rfl rfl
theorem mi_132_60 : ms_G 132 60 [l0, l1, l2, l3, l4, l5, .long X, l7, l8, l9, l10] S σ = ms_G 132 62 [l0, l1, l2, l3, l4, l5, .long X, l7, l8, l9, l10] (.long X :: S) σ := (ms_G_at rfl _ _ _).trans rfl
theorem mi_132_62 : ms_G 132 62 [l0, l1, l2, l3, l4, l5, l6, l7, l8, l9, .int x] S σ = ms_G 132 64 [l0, l1, l2, l3, l4, l5, l6, l7, l8, l9, .int x] (.int x :: S) σ := (ms_G_at rfl _ _ _).trans rfl
theorem mi_132_64 : ms_G 132 64 L S σ = ms_G 132 65 L (.int (nI 1) :: S) σ := (ms_G_at rfl _ _ _).trans rfl
theorem mi_132_65 : ms_G 132 65 L (.int y :: .int x :: S) σ = ms_G 132 66 L (.int (x + y) :: S) σ := (ms_G_at rfl _ _ _).trans rfl
theorem mi_132_66 : ms_G 132 66 L (.int x :: S) σ = ms_G 132 67 L (.long x.toInt64 :: S) σ := (ms_G_at rfl _ _ _).trans rfl
theorem mi_132_67 : ms_G 132 67 L [.long X1, .long X0] (ms_Z q w I J) = mo_cl 132 67 70 (ms_G 90 0 [.long X0, .null, .long X1, .null, .null, .null, .null, .null, .null, .null, .null, .null, .null, .null, .null, .null] [] (ms_Z q false I J)) w L [] := (mz_call rfl rfl (mz_can0 rfl rfl rfl rfl rfl)).trans rfl
theorem mi_132_70 : ms_G 132 70 [l0, l1, l2, l3, l4, .int y, l6, l7, l8, l9, l10] (.long X :: S) σ = ms_G 132 72 [l0, l1, l2, l3, l4, .int y, .long X, .null, l8, l9, l10] S σ := (ms_G_at rfl _ _ _).trans rfl
theorem mi_132_72 : ms_G 132 72 [l0, l1, l2, l3, l4, l5, l6, l7, .long X, l9, l10] S σ = ms_G 132 74 [l0, l1, l2, l3, l4, l5, l6, l7, .long X, l9, l10] (.long X :: S) σ := (ms_G_at rfl _ _ _).trans rfl
theorem mi_132_74 : ms_G 132 74 [l0, l1, l2, l3, l4, l5, l6, l7, l8, l9, .int x] S σ = ms_G 132 76 [l0, l1, l2, l3, l4, l5, l6, l7, l8, l9, .int x] (.int x :: S) σ := (ms_G_at rfl _ _ _).trans rfl
theorem mi_132_76 : ms_G 132 76 L S σ = ms_G 132 77 L (.int (nI 1) :: S) σ := (ms_G_at rfl _ _ _).trans rfl
theorem mi_132_77 : ms_G 132 77 L (.int y :: .int x :: S) σ = ms_G 132 78 L (.int (x + y) :: S) σ := (ms_G_at rfl _ _ _).trans rfl
theorem mi_132_78 : ms_G 132 78 L (.int x :: S) σ = ms_G 132 79 L (.long x.toInt64 :: S) σ := (ms_G_at rfl _ _ _).trans rfl
theorem mi_132_79 : ms_G 132 79 [l0, l1, l2, l3, l4, .int x, l6, l7, l8, l9, l10] S σ = ms_G 132 81 [l0, l1, l2, l3, l4, .int x, l6, l7, l8, l9, l10] (.int x :: S) σ := (ms_G_at rfl _ _ _).trans rfl
theorem mi_132_81 : ms_G 132 81 L S σ = ms_G 132 82 L (.int (nI 1) :: S) σ := (ms_G_at rfl _ _ _).trans rfl
theorem mi_132_82 : ms_G 132 82 L (.int y :: .int x :: S) σ = ms_G 132 83 L (.int (x + y) :: S) σ := (ms_G_at rfl _ _ _).trans rfl
theorem mi_132_83 : ms_G 132 83 L (.int x :: S) σ = ms_G 132 84 L (.long x.toInt64 :: S) σ := (ms_G_at rfl _ _ _).trans rfl
theorem mi_132_84 : ms_G 132 84 L (.long X1 :: .long X0 :: [.long f0]) (ms_Z q w I J) = mo_cl 132 84 87 (ms_G 89 0 [.long X0, .null, .long X1, .null] [] (ms_Z q false I J)) w L [.long f0] := (mz_call rfl rfl (mz_can0 rfl rfl rfl rfl rfl)).trans rfl
theorem mi_132_87 : ms_G 132 87 L [.long X1, .long X0] (ms_Z q w I J) = mo_cl 132 87 90 (ms_G 90 0 [.long X0, .null, .long X1, .null, .null, .null, .null, .null, .null, .null, .null, .null, .null, .null, .null, .null] [] (ms_Z q false I J)) w L [] := (mz_call rfl rfl (mz_can0 rfl rfl rfl rfl rfl)).trans rfl
theorem mi_132_90 : ms_G 132 90 [l0, l1, l2, l3, l4, l5, l6, .null, l8, l9, l10] (.long X :: S) σ = ms_G 132 92 [l0, l1, l2, l3, l4, l5, l6, .null, .long X, .null, l10] S σ := (ms_G_at rfl _ _ _).trans rfl
theorem mi_132_92 : ms_G 132 92 [l0, l1, l2, l3, l4, l5, l6, l7, l8, .null, .int x] S σ = ms_G 132 95 [l0, l1, l2, l3, l4, l5, l6, l7, l8, .null, .int (x + nI 1)] S σ := (ms_G_at rfl _ _ _).trans rfl
theorem mi_132_95 : ms_G 132 95 L S σ = ms_G 132 37 L S σ := (ms_G_at rfl _ _ _).trans rfl
theorem mi_132_98 : ms_G 132 98 [l0, l1, l2, .long X, l4, l5, l6, l7, l8, l9, l10] S σ = ms_G 132 99 [l0, l1, l2, .long X, l4, l5, l6, l7, l8, l9, l10] (.long X :: S) σ := (ms_G_at rfl _ _ _).trans rfl
theorem mi_132_99 : ms_G 132 99 [l0, l1, l2, l3, l4, l5, .long X, l7, l8, l9, l10] S σ = ms_G 132 101 [l0, l1, l2, l3, l4, l5, .long X, l7, l8, l9, l10] (.long X :: S) σ := (ms_G_at rfl _ _ _).trans rfl
theorem mi_132_101 : ms_G 132 101 [l0, l1, l2, l3, l4, l5, l6, l7, .long X, l9, l10] S σ = ms_G 132 103 [l0, l1, l2, l3, l4, l5, l6, l7, .long X, l9, l10] (.long X :: S) σ := (ms_G_at rfl _ _ _).trans rfl
theorem mi_132_103 : ms_G 132 103 L S σ = ms_G 132 106 L (.long (lN 2305843009213693949) :: S) σ := (ms_G_at rfl _ _ _).trans rfl
theorem mi_132_106 : ms_G 132 106 L (.long X1 :: .long X0 :: [.long f0, .long f1]) (ms_Z q w I J) = mo_cl 132 106 109 (ms_G 91 0 [.long X0, .null, .long X1, .null, .null, .null, .null, .null, .null] [] (ms_Z q false I J)) w L [.long f0, .long f1] := (mz_call rfl rfl (mz_can0 rfl rfl rfl rfl rfl)).trans rfl
theorem mi_132_109 : ms_G 132 109 L (.long X1 :: .long X0 :: [.long f0]) (ms_Z q w I J) = mo_cl 132 109 112 (ms_G 90 0 [.long X0, .null, .long X1, .null, .null, .null, .null, .null, .null, .null, .null, .null, .null, .null, .null, .null] [] (ms_Z q false I J)) w L [.long f0] := (mz_call rfl rfl (mz_can0 rfl rfl rfl rfl rfl)).trans rfl
theorem mi_132_112 : ms_G 132 112 L [.long X1, .long X0] (ms_Z q w I J) = mo_cl 132 112 115 (ms_G 88 0 [.long X0, .null, .long X1, .null] [] (ms_Z q false I J)) w L [] := (mz_call rfl rfl (mz_can0 rfl rfl rfl rfl rfl)).trans rfl
theorem mi_132_115 : ms_G 132 115 [l0, l1, .int y, l3, l4, l5, l6, l7, l8, l9, l10] (.long X :: S) σ = ms_G 132 116 [l0, l1, .int y, .long X, .null, l5, l6, l7, l8, l9, l10] S σ := (ms_G_at rfl _ _ _).trans rfl
theorem mi_132_116 : ms_G 132 116 [l0, l1, l2, l3, .null, .int x, l6, l7, l8, l9, l10] S σ = ms_G 132 119 [l0, l1, l2, l3, .null, .int (x + nI 1), l6, l7, l8, l9, l10] S σ := (ms_G_at rfl _ _ _).trans rfl
theorem mi_132_119 : ms_G 132 119 L S σ = ms_G 132 5 L S σ := (ms_G_at rfl _ _ _).trans rfl
theorem mi_132_122 : ms_G 132 122 [l0, l1, l2, .long X, l4, l5, l6, l7, l8, l9, l10] S σ = ms_G 132 123 [l0, l1, l2, .long X, l4, l5, l6, l7, l8, l9, l10] (.long X :: S) σ := (ms_G_at rfl _ _ _).trans rfl
theorem mi_132_123 : ms_G 132 123 L [.long X] σ = some (.inl (some (.long X)), σ) := (ms_G_at rfl _ _ _).trans rfl
end MsI
