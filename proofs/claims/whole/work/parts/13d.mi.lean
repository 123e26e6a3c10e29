/-! ONE LEMMA AN INSTRUCTION, by gen3.py. -/
section MsI
variable {l0 l1 l2 l3 l4 l5 l6 l7 l8 l9 l10 l11 l12 l13 l14 l15 l16 l17 : Value} {L S : List Value} {σ : ms_M} {q : Nat × Nat} {w B : Bool} {I : ms_i} {J : ms_j} {r u r' u' i sp dp n a b a0 a1 a2 a3 a4 a5 a6 a7 g0 g1 g2 g3 g4 g5 g6 g7 : Nat}
variable {x y x0 x1 x2 x3 x4 x5 x6 x7 e0 e1 e2 e3 e4 e5 e6 e7 : Int32} {X Y X0 X1 X2 X3 X4 X5 X6 X7 f0 f1 f2 f3 f4 f5 f6 f7 : Int64}
-- MaskedSumModel.total(I)I
theorem mi_61_0 : ms_G 61 0 [l0, .int x] S σ = ms_G 61 1 [l0, .int x] (.int x :: S) σ := (ms_G_at rfl _ _ _).trans rfl
theorem mi_61_1 : ms_G 61 1 L S σ = ms_G 61 2 L (.int (nI 0) :: S) σ := (ms_G_at rfl _ _ _).trans rfl
theorem mi_61_2 : ms_G 61 2 L S σ = ms_G 61 3 L (.int (nI 3) :: S) σ := (ms_G_at rfl _ _ _).trans rfl
theorem mi_61_3 : ms_G 61 3 L [.int x2, .int x1, .int x0] (ms_Z q w I J) = mo_cl 61 3 6 (ms_G 19 0 [.int x0, .int x1, .int x2] [] (ms_Z q false I J)) w L [] := (mz_call rfl rfl (mz_can0 rfl rfl rfl rfl rfl)).trans rfl
theorem mi_61_6 : ms_G 61 6 L (.int x :: S) σ = if x = nI 0 then ms_G 61 9 L S σ else ms_G 61 15 L S σ := mz_bra rfl rfl rfl
theorem mi_61_9 : ms_G 61 9 [.ref a, l1] S σ = ms_G 61 10 [.ref a, l1] (.ref a :: S) σ := (ms_G_at rfl _ _ _).trans rfl
theorem mi_61_10 : ms_G 61 10 L S σ = ms_G 61 11 L (.int (nI 1) :: S) σ := (ms_G_at rfl _ _ _).trans rfl
theorem mi_61_11 : ms_G 61 11 L [.int x0, .ref (ms_ad 40 0)] (ms_Z q w I J) = mo_cl 61 11 14 (ms_G 18 0 [.ref (ms_ad 40 0), .int x0] [] (ms_Z q false I J)) w L [] := (mz_call rfl rfl (mz_can1 rfl rfl rfl rfl rfl (by decide) rfl (by decide))).trans rfl
theorem mi_61_14 : ms_G 61 14 L [.int x] σ = some (.inl (some (.int x)), σ) := (ms_G_at rfl _ _ _).trans rfl
theorem mi_61_15 : ms_G 61 15 [.ref a, l1] S σ = ms_G 61 16 [.ref a, l1] (.ref a :: S) σ := (ms_G_at rfl _ _ _).trans rfl
theorem mi_61_16 : ms_G 61 16 L (.ref (ms_ad 40 0) :: S) (ms_Z q w I J) = ms_G 61 19 L (.int (I 40 0 23) :: S) (ms_Z q w I J) := mz_getf (c := (0, 23)) rfl (by decide) rfl (by decide) rfl
theorem mi_61_19 : ms_G 61 19 L (.int x :: S) σ = if x = nI 0 then ms_G 61 22 L S σ else ms_G 61 28 L S σ := mz_bra rfl rfl rfl
theorem mi_61_22 : ms_G 61 22 [.ref a, l1] S σ = ms_G 61 23 [.ref a, l1] (.ref a :: S) σ := (ms_G_at rfl _ _ _).trans rfl
theorem mi_61_23 : ms_G 61 23 L S σ = ms_G 61 24 L (.int (nI 2) :: S) σ := (ms_G_at rfl _ _ _).trans rfl
theorem mi_61_24 : ms_G 61 24 L [.int x0, .ref (ms_ad 40 0)] (ms_Z q w I J) = mo_cl 61 24 27 (ms_G 18 0 [.ref (ms_ad 40 0), .int x0] [] (ms_Z q false I J)) w L [] := (mz_call rfl rfl (mz_can1 rfl rfl rfl rfl rfl (by decide) rfl (by decide))).trans rfl
theorem mi_61_27 : ms_G 61 27 L [.int x] σ = some (.inl (some (.int x)), σ) := (ms_G_at rfl _ _ _).trans rfl
theorem mi_61_28 : ms_G 61 28 [.ref a, l1] S σ = ms_G 61 29 [.ref a, l1] (.ref a :: S) σ := (ms_G_at rfl _ _ _).trans rfl
theorem mi_61_29 : ms_G 61 29 L S σ = ms_G 61 30 L (.int (nI 0) :: S) σ := (ms_G_at rfl _ _ _).trans rfl
theorem mi_61_30 : ms_G 61 30 L (.int x :: .ref (ms_ad 40 0) :: S) (ms_Z q w I J) = ms_G 61 33 L S (ms_Z q true (ms_u I 40 0 (upd (I 40 0) 0 x)) J) := mz_putf rfl (by decide) rfl (by decide) rfl rfl
theorem mi_61_33 : ms_G 61 33 [.ref a, l1] S σ = ms_G 61 34 [.ref a, l1] (.ref a :: S) σ := (ms_G_at rfl _ _ _).trans rfl
theorem mi_61_34 : ms_G 61 34 L (.ref (ms_ad 40 0) :: S) (ms_Z q w I J) = ms_G 61 37 L (.ref (ms_ad 57 0) :: S) (ms_Z q w I J) := mz_getf (c := (2, 57)) rfl (by decide) rfl (by decide) rfl
theorem mi_61_37 : ms_G 61 37 [l0, .int x] S σ = ms_G 61 38 [l0, .int x] (.int x :: S) σ := (ms_G_at rfl _ _ _).trans rfl
theorem mi_61_38 : ms_G 61 38 L (.int (nI i) :: .ref (ms_ad r u) :: S) (ms_Z q w I J) = cond (mo_0 q.1 r u i) (ms_G 61 39 L (.int (I r u i) :: S) (ms_Z q w I J)) (ms_raw 61 38 L (.int (nI i) :: .ref (ms_ad r u) :: S) (ms_Z q w I J)) := mz_iald rfl
theorem mi_61_39 : ms_G 61 39 L [.int x] σ = some (.inl (some (.int x)), σ) := (ms_G_at rfl _ _ _).trans rfl
-- MaskedSumModel.phone(II)I
theorem mi_62_0 : ms_G 62 0 [.ref a, l1, l2] S σ = ms_G 62 1 [.ref a, l1, l2] (.ref a :: S) σ := (ms_G_at rfl _ _ _).trans rfl
theorem mi_62_1 : ms_G 62 1 [.ref a, l1, l2] S σ = ms_G 62 2 [.ref a, l1, l2] (.ref a :: S) σ := (ms_G_at rfl _ _ _).trans rfl
theorem mi_62_2 : ms_G 62 2 [l0, .int x, l2] S σ = ms_G 62 3 [l0, .int x, l2] (.int x :: S) σ := (ms_G_at rfl _ _ _).trans rfl
theorem mi_62_3 : ms_G 62 3 L (.int x0 :: .ref (ms_ad 40 0) :: [.ref g0]) (ms_Z q w I J) = mo_cl 62 3 6 (ms_G 37 0 [.ref (ms_ad 40 0), .int x0] [] (ms_Z q false I J)) w L [.ref g0] := (mz_call rfl rfl (mz_can1 rfl rfl rfl rfl rfl (by decide) rfl (by decide))).trans rfl
theorem mi_62_6 : ms_G 62 6 L (.int x :: S) σ = if x = nI 0 then ms_G 62 22 L S σ else ms_G 62 9 L S σ := mz_bra rfl rfl rfl
theorem mi_62_9 : ms_G 62 9 [l0, l1, .int x] S σ = ms_G 62 10 [l0, l1, .int x] (.int x :: S) σ := (ms_G_at rfl _ _ _).trans rfl
theorem mi_62_10 : ms_G 62 10 L S σ = ms_G 62 11 L (.int (nI 0) :: S) σ := (ms_G_at rfl _ _ _).trans rfl
theorem mi_62_11 : ms_G 62 11 L S σ = ms_G 62 12 L (.int (nI 3) :: S) σ := (ms_G_at rfl _ _ _).trans rfl
theorem mi_62_12 : ms_G 62 12 L (.int x2 :: .int x1 :: .int x0 :: [.ref g0]) (ms_Z q w I J) = mo_cl 62 12 15 (ms_G 19 0 [.int x0, .int x1, .int x2] [] (ms_Z q false I J)) w L [.ref g0] := (mz_call rfl rfl (mz_can0 rfl rfl rfl rfl rfl)).trans rfl
theorem mi_62_15 : ms_G 62 15 L (.int x :: S) σ = if x = nI 0 then ms_G 62 22 L S σ else ms_G 62 18 L S σ := mz_bra rfl rfl rfl
theorem mi_62_18 : ms_G 62 18 L S σ = ms_G 62 19 L (.int (nI 0) :: S) σ := (ms_G_at rfl _ _ _).trans rfl
theorem mi_62_19 : ms_G 62 19 L S σ = ms_G 62 23 L S σ := (ms_G_at rfl _ _ _).trans rfl
theorem mi_62_22 : ms_G 62 22 L S σ = ms_G 62 23 L (.int (nI 1) :: S) σ := (ms_G_at rfl _ _ _).trans rfl
theorem mi_62_23 : ms_G 62 23 L (.int x :: .ref (ms_ad 40 0) :: S) (ms_Z q w I J) = ms_G 62 26 L S (ms_Z q true (ms_u I 40 0 (upd (I 40 0) 0 x)) J) := mz_putf rfl (by decide) rfl (by decide) rfl rfl
theorem mi_62_26 : ms_G 62 26 [.ref a, l1, l2] S σ = ms_G 62 27 [.ref a, l1, l2] (.ref a :: S) σ := (ms_G_at rfl _ _ _).trans rfl
theorem mi_62_27 : ms_G 62 27 L (.ref (ms_ad 40 0) :: S) (ms_Z q w I J) = ms_G 62 30 L (.int (I 40 0 0) :: S) (ms_Z q w I J) := mz_getf (c := (0, 0)) rfl (by decide) rfl (by decide) rfl
theorem mi_62_30 : ms_G 62 30 L (.int x :: S) σ = if x ≤ nI 0 then ms_G 62 35 L S σ else ms_G 62 33 L S σ := mz_bra rfl rfl rfl
theorem mi_62_33 : ms_G 62 33 L S σ = ms_G 62 34 L (.int (nI 0) :: S) σ := (ms_G_at rfl _ _ _).trans rfl
theorem mi_62_34 : ms_G 62 34 L [.int x] σ = some (.inl (some (.int x)), σ) := (ms_G_at rfl _ _ _).trans rfl
theorem mi_62_35 : ms_G 62 35 [l0, l1, .int x] S σ = ms_G 62 36 [l0, l1, .int x] (.int x :: S) σ := (ms_G_at rfl _ _ _).trans rfl
theorem mi_62_36 : ms_G 62 36 L (.int x :: S) σ = if x = nI 0 then ms_G 62 39 L S σ else ms_G 62 48 L S σ := mz_bra rfl rfl rfl
theorem mi_62_39 : ms_G 62 39 [.ref a, l1, l2] S σ = ms_G 62 40 [.ref a, l1, l2] (.ref a :: S) σ := (ms_G_at rfl _ _ _).trans rfl
theorem mi_62_40 : ms_G 62 40 L (.ref (ms_ad 40 0) :: S) (ms_Z q w I J) = ms_G 62 43 L (.ref (ms_ad 43 0) :: S) (ms_Z q w I J) := mz_getf (c := (2, 43)) rfl (by decide) rfl (by decide) rfl
theorem mi_62_43 : ms_G 62 43 [l0, .int x, l2] S σ = ms_G 62 44 [l0, .int x, l2] (.int x :: S) σ := (ms_G_at rfl _ _ _).trans rfl
theorem mi_62_44 : ms_G 62 44 L (.int (nI i) :: .ref (ms_ad r u) :: S) (ms_Z q w I J) = cond (mo_0 q.1 r u i) (ms_G 62 45 L (.int (I r u i) :: S) (ms_Z q w I J)) (ms_raw 62 44 L (.int (nI i) :: .ref (ms_ad r u) :: S) (ms_Z q w I J)) := mz_iald rfl
theorem mi_62_45 : ms_G 62 45 L S σ = ms_G 62 82 L S σ := (ms_G_at rfl _ _ _).trans rfl
theorem mi_62_48 : ms_G 62 48 [l0, l1, .int x] S σ = ms_G 62 49 [l0, l1, .int x] (.int x :: S) σ := (ms_G_at rfl _ _ _).trans rfl
theorem mi_62_49 : ms_G 62 49 L S σ = ms_G 62 50 L (.int (nI 1) :: S) σ := (ms_G_at rfl _ _ _).trans rfl
theorem mi_62_50 : ms_G 62 50 L (.int y :: .int x :: S) σ = if x = y then ms_G 62 53 L S σ else ms_G 62 62 L S σ := mz_bra rfl rfl rfl
theorem mi_62_53 : ms_G 62 53 [.ref a, l1, l2] S σ = ms_G 62 54 [.ref a, l1, l2] (.ref a :: S) σ := (ms_G_at rfl _ _ _).trans rfl
theorem mi_62_54 : ms_G 62 54 L (.ref (ms_ad 40 0) :: S) (ms_Z q w I J) = ms_G 62 57 L (.ref (ms_ad 44 0) :: S) (ms_Z q w I J) := mz_getf (c := (2, 44)) rfl (by decide) rfl (by decide) rfl
theorem mi_62_57 : ms_G 62 57 [l0, .int x, l2] S σ = ms_G 62 58 [l0, .int x, l2] (.int x :: S) σ := (ms_G_at rfl _ _ _).trans rfl
theorem mi_62_58 : ms_G 62 58 L (.int (nI i) :: .ref (ms_ad r u) :: S) (ms_Z q w I J) = cond (mo_0 q.1 r u i) (ms_G 62 59 L (.int (I r u i) :: S) (ms_Z q w I J)) (ms_raw 62 58 L (.int (nI i) :: .ref (ms_ad r u) :: S) (ms_Z q w I J)) := mz_iald rfl
theorem mi_62_59 : ms_G 62 59 L S σ = ms_G 62 82 L S σ := (ms_G_at rfl _ _ _).trans rfl
theorem mi_62_62 : ms_G 62 62 [l0, l1, .int x] S σ = ms_G 62 63 [l0, l1, .int x] (.int x :: S) σ := (ms_G_at rfl _ _ _).trans rfl
theorem mi_62_63 : ms_G 62 63 L S σ = ms_G 62 64 L (.int (nI 2) :: S) σ := (ms_G_at rfl _ _ _).trans rfl
theorem mi_62_64 : ms_G 62 64 L (.int y :: .int x :: S) σ = if x = y then ms_G 62 67 L S σ else ms_G 62 76 L S σ := mz_bra rfl rfl rfl
theorem mi_62_67 : ms_G 62 67 [.ref a, l1, l2] S σ = ms_G 62 68 [.ref a, l1, l2] (.ref a :: S) σ := (ms_G_at rfl _ _ _).trans rfl
theorem mi_62_68 : ms_G 62 68 L (.ref (ms_ad 40 0) :: S) (ms_Z q w I J) = ms_G 62 71 L (.ref (ms_ad 45 0) :: S) (ms_Z q w I J) := mz_getf (c := (2, 45)) rfl (by decide) rfl (by decide) rfl
theorem mi_62_71 : ms_G 62 71 [l0, .int x, l2] S σ = ms_G 62 72 [l0, .int x, l2] (.int x :: S) σ := (ms_G_at rfl _ _ _).trans rfl
theorem mi_62_72 : ms_G 62 72 L (.int (nI i) :: .ref (ms_ad r u) :: S) (ms_Z q w I J) = cond (mo_0 q.1 r u i) (ms_G 62 73 L (.int (I r u i) :: S) (ms_Z q w I J)) (ms_raw 62 72 L (.int (nI i) :: .ref (ms_ad r u) :: S) (ms_Z q w I J)) := mz_iald rfl
theorem mi_62_73 : ms_G 62 73 L S σ = ms_G 62 82 L S σ := (ms_G_at rfl _ _ _).trans rfl
theorem mi_62_76 : ms_G 62 76 [.ref a, l1, l2] S σ = ms_G 62 77 [.ref a, l1, l2] (.ref a :: S) σ := (ms_G_at rfl _ _ _).trans rfl
theorem mi_62_77 : ms_G 62 77 L (.ref (ms_ad 40 0) :: S) (ms_Z q w I J) = ms_G 62 80 L (.ref (ms_ad 46 0) :: S) (ms_Z q w I J) := mz_getf (c := (2, 46)) rfl (by decide) rfl (by decide) rfl
theorem mi_62_80 : ms_G 62 80 [l0, .int x, l2] S σ = ms_G 62 81 [l0, .int x, l2] (.int x :: S) σ := (ms_G_at rfl _ _ _).trans rfl
theorem mi_62_81 : ms_G 62 81 L (.int (nI i) :: .ref (ms_ad r u) :: S) (ms_Z q w I J) = cond (mo_0 q.1 r u i) (ms_G 62 82 L (.int (I r u i) :: S) (ms_Z q w I J)) (ms_raw 62 81 L (.int (nI i) :: .ref (ms_ad r u) :: S) (ms_Z q w I J)) := mz_iald rfl
theorem mi_62_82 : ms_G 62 82 L [.int x] σ = some (.inl (some (.int x)), σ) := (ms_G_at rfl _ _ _).trans rfl
-- MaskedSumModel.count(I)I
theorem mi_63_0 : ms_G 63 0 [.ref a, l1] S σ = ms_G 63 1 [.ref a, l1] (.ref a :: S) σ := (ms_G_at rfl _ _ _).trans rfl
theorem mi_63_1 : ms_G 63 1 L S σ = ms_G 63 2 L (.int (nI 0) :: S) σ := (ms_G_at rfl _ _ _).trans rfl
theorem mi_63_2 : ms_G 63 2 L (.int x :: .ref (ms_ad 40 0) :: S) (ms_Z q w I J) = ms_G 63 5 L S (ms_Z q true (ms_u I 40 0 (upd (I 40 0) 0 x)) J) := mz_putf rfl (by decide) rfl (by decide) rfl rfl
theorem mi_63_5 : ms_G 63 5 [l0, .int x] S σ = ms_G 63 6 [l0, .int x] (.int x :: S) σ := (ms_G_at rfl _ _ _).trans rfl
theorem mi_63_6_c0 : ms_G 63 6 L (.int (nI 0) :: S) σ = ms_G 63 48 L S σ := (ms_G_at rfl _ _ _).trans rfl
theorem mi_63_6_c1 : ms_G 63 6 L (.int (nI 1) :: S) σ = ms_G 63 53 L S σ := (ms_G_at rfl _ _ _).trans rfl
theorem mi_63_6_c2 : ms_G 63 6 L (.int (nI 2) :: S) σ = ms_G 63 58 L S σ := (ms_G_at rfl _ _ _).trans rfl
theorem mi_63_6_c3 : ms_G 63 6 L (.int (nI 3) :: S) σ = ms_G 63 63 L S σ := (ms_G_at rfl _ _ _).trans rfl
theorem mi_63_6_c4 : ms_G 63 6 L (.int (nI 4) :: S) σ = ms_G 63 63 L S σ := (ms_G_at rfl _ _ _).trans rfl
theorem mi_63_6_c5 : ms_G 63 6 L (.int (nI 5) :: S) σ = ms_G 63 63 L S σ := (ms_G_at rfl _ _ _).trans rfl
theorem mi_63_6_c6 : ms_G 63 6 L (.int (nI 6) :: S) σ = ms_G 63 72 L S σ := (ms_G_at rfl _ _ _).trans rfl
theorem mi_63_6_d (hx : x.toInt < 0 ∨ 6 < x.toInt) : ms_G 63 6 L (.int x :: S) σ = ms_G 63 96 L S σ := mz_sw rfl hx
theorem mi_63_48 : ms_G 63 48 [.ref a, l1] S σ = ms_G 63 49 [.ref a, l1] (.ref a :: S) σ := (ms_G_at rfl _ _ _).trans rfl
theorem mi_63_49 : ms_G 63 49 L (.ref (ms_ad 40 0) :: S) (ms_Z q w I J) = ms_G 63 52 L (.int (I 40 0 20) :: S) (ms_Z q w I J) := mz_getf (c := (0, 20)) rfl (by decide) rfl (by decide) rfl
theorem mi_63_52 : ms_G 63 52 L [.int x] σ = some (.inl (some (.int x)), σ) := (ms_G_at rfl _ _ _).trans rfl
theorem mi_63_53 : ms_G 63 53 [.ref a, l1] S σ = ms_G 63 54 [.ref a, l1] (.ref a :: S) σ := (ms_G_at rfl _ _ _).trans rfl
theorem mi_63_54 : ms_G 63 54 L (.ref (ms_ad 40 0) :: S) (ms_Z q w I J) = ms_G 63 57 L (.int (I 40 0 3) :: S) (ms_Z q w I J) := mz_getf (c := (0, 3)) rfl (by decide) rfl (by decide) rfl
theorem mi_63_57 : ms_G 63 57 L [.int x] σ = some (.inl (some (.int x)), σ) := (ms_G_at rfl _ _ _).trans rfl
theorem mi_63_58 : ms_G 63 58 [.ref a, l1] S σ = ms_G 63 59 [.ref a, l1] (.ref a :: S) σ := (ms_G_at rfl _ _ _).trans rfl
theorem mi_63_59 : ms_G 63 59 L (.ref (ms_ad 40 0) :: S) (ms_Z q w I J) = ms_G 63 62 L (.int (I 40 0 4) :: S) (ms_Z q w I J) := mz_getf (c := (0, 4)) rfl (by decide) rfl (by decide) rfl
theorem mi_63_62 : ms_G 63 62 L [.int x] σ = some (.inl (some (.int x)), σ) := (ms_G_at rfl _ _ _).trans rfl
theorem mi_63_63 : ms_G 63 63 [.ref a, l1] S σ = ms_G 63 64 [.ref a, l1] (.ref a :: S) σ := (ms_G_at rfl _ _ _).trans rfl
theorem mi_63_64 : ms_G 63 64 L (.ref (ms_ad 40 0) :: S) (ms_Z q w I J) = ms_G 63 67 L (.ref (ms_ad 50 0) :: S) (ms_Z q w I J) := mz_getf (c := (2, 50)) rfl (by decide) rfl (by decide) rfl
theorem mi_63_67 : ms_G 63 67 [l0, .int x] S σ = ms_G 63 68 [l0, .int x] (.int x :: S) σ := (ms_G_at rfl _ _ _).trans rfl
theorem mi_63_68 : ms_G 63 68 L S σ = ms_G 63 69 L (.int (nI 3) :: S) σ := (ms_G_at rfl _ _ _).trans rfl
theorem mi_63_69 : ms_G 63 69 L (.int y :: .int x :: S) σ = ms_G 63 70 L (.int (x - y) :: S) σ := (ms_G_at rfl _ _ _).trans rfl
theorem mi_63_70 : ms_G 63 70 L (.int (nI i) :: .ref (ms_ad r u) :: S) (ms_Z q w I J) = cond (mo_0 q.1 r u i) (ms_G 63 71 L (.int (I r u i) :: S) (ms_Z q w I J)) (ms_raw 63 70 L (.int (nI i) :: .ref (ms_ad r u) :: S) (ms_Z q w I J)) := mz_iald rfl
theorem mi_63_71 : ms_G 63 71 L [.int x] σ = some (.inl (some (.int x)), σ) := (ms_G_at rfl _ _ _).trans rfl
theorem mi_63_72 : ms_G 63 72 [.ref a, l1] S σ = ms_G 63 73 [.ref a, l1] (.ref a :: S) σ := (ms_G_at rfl _ _ _).trans rfl
theorem mi_63_73 : ms_G 63 73 L (.ref (ms_ad 40 0) :: S) (ms_Z q w I J) = ms_G 63 76 L (.ref (ms_ad 51 0) :: S) (ms_Z q w I J) := mz_getf (c := (2, 51)) rfl (by decide) rfl (by decide) rfl
theorem mi_63_76 : ms_G 63 76 [.ref a, l1] S σ = ms_G 63 77 [.ref a, l1] (.ref a :: S) σ := (ms_G_at rfl _ _ _).trans rfl
theorem mi_63_77 : ms_G 63 77 L (.ref (ms_ad 40 0) :: [.ref g0]) (ms_Z q w I J) = mo_cl 63 77 80 (ms_G 36 0 [.ref (ms_ad 40 0)] [] (ms_Z q false I J)) w L [.ref g0] := (mz_call rfl rfl (mz_can1 rfl rfl rfl rfl rfl (by decide) rfl (by decide))).trans rfl
theorem mi_63_80 : ms_G 63 80 L (.int x :: S) σ = if x = nI 0 then ms_G 63 90 L S σ else ms_G 63 83 L S σ := mz_bra rfl rfl rfl
theorem mi_63_83 : ms_G 63 83 [.ref a, l1] S σ = ms_G 63 84 [.ref a, l1] (.ref a :: S) σ := (ms_G_at rfl _ _ _).trans rfl
theorem mi_63_84 : ms_G 63 84 L (.ref (ms_ad 40 0) :: S) (ms_Z q w I J) = ms_G 63 87 L (.int (I 40 0 3) :: S) (ms_Z q w I J) := mz_getf (c := (0, 3)) rfl (by decide) rfl (by decide) rfl
theorem mi_63_87 : ms_G 63 87 L S σ = ms_G 63 94 L S σ := (ms_G_at rfl _ _ _).trans rfl
theorem mi_63_90 : ms_G 63 90 [.ref a, l1] S σ = ms_G 63 91 [.ref a, l1] (.ref a :: S) σ := (ms_G_at rfl _ _ _).trans rfl
theorem mi_63_91 : ms_G 63 91 L (.ref (ms_ad 40 0) :: S) (ms_Z q w I J) = ms_G 63 94 L (.int (I 40 0 33) :: S) (ms_Z q w I J) := mz_getf (c := (0, 33)) rfl (by decide) rfl (by decide) rfl
theorem mi_63_94 : ms_G 63 94 L (.int (nI i) :: .ref (ms_ad r u) :: S) (ms_Z q w I J) = cond (mo_0 q.1 r u i) (ms_G 63 95 L (.int (I r u i) :: S) (ms_Z q w I J)) (ms_raw 63 94 L (.int (nI i) :: .ref (ms_ad r u) :: S) (ms_Z q w I J)) := mz_iald rfl
theorem mi_63_95 : ms_G 63 95 L [.int x] σ = some (.inl (some (.int x)), σ) := (ms_G_at rfl _ _ _).trans rfl
theorem mi_63_96 : ms_G 63 96 L S σ = ms_G 63 97 L (.int (-1) :: S) σ := (ms_G_at rfl _ _ _).trans rfl
theorem mi_63_97 : ms_G 63 97 L [.int x] σ = some (.inl (some (.int x)), σ) := (ms_G_at rfl _ _ _).trans rfl
-- MaskedSumModel.stream(IIIII)I
theorem mi_64_0 : ms_G 64 0 [.ref a, l1, l2, l3, l4, l5] S σ = ms_G 64 1 [.ref a, l1, l2, l3, l4, l5] (.ref a :: S) σ := (ms_G_at rfl _ _ _).trans rfl
theorem mi_64_1 : ms_G 64 1 [l0, l1, l2, l3, l4, .int x] S σ = ms_G 64 3 [l0, l1, l2, l3, l4, .int x] (.int x :: S) σ := (ms_G_at rfl _ _ _).trans rfl
theorem mi_64_3 : ms_G 64 3 L S σ = ms_G 64 4 L (.int (nI 0) :: S) σ := (ms_G_at rfl _ _ _).trans rfl
theorem mi_64_4 : ms_G 64 4 L S σ = ms_G 64 6 L (.int (nI 63) :: S) σ := (ms_G_at rfl _ _ _).trans rfl
theorem mi_64_6 : ms_G 64 6 L (.int x2 :: .int x1 :: .int x0 :: [.ref g0]) (ms_Z q w I J) = mo_cl 64 6 9 (ms_G 19 0 [.int x0, .int x1, .int x2] [] (ms_Z q false I J)) w L [.ref g0] := (mz_call rfl rfl (mz_can0 rfl rfl rfl rfl rfl)).trans rfl
theorem mi_64_9 : ms_G 64 9 L (.int x :: S) σ = if x = nI 0 then ms_G 64 16 L S σ else ms_G 64 12 L S σ := mz_bra rfl rfl rfl
theorem mi_64_12 : ms_G 64 12 L S σ = ms_G 64 13 L (.int (nI 0) :: S) σ := (ms_G_at rfl _ _ _).trans rfl
theorem mi_64_13 : ms_G 64 13 L S σ = ms_G 64 17 L S σ := (ms_G_at rfl _ _ _).trans rfl
theorem mi_64_16 : ms_G 64 16 L S σ = ms_G 64 17 L (.int (nI 1) :: S) σ := (ms_G_at rfl _ _ _).trans rfl
theorem mi_64_17 : ms_G 64 17 L (.int x :: .ref (ms_ad 40 0) :: S) (ms_Z q w I J) = ms_G 64 20 L S (ms_Z q true (ms_u I 40 0 (upd (I 40 0) 0 x)) J) := mz_putf rfl (by decide) rfl (by decide) rfl rfl
theorem mi_64_20 : ms_G 64 20 [.ref a, l1, l2, l3, l4, l5] S σ = ms_G 64 21 [.ref a, l1, l2, l3, l4, l5] (.ref a :: S) σ := (ms_G_at rfl _ _ _).trans rfl
theorem mi_64_21 : ms_G 64 21 L (.ref (ms_ad 40 0) :: S) (ms_Z q w I J) = ms_G 64 24 L (.int (I 40 0 0) :: S) (ms_Z q w I J) := mz_getf (c := (0, 0)) rfl (by decide) rfl (by decide) rfl
theorem mi_64_24 : ms_G 64 24 L (.int x :: S) σ = if x ≤ nI 0 then ms_G 64 31 L S σ else ms_G 64 27 L S σ := mz_bra rfl rfl rfl
theorem mi_64_27 : ms_G 64 27 L S σ = ms_G 64 28 L (.int (nI 0) :: S) σ := (ms_G_at rfl _ _ _).trans rfl
theorem mi_64_28 : ms_G 64 28 L S σ = ms_G 64 45 L S σ := (ms_G_at rfl _ _ _).trans rfl
theorem mi_64_31 : ms_G 64 31 [.ref a, l1, l2, l3, l4, l5] S σ = ms_G 64 32 [.ref a, l1, l2, l3, l4, l5] (.ref a :: S) σ := (ms_G_at rfl _ _ _).trans rfl
theorem mi_64_32 : ms_G 64 32 [l0, .int x, l2, l3, l4, l5] S σ = ms_G 64 33 [l0, .int x, l2, l3, l4, l5] (.int x :: S) σ := (ms_G_at rfl _ _ _).trans rfl
theorem mi_64_33 : ms_G 64 33 [l0, l1, .int x, l3, l4, l5] S σ = ms_G 64 34 [l0, l1, .int x, l3, l4, l5] (.int x :: S) σ := (ms_G_at rfl _ _ _).trans rfl
theorem mi_64_34 : ms_G 64 34 L (.int x1 :: .int x0 :: [.ref g0]) (ms_Z q w I J) = mo_cl 64 34 37 (ms_G 23 0 [.int x0, .int x1, .null, .null] [] (ms_Z q false I J)) w L [.ref g0] := (mz_call rfl rfl (mz_can0 rfl rfl rfl rfl rfl)).trans rfl
theorem mi_64_37 : ms_G 64 37 [l0, l1, l2, .int x, l4, l5] S σ = ms_G 64 38 [l0, l1, l2, .int x, l4, l5] (.int x :: S) σ := (ms_G_at rfl _ _ _).trans rfl
theorem mi_64_38 : ms_G 64 38 [l0, l1, l2, l3, .int x, l5] S σ = ms_G 64 40 [l0, l1, l2, l3, .int x, l5] (.int x :: S) σ := (ms_G_at rfl _ _ _).trans rfl
theorem mi_64_40 : ms_G 64 40 [l0, l1, l2, l3, l4, .int x] S σ = ms_G 64 42 [l0, l1, l2, l3, l4, .int x] (.int x :: S) σ := (ms_G_at rfl _ _ _).trans rfl
theorem mi_64_42 : ms_G 64 42 L [.int x3, .int x2, .int x1, .long X0, .ref (ms_ad 40 0)] (ms_Z q w I J) = mo_cl 64 42 45 (ms_G 27 0 [.ref (ms_ad 40 0), .long X0, .null, .int x1, .int x2, .int x3] [] (ms_Z q false I J)) w L [] := (mz_call rfl rfl (mz_can1 rfl rfl rfl rfl rfl (by decide) rfl (by decide))).trans rfl
theorem mi_64_45 : ms_G 64 45 L [.int x] σ = some (.inl (some (.int x)), σ) := (ms_G_at rfl _ _ _).trans rfl
-- MaskedSum$ChaCha.makeBlock(JIIII)[I
theorem mi_66_0 : ms_G 66 0 [.ref a, l1, l2, l3, l4, l5, l6, l7, l8, l9] S σ = ms_G 66 1 [.ref a, l1, l2, l3, l4, l5, l6, l7, l8, l9] (.ref a :: S) σ := (ms_G_at rfl _ _ _).trans rfl
theorem mi_66_1 : ms_G 66 1 L (.ref (ms_ad 5 0) :: S) (ms_Z q w I J) = ms_G 66 4 L (.ref (ms_ad 6 0) :: S) (ms_Z q w I J) := mz_getf (c := (2, 6)) rfl (by decide) rfl (by decide) rfl
theorem mi_66_4 : ms_G 66 4 L S σ = ms_G 66 5 L (.int (nI 0) :: S) σ := (ms_G_at rfl _ _ _).trans rfl
theorem mi_66_5 : ms_G 66 5 L S σ = ms_G 66 7 L (.int (nI 1634760805) :: S) σ := (ms_G_at rfl _ _ _).trans rfl
theorem mi_66_7 : ms_G 66 7 L (.int x :: .int (nI i) :: .ref (ms_ad r u) :: S) (ms_Z q w I J) = cond (mo_0 q.1 r u i) (ms_G 66 8 L S (ms_Z q true (ms_u I r u (upd (I r u) i x)) J)) (ms_raw 66 7 L (.int x :: .int (nI i) :: .ref (ms_ad r u) :: S) (ms_Z q w I J)) := mz_iast rfl x
theorem mi_66_8 : ms_G 66 8 [.ref a, l1, l2, l3, l4, l5, l6, l7, l8, l9] S σ = ms_G 66 9 [.ref a, l1, l2, l3, l4, l5, l6, l7, l8, l9] (.ref a :: S) σ := (ms_G_at rfl _ _ _).trans rfl
theorem mi_66_9 : ms_G 66 9 L (.ref (ms_ad 5 0) :: S) (ms_Z q w I J) = ms_G 66 12 L (.ref (ms_ad 6 0) :: S) (ms_Z q w I J) := mz_getf (c := (2, 6)) rfl (by decide) rfl (by decide) rfl
theorem mi_66_12 : ms_G 66 12 L S σ = ms_G 66 13 L (.int (nI 1) :: S) σ := (ms_G_at rfl _ _ _).trans rfl
theorem mi_66_13 : ms_G 66 13 L S σ = ms_G 66 15 L (.int (nI 857760878) :: S) σ := (ms_G_at rfl _ _ _).trans rfl
theorem mi_66_15 : ms_G 66 15 L (.int x :: .int (nI i) :: .ref (ms_ad r u) :: S) (ms_Z q w I J) = cond (mo_0 q.1 r u i) (ms_G 66 16 L S (ms_Z q true (ms_u I r u (upd (I r u) i x)) J)) (ms_raw 66 15 L (.int x :: .int (nI i) :: .ref (ms_ad r u) :: S) (ms_Z q w I J)) := mz_iast rfl x
theorem mi_66_16 : ms_G 66 16 [.ref a, l1, l2, l3, l4, l5, l6, l7, l8, l9] S σ = ms_G 66 17 [.ref a, l1, l2, l3, l4, l5, l6, l7, l8, l9] (.ref a :: S) σ := (ms_G_at rfl _ _ _).trans rfl
theorem mi_66_17 : ms_G 66 17 L (.ref (ms_ad 5 0) :: S) (ms_Z q w I J) = ms_G 66 20 L (.ref (ms_ad 6 0) :: S) (ms_Z q w I J) := mz_getf (c := (2, 6)) rfl (by decide) rfl (by decide) rfl
theorem mi_66_20 : ms_G 66 20 L S σ = ms_G 66 21 L (.int (nI 2) :: S) σ := (ms_G_at rfl _ _ _).trans rfl
theorem mi_66_21 : ms_G 66 21 L S σ = ms_G 66 23 L (.int (nI 2036477234) :: S) σ := (ms_G_at rfl _ _ _).trans rfl
theorem mi_66_23 : ms_G 66 23 L (.int x :: .int (nI i) :: .ref (ms_ad r u) :: S) (ms_Z q w I J) = cond (mo_0 q.1 r u i) (ms_G 66 24 L S (ms_Z q true (ms_u I r u (upd (I r u) i x)) J)) (ms_raw 66 23 L (.int x :: .int (nI i) :: .ref (ms_ad r u) :: S) (ms_Z q w I J)) := mz_iast rfl x
theorem mi_66_24 : ms_G 66 24 [.ref a, l1, l2, l3, l4, l5, l6, l7, l8, l9] S σ = ms_G 66 25 [.ref a, l1, l2, l3, l4, l5, l6, l7, l8, l9] (.ref a :: S) σ := (ms_G_at rfl _ _ _).trans rfl
theorem mi_66_25 : ms_G 66 25 L (.ref (ms_ad 5 0) :: S) (ms_Z q w I J) = ms_G 66 28 L (.ref (ms_ad 6 0) :: S) (ms_Z q w I J) := mz_getf (c := (2, 6)) rfl (by decide) rfl (by decide) rfl
theorem mi_66_28 : ms_G 66 28 L S σ = ms_G 66 29 L (.int (nI 3) :: S) σ := (ms_G_at rfl _ _ _).trans rfl
theorem mi_66_29 : ms_G 66 29 L S σ = ms_G 66 31 L (.int (nI 1797285236) :: S) σ := (ms_G_at rfl _ _ _).trans rfl
theorem mi_66_31 : ms_G 66 31 L (.int x :: .int (nI i) :: .ref (ms_ad r u) :: S) (ms_Z q w I J) = cond (mo_0 q.1 r u i) (ms_G 66 32 L S (ms_Z q true (ms_u I r u (upd (I r u) i x)) J)) (ms_raw 66 31 L (.int x :: .int (nI i) :: .ref (ms_ad r u) :: S) (ms_Z q w I J)) := mz_iast rfl x
theorem mi_66_32 : ms_G 66 32 [l0, .long X, l2, l3, l4, l5, l6, l7, l8, l9] S σ = ms_G 66 33 [l0, .long X, l2, l3, l4, l5, l6, l7, l8, l9] (.long X :: S) σ := (ms_G_at rfl _ _ _).trans rfl
theorem mi_66_33 : ms_G 66 33 [.ref a, l1, l2, l3, l4, l5, l6, l7, l8, l9] S σ = ms_G 66 34 [.ref a, l1, l2, l3, l4, l5, l6, l7, l8, l9] (.ref a :: S) σ := (ms_G_at rfl _ _ _).trans rfl
theorem mi_66_34 : ms_G 66 34 L (.ref (ms_ad 5 0) :: S) (ms_Z q w I J) = ms_G 66 37 L (.ref (ms_ad 6 0) :: S) (ms_Z q w I J) := mz_getf (c := (2, 6)) rfl (by decide) rfl (by decide) rfl
theorem mi_66_37 : ms_G 66 37 L S σ = ms_G 66 38 L (.int (nI 4) :: S) σ := (ms_G_at rfl _ _ _).trans rfl
theorem mi_66_38 : ms_G 66 38 L [.int x2, .ref a1, .long X0] (ms_Z q w I J) = mo_cl 66 38 41 (ms_G 86 0 [.long X0, .null, .ref a1, .int x2] [] (ms_Z q false I J)) w L [] := (mz_call rfl rfl (mz_can0 rfl rfl rfl rfl rfl)).trans rfl
theorem mi_66_41 : ms_G 66 41 [.ref a, l1, l2, l3, l4, l5, l6, l7, l8, l9] S σ = ms_G 66 42 [.ref a, l1, l2, l3, l4, l5, l6, l7, l8, l9] (.ref a :: S) σ := (ms_G_at rfl _ _ _).trans rfl
theorem mi_66_42 : ms_G 66 42 L (.ref (ms_ad 5 0) :: S) (ms_Z q w I J) = ms_G 66 45 L (.ref (ms_ad 6 0) :: S) (ms_Z q w I J) := mz_getf (c := (2, 6)) rfl (by decide) rfl (by decide) rfl
theorem mi_66_45 : ms_G 66 45 L S σ = ms_G 66 47 L (.int (nI 12) :: S) σ := (ms_G_at rfl _ _ _).trans rfl
theorem mi_66_47 : ms_G 66 47 [l0, l1, l2, .int x, l4, l5, l6, l7, l8, l9] S σ = ms_G 66 48 [l0, l1, l2, .int x, l4, l5, l6, l7, l8, l9] (.int x :: S) σ := (ms_G_at rfl _ _ _).trans rfl
theorem mi_66_48 : ms_G 66 48 L (.int x :: .int (nI i) :: .ref (ms_ad r u) :: S) (ms_Z q w I J) = cond (mo_0 q.1 r u i) (ms_G 66 49 L S (ms_Z q true (ms_u I r u (upd (I r u) i x)) J)) (ms_raw 66 48 L (.int x :: .int (nI i) :: .ref (ms_ad r u) :: S) (ms_Z q w I J)) := mz_iast rfl x
theorem mi_66_49 : ms_G 66 49 [.ref a, l1, l2, l3, l4, l5, l6, l7, l8, l9] S σ = ms_G 66 50 [.ref a, l1, l2, l3, l4, l5, l6, l7, l8, l9] (.ref a :: S) σ := (ms_G_at rfl _ _ _).trans rfl
theorem mi_66_50 : ms_G 66 50 L (.ref (ms_ad 5 0) :: S) (ms_Z q w I J) = ms_G 66 53 L (.ref (ms_ad 6 0) :: S) (ms_Z q w I J) := mz_getf (c := (2, 6)) rfl (by decide) rfl (by decide) rfl
theorem mi_66_53 : ms_G 66 53 L S σ = ms_G 66 55 L (.int (nI 13) :: S) σ := (ms_G_at rfl _ _ _).trans rfl
theorem mi_66_55 : ms_G 66 55 [l0, l1, l2, l3, .int x, l5, l6, l7, l8, l9] S σ = ms_G 66 57 [l0, l1, l2, l3, .int x, l5, l6, l7, l8, l9] (.int x :: S) σ := (ms_G_at rfl _ _ _).trans rfl
theorem mi_66_57 : ms_G 66 57 L (.int x :: .int (nI i) :: .ref (ms_ad r u) :: S) (ms_Z q w I J) = cond (mo_0 q.1 r u i) (ms_G 66 58 L S (ms_Z q true (ms_u I r u (upd (I r u) i x)) J)) (ms_raw 66 57 L (.int x :: .int (nI i) :: .ref (ms_ad r u) :: S) (ms_Z q w I J)) := mz_iast rfl x
theorem mi_66_58 : ms_G 66 58 [.ref a, l1, l2, l3, l4, l5, l6, l7, l8, l9] S σ = ms_G 66 59 [.ref a, l1, l2, l3, l4, l5, l6, l7, l8, l9] (.ref a :: S) σ := (ms_G_at rfl _ _ _).trans rfl
theorem mi_66_59 : ms_G 66 59 L (.ref (ms_ad 5 0) :: S) (ms_Z q w I J) = ms_G 66 62 L (.ref (ms_ad 6 0) :: S) (ms_Z q w I J) := mz_getf (c := (2, 6)) rfl (by decide) rfl (by decide) rfl
theorem mi_66_62 : ms_G 66 62 L S σ = ms_G 66 64 L (.int (nI 14) :: S) σ := (ms_G_at rfl _ _ _).trans rfl
theorem mi_66_64 : ms_G 66 64 [l0, l1, l2, l3, l4, .int x, l6, l7, l8, l9] S σ = ms_G 66 66 [l0, l1, l2, l3, l4, .int x, l6, l7, l8, l9] (.int x :: S) σ := (ms_G_at rfl _ _ _).trans rfl
theorem mi_66_66 : ms_G 66 66 L (.int x :: .int (nI i) :: .ref (ms_ad r u) :: S) (ms_Z q w I J) = cond (mo_0 q.1 r u i) (ms_G 66 67 L S (ms_Z q true (ms_u I r u (upd (I r u) i x)) J)) (ms_raw 66 66 L (.int x :: .int (nI i) :: .ref (ms_ad r u) :: S) (ms_Z q w I J)) := mz_iast rfl x
theorem mi_66_67 : ms_G 66 67 [.ref a, l1, l2, l3, l4, l5, l6, l7, l8, l9] S σ = ms_G 66 68 [.ref a, l1, l2, l3, l4, l5, l6, l7, l8, l9] (.ref a :: S) σ := (ms_G_at rfl _ _ _).trans rfl
theorem mi_66_68 : ms_G 66 68 L (.ref (ms_ad 5 0) :: S) (ms_Z q w I J) = ms_G 66 71 L (.ref (ms_ad 6 0) :: S) (ms_Z q w I J) := mz_getf (c := (2, 6)) rfl (by decide) rfl (by decide) rfl
theorem mi_66_71 : ms_G 66 71 L S σ = ms_G 66 73 L (.int (nI 15) :: S) σ := (ms_G_at rfl _ _ _).trans rfl
theorem mi_66_73 : ms_G 66 73 [l0, l1, l2, l3, l4, l5, .int x, l7, l8, l9] S σ = ms_G 66 75 [l0, l1, l2, l3, l4, l5, .int x, l7, l8, l9] (.int x :: S) σ := (ms_G_at rfl _ _ _).trans rfl
theorem mi_66_75 : ms_G 66 75 L (.int x :: .int (nI i) :: .ref (ms_ad r u) :: S) (ms_Z q w I J) = cond (mo_0 q.1 r u i) (ms_G 66 76 L S (ms_Z q true (ms_u I r u (upd (I r u) i x)) J)) (ms_raw 66 75 L (.int x :: .int (nI i) :: .ref (ms_ad r u) :: S) (ms_Z q w I J)) := mz_iast rfl x
theorem mi_66_76 : ms_G 66 76 [.ref a, l1, l2, l3, l4, l5, l6, l7, l8, l9] S σ = ms_G 66 77 [.ref a, l1, l2, l3, l4, l5, l6, l7, l8, l9] (.ref a :: S) σ := (ms_G_at rfl _ _ _).trans rfl
theorem mi_66_77 : ms_G 66 77 L (.ref (ms_ad 5 0) :: S) (ms_Z q w I J) = ms_G 66 80 L (.ref (ms_ad 6 0) :: S) (ms_Z q w I J) := mz_getf (c := (2, 6)) rfl (by decide) rfl (by decide) rfl
theorem mi_66_80 : ms_G 66 80 L S σ = ms_G 66 81 L (.int (nI 0) :: S) σ := (ms_G_at rfl _ _ _).trans rfl
theorem mi_66_81 : ms_G 66 81 [.ref a, l1, l2, l3, l4, l5, l6, l7, l8, l9] S σ = ms_G 66 82 [.ref a, l1, l2, l3, l4, l5, l6, l7, l8, l9] (.ref a :: S) σ := (ms_G_at rfl _ _ _).trans rfl
theorem mi_66_82 : ms_G 66 82 L (.ref (ms_ad 5 0) :: S) (ms_Z q w I J) = ms_G 66 85 L (.ref (ms_ad 7 0) :: S) (ms_Z q w I J) := mz_getf (c := (2, 7)) rfl (by decide) rfl (by decide) rfl
theorem mi_66_85 : ms_G 66 85 L S σ = ms_G 66 86 L (.int (nI 0) :: S) σ := (ms_G_at rfl _ _ _).trans rfl
theorem mi_66_86 : ms_G 66 86 L S σ = ms_G 66 88 L (.int (nI 16) :: S) σ := (ms_G_at rfl _ _ _).trans rfl
theorem mi_66_88 : ms_G 66 88 L (.int (nI n) :: .int (nI dp) :: .ref (ms_ad r' u') :: .int (nI sp) :: .ref (ms_ad r u) :: []) (ms_Z q w I J) = cond (mo_c q.1 r u r' u' sp dp n) (ms_G 66 91 L [] (ms_Z q true (ms_u I r' u' (va_cpy (I r u) (I r' u') sp dp n)) J)) (ms_raw 66 88 L (.int (nI n) :: .int (nI dp) :: .ref (ms_ad r' u') :: .int (nI sp) :: .ref (ms_ad r u) :: []) (ms_Z q w I J)) := mz_acp rfl (Nat.le_of_ble_eq_true rfl)
theorem mi_66_91 : ms_G 66 91 L S σ = ms_G 66 92 L (.int (nI 0) :: S) σ := (ms_G_at rfl _ _ _).trans rfl
theorem mi_66_92 : ms_G 66 92 [l0, l1, l2, l3, l4, l5, .int y, l7, l8, l9] (.int x :: S) σ = ms_G 66 94 [l0, l1, l2, l3, l4, l5, .int y, .int x, l8, l9] S σ := (ms_G_at rfl _ _ _).trans rfl
theorem mi_66_94 : ms_G 66 94 [l0, l1, l2, l3, l4, l5, l6, .int x, l8, l9] S σ = ms_G 66 96 [l0, l1, l2, l3, l4, l5, l6, .int x, l8, l9] (.int x :: S) σ := (ms_G_at rfl _ _ _).trans rfl
theorem mi_66_96 : ms_G 66 96 L S σ = ms_G 66 98 L (.int (nI 20) :: S) σ := (ms_G_at rfl _ _ _).trans rfl
theorem mi_66_98 : ms_G 66 98 L (.int y :: .int x :: S) σ = if y ≤ x then ms_G 66 167 L S σ else ms_G 66 101 L S σ := mz_bra rfl rfl rfl
theorem mi_66_101 : ms_G 66 101 [l0, l1, l2, l3, l4, l5, l6, .int x, l8, l9] S σ = ms_G 66 103 [l0, l1, l2, l3, l4, l5, l6, .int x, l8, l9] (.int x :: S) σ := (ms_G_at rfl _ _ _).trans rfl
theorem mi_66_103 : ms_G 66 103 L S σ = ms_G 66 104 L (.int (nI 2) :: S) σ := (ms_G_at rfl _ _ _).trans rfl
theorem mi_66_104 : ms_G 66 104 L (.int (nI 2) :: .int x :: S) σ = ms_G 66 105 L (.int (x - x / nI 2 * nI 2) :: S) σ := (ms_G_at rfl _ _ _).trans rfl
theorem mi_66_105 : ms_G 66 105 [l0, l1, l2, l3, l4, l5, l6, .int y, l8, l9] (.int x :: S) σ = ms_G 66 107 [l0, l1, l2, l3, l4, l5, l6, .int y, .int x, l9] S σ := (ms_G_at rfl _ _ _).trans rfl
theorem mi_66_107 : ms_G 66 107 L S σ = ms_G 66 108 L (.int (nI 0) :: S) σ := (ms_G_at rfl _ _ _).trans rfl
theorem mi_66_108 : ms_G 66 108 [l0, l1, l2, l3, l4, l5, l6, l7, .int y, l9] (.int x :: S) σ = ms_G 66 110 [l0, l1, l2, l3, l4, l5, l6, l7, .int y, .int x] S σ := (ms_G_at rfl _ _ _).trans rfl
theorem mi_66_110 : ms_G 66 110 [l0, l1, l2, l3, l4, l5, l6, l7, l8, .int x] S σ = ms_G 66 112 [l0, l1, l2, l3, l4, l5, l6, l7, l8, .int x] (.int x :: S) σ := (ms_G_at rfl _ _ _).trans rfl
theorem mi_66_112 : ms_G 66 112 L S σ = ms_G 66 113 L (.int (nI 4) :: S) σ := (ms_G_at rfl _ _ _).trans rfl
theorem mi_66_113 : ms_G 66 113 L (.int y :: .int x :: S) σ = if y ≤ x then ms_G 66 161 L S σ else ms_G 66 116 L S σ := mz_bra rfl rfl rfl
theorem mi_66_116 : ms_G 66 116 [.ref a, l1, l2, l3, l4, l5, l6, l7, l8, l9] S σ = ms_G 66 117 [.ref a, l1, l2, l3, l4, l5, l6, l7, l8, l9] (.ref a :: S) σ := (ms_G_at rfl _ _ _).trans rfl
theorem mi_66_117 : ms_G 66 117 [l0, l1, l2, l3, l4, l5, l6, l7, l8, .int x] S σ = ms_G 66 119 [l0, l1, l2, l3, l4, l5, l6, l7, l8, .int x] (.int x :: S) σ := (ms_G_at rfl _ _ _).trans rfl
theorem mi_66_119 : ms_G 66 119 L S σ = ms_G 66 120 L (.int (nI 4) :: S) σ := (ms_G_at rfl _ _ _).trans rfl
theorem mi_66_120 : ms_G 66 120 [l0, l1, l2, l3, l4, l5, l6, l7, l8, .int x] S σ = ms_G 66 122 [l0, l1, l2, l3, l4, l5, l6, l7, l8, .int x] (.int x :: S) σ := (ms_G_at rfl _ _ _).trans rfl
theorem mi_66_122 : ms_G 66 122 [l0, l1, l2, l3, l4, l5, l6, l7, .int x, l9] S σ = ms_G 66 124 [l0, l1, l2, l3, l4, l5, l6, l7, .int x, l9] (.int x :: S) σ := (ms_G_at rfl _ _ _).trans rfl
theorem mi_66_124 : ms_G 66 124 L (.int y :: .int x :: S) σ = ms_G 66 125 L (.int (x + y) :: S) σ := (ms_G_at rfl _ _ _).trans rfl
theorem mi_66_125 : ms_G 66 125 L S σ = ms_G 66 126 L (.int (nI 4) :: S) σ := (ms_G_at rfl _ _ _).trans rfl
theorem mi_66_126 : ms_G 66 126 L (.int (nI 4) :: .int x :: S) σ = ms_G 66 127 L (.int (x - x / nI 4 * nI 4) :: S) σ := (ms_G_at rfl _ _ _).trans rfl
theorem mi_66_127 : ms_G 66 127 L (.int y :: .int x :: S) σ = ms_G 66 128 L (.int (x + y) :: S) σ := (ms_G_at rfl _ _ _).trans rfl
theorem mi_66_128 : ms_G 66 128 L S σ = ms_G 66 130 L (.int (nI 8) :: S) σ := (ms_G_at rfl _ _ _).trans rfl
theorem mi_66_130 : ms_G 66 130 [l0, l1, l2, l3, l4, l5, l6, l7, l8, .int x] S σ = ms_G 66 132 [l0, l1, l2, l3, l4, l5, l6, l7, l8, .int x] (.int x :: S) σ := (ms_G_at rfl _ _ _).trans rfl
theorem mi_66_132 : ms_G 66 132 L S σ = ms_G 66 133 L (.int (nI 2) :: S) σ := (ms_G_at rfl _ _ _).trans rfl
theorem mi_66_133 : ms_G 66 133 [l0, l1, l2, l3, l4, l5, l6, l7, .int x, l9] S σ = ms_G 66 135 [l0, l1, l2, l3, l4, l5, l6, l7, .int x, l9] (.int x :: S) σ := (ms_G_at rfl _ _ _).trans rfl
theorem mi_66_135 : ms_G 66 135 L (.int y :: .int x :: S) σ = ms_G 66 136 L (.int (x * y) :: S) σ := (ms_G_at rfl _ _ _).trans rfl
theorem mi_66_136 : ms_G 66 136 L (.int y :: .int x :: S) σ = ms_G 66 137 L (.int (x + y) :: S) σ := (ms_G_at rfl _ _ _).trans rfl
theorem mi_66_137 : ms_G 66 137 L S σ = ms_G 66 138 L (.int (nI 4) :: S) σ := (ms_G_at rfl _ _ _).trans rfl
theorem mi_66_138 : ms_G 66 138 L (.int (nI 4) :: .int x :: S) σ = ms_G 66 139 L (.int (x - x / nI 4 * nI 4) :: S) σ := (ms_G_at rfl _ _ _).trans rfl
theorem mi_66_139 : ms_G 66 139 L (.int y :: .int x :: S) σ = ms_G 66 140 L (.int (x + y) :: S) σ := (ms_G_at rfl _ _ _).trans rfl
theorem mi_66_140 : ms_G 66 140 L S σ = ms_G 66 142 L (.int (nI 12) :: S) σ := (ms_G_at rfl _ _ _).trans rfl
theorem mi_66_142 : ms_G 66 142 [l0, l1, l2, l3, l4, l5, l6, l7, l8, .int x] S σ = ms_G 66 144 [l0, l1, l2, l3, l4, l5, l6, l7, l8, .int x] (.int x :: S) σ := (ms_G_at rfl _ _ _).trans rfl
theorem mi_66_144 : ms_G 66 144 L S σ = ms_G 66 145 L (.int (nI 3) :: S) σ := (ms_G_at rfl _ _ _).trans rfl
theorem mi_66_145 : ms_G 66 145 [l0, l1, l2, l3, l4, l5, l6, l7, .int x, l9] S σ = ms_G 66 147 [l0, l1, l2, l3, l4, l5, l6, l7, .int x, l9] (.int x :: S) σ := (ms_G_at rfl _ _ _).trans rfl
theorem mi_66_147 : ms_G 66 147 L (.int y :: .int x :: S) σ = ms_G 66 148 L (.int (x * y) :: S) σ := (ms_G_at rfl _ _ _).trans rfl
theorem mi_66_148 : ms_G 66 148 L (.int y :: .int x :: S) σ = ms_G 66 149 L (.int (x + y) :: S) σ := (ms_G_at rfl _ _ _).trans rfl
theorem mi_66_149 : ms_G 66 149 L S σ = ms_G 66 150 L (.int (nI 4) :: S) σ := (ms_G_at rfl _ _ _).trans rfl
theorem mi_66_150 : ms_G 66 150 L (.int (nI 4) :: .int x :: S) σ = ms_G 66 151 L (.int (x - x / nI 4 * nI 4) :: S) σ := (ms_G_at rfl _ _ _).trans rfl
theorem mi_66_151 : ms_G 66 151 L (.int y :: .int x :: S) σ = ms_G 66 152 L (.int (x + y) :: S) σ := (ms_G_at rfl _ _ _).trans rfl
theorem mi_66_152 : ms_G 66 152 L [.int x3, .int x2, .int x1, .int x0, .ref (ms_ad 5 0)] (ms_Z q w I J) = mo_cl 66 152 155 (ms_G 67 0 [.ref (ms_ad 5 0), .int x0, .int x1, .int x2, .int x3] [] (ms_Z q false I J)) w L [] := (mz_call rfl rfl (mz_can1 rfl rfl rfl rfl rfl (by decide) rfl (by decide))).trans rfl
theorem mi_66_155 : ms_G 66 155 [l0, l1, l2, l3, l4, l5, l6, l7, .int y, .int x] S σ = ms_G 66 158 [l0, l1, l2, l3, l4, l5, l6, l7, .int y, .int (x + nI 1)] S σ := (ms_G_at rfl _ _ _).trans rfl
theorem mi_66_158 : ms_G 66 158 L S σ = ms_G 66 110 L S σ := (ms_G_at rfl _ _ _).trans rfl
theorem mi_66_161 : ms_G 66 161 [l0, l1, l2, l3, l4, l5, .int y, .int x, l8, l9] S σ = ms_G 66 164 [l0, l1, l2, l3, l4, l5, .int y, .int (x + nI 1), l8, l9] S σ := (ms_G_at rfl _ _ _).trans rfl
theorem mi_66_164 : ms_G 66 164 L S σ = ms_G 66 94 L S σ := (ms_G_at rfl _ _ _).trans rfl
theorem mi_66_167 : ms_G 66 167 L S σ = ms_G 66 168 L (.int (nI 0) :: S) σ := (ms_G_at rfl _ _ _).trans rfl
theorem mi_66_168 : ms_G 66 168 [l0, l1, l2, l3, l4, l5, .int y, l7, l8, l9] (.int x :: S) σ = ms_G 66 170 [l0, l1, l2, l3, l4, l5, .int y, .int x, l8, l9] S σ := (ms_G_at rfl _ _ _).trans rfl
theorem mi_66_170 : ms_G 66 170 [l0, l1, l2, l3, l4, l5, l6, .int x, l8, l9] S σ = ms_G 66 172 [l0, l1, l2, l3, l4, l5, l6, .int x, l8, l9] (.int x :: S) σ := (ms_G_at rfl _ _ _).trans rfl
theorem mi_66_172 : ms_G 66 172 L S σ = ms_G 66 174 L (.int (nI 16) :: S) σ := (ms_G_at rfl _ _ _).trans rfl
theorem mi_66_174 : ms_G 66 174 L (.int y :: .int x :: S) σ = if y ≤ x then ms_G 66 200 L S σ else ms_G 66 177 L S σ := mz_bra rfl rfl rfl
theorem mi_66_177 : ms_G 66 177 [.ref a, l1, l2, l3, l4, l5, l6, l7, l8, l9] S σ = ms_G 66 178 [.ref a, l1, l2, l3, l4, l5, l6, l7, l8, l9] (.ref a :: S) σ := (ms_G_at rfl _ _ _).trans rfl
theorem mi_66_178 : ms_G 66 178 L (.ref (ms_ad 5 0) :: S) (ms_Z q w I J) = ms_G 66 181 L (.ref (ms_ad 7 0) :: S) (ms_Z q w I J) := mz_getf (c := (2, 7)) rfl (by decide) rfl (by decide) rfl
theorem mi_66_181 : ms_G 66 181 [l0, l1, l2, l3, l4, l5, l6, .int x, l8, l9] S σ = ms_G 66 183 [l0, l1, l2, l3, l4, l5, l6, .int x, l8, l9] (.int x :: S) σ := (ms_G_at rfl _ _ _).trans rfl
theorem mi_66_183 : ms_G 66 183 L (.int x :: .ref b :: S) σ = ms_G 66 184 L (.int x :: .ref b :: .int x :: .ref b :: S) σ := (ms_G_at rfl _ _ _).trans rfl
theorem mi_66_184 : ms_G 66 184 L (.int (nI i) :: .ref (ms_ad r u) :: S) (ms_Z q w I J) = cond (mo_0 q.1 r u i) (ms_G 66 185 L (.int (I r u i) :: S) (ms_Z q w I J)) (ms_raw 66 184 L (.int (nI i) :: .ref (ms_ad r u) :: S) (ms_Z q w I J)) := mz_iald rfl
theorem mi_66_185 : ms_G 66 185 [.ref a, l1, l2, l3, l4, l5, l6, l7, l8, l9] S σ = ms_G 66 186 [.ref a, l1, l2, l3, l4, l5, l6, l7, l8, l9] (.ref a :: S) σ := (ms_G_at rfl _ _ _).trans rfl
theorem mi_66_186 : ms_G 66 186 L (.ref (ms_ad 5 0) :: S) (ms_Z q w I J) = ms_G 66 189 L (.ref (ms_ad 6 0) :: S) (ms_Z q w I J) := mz_getf (c := (2, 6)) rfl (by decide) rfl (by decide) rfl
theorem mi_66_189 : ms_G 66 189 [l0, l1, l2, l3, l4, l5, l6, .int x, l8, l9] S σ = ms_G 66 191 [l0, l1, l2, l3, l4, l5, l6, .int x, l8, l9] (.int x :: S) σ := (ms_G_at rfl _ _ _).trans rfl
theorem mi_66_191 : ms_G 66 191 L (.int (nI i) :: .ref (ms_ad r u) :: S) (ms_Z q w I J) = cond (mo_0 q.1 r u i) (ms_G 66 192 L (.int (I r u i) :: S) (ms_Z q w I J)) (ms_raw 66 191 L (.int (nI i) :: .ref (ms_ad r u) :: S) (ms_Z q w I J)) := mz_iald rfl
theorem mi_66_192 : ms_G 66 192 L (.int y :: .int x :: S) σ = ms_G 66 193 L (.int (x + y) :: S) σ := (ms_G_at rfl _ _ _).trans rfl
theorem mi_66_193 : ms_G 66 193 L (.int x :: .int (nI i) :: .ref (ms_ad r u) :: S) (ms_Z q w I J) = cond (mo_0 q.1 r u i) (ms_G 66 194 L S (ms_Z q true (ms_u I r u (upd (I r u) i x)) J)) (ms_raw 66 193 L (.int x :: .int (nI i) :: .ref (ms_ad r u) :: S) (ms_Z q w I J)) := mz_iast rfl x
theorem mi_66_194 : ms_G 66 194 [l0, l1, l2, l3, l4, l5, .int y, .int x, l8, l9] S σ = ms_G 66 197 [l0, l1, l2, l3, l4, l5, .int y, .int (x + nI 1), l8, l9] S σ := (ms_G_at rfl _ _ _).trans rfl
theorem mi_66_197 : ms_G 66 197 L S σ = ms_G 66 170 L S σ := (ms_G_at rfl _ _ _).trans rfl
theorem mi_66_200 : ms_G 66 200 [.ref a, l1, l2, l3, l4, l5, l6, l7, l8, l9] S σ = ms_G 66 201 [.ref a, l1, l2, l3, l4, l5, l6, l7, l8, l9] (.ref a :: S) σ := (ms_G_at rfl _ _ _).trans rfl
theorem mi_66_201 : ms_G 66 201 L (.ref (ms_ad 5 0) :: S) (ms_Z q w I J) = ms_G 66 204 L (.ref (ms_ad 7 0) :: S) (ms_Z q w I J) := mz_getf (c := (2, 7)) rfl (by decide) rfl (by decide) rfl
theorem mi_66_204 : ms_G 66 204 L [.ref a] σ = some (.inl (some (.ref a)), σ) := (ms_G_at rfl _ _ _).trans rfl
-- MaskedSum$ChaCha.quarterRound(IIII)V
theorem mi_67_0 : ms_G 67 0 [.ref a, l1, l2, l3, l4] S σ = ms_G 67 1 [.ref a, l1, l2, l3, l4] (.ref a :: S) σ := (ms_G_at rfl _ _ _).trans rfl
theorem mi_67_1 : ms_G 67 1 L (.ref (ms_ad 5 0) :: S) (ms_Z q w I J) = ms_G 67 4 L (.ref (ms_ad 7 0) :: S) (ms_Z q w I J) := mz_getf (c := (2, 7)) rfl (by decide) rfl (by decide) rfl
theorem mi_67_4 : ms_G 67 4 [l0, .int x, l2, l3, l4] S σ = ms_G 67 5 [l0, .int x, l2, l3, l4] (.int x :: S) σ := (ms_G_at rfl _ _ _).trans rfl
theorem mi_67_5 : ms_G 67 5 L (.int x :: .ref b :: S) σ = ms_G 67 6 L (.int x :: .ref b :: .int x :: .ref b :: S) σ := (ms_G_at rfl _ _ _).trans rfl
theorem mi_67_6 : ms_G 67 6 L (.int (nI i) :: .ref (ms_ad r u) :: S) (ms_Z q w I J) = cond (mo_0 q.1 r u i) (ms_G 67 7 L (.int (I r u i) :: S) (ms_Z q w I J)) (ms_raw 67 6 L (.int (nI i) :: .ref (ms_ad r u) :: S) (ms_Z q w I J)) := mz_iald rfl
theorem mi_67_7 : ms_G 67 7 [.ref a, l1, l2, l3, l4] S σ = ms_G 67 8 [.ref a, l1, l2, l3, l4] (.ref a :: S) σ := (ms_G_at rfl _ _ _).trans rfl
theorem mi_67_8 : ms_G 67 8 L (.ref (ms_ad 5 0) :: S) (ms_Z q w I J) = ms_G 67 11 L (.ref (ms_ad 7 0) :: S) (ms_Z q w I J) := mz_getf (c := (2, 7)) rfl (by decide) rfl (by decide) rfl
theorem mi_67_11 : ms_G 67 11 [l0, l1, .int x, l3, l4] S σ = ms_G 67 12 [l0, l1, .int x, l3, l4] (.int x :: S) σ := (ms_G_at rfl _ _ _).trans rfl
theorem mi_67_12 : ms_G 67 12 L (.int (nI i) :: .ref (ms_ad r u) :: S) (ms_Z q w I J) = cond (mo_0 q.1 r u i) (ms_G 67 13 L (.int (I r u i) :: S) (ms_Z q w I J)) (ms_raw 67 12 L (.int (nI i) :: .ref (ms_ad r u) :: S) (ms_Z q w I J)) := mz_iald rfl
theorem mi_67_13 : ms_G 67 13 L (.int y :: .int x :: S) σ = ms_G 67 14 L (.int (x + y) :: S) σ := (ms_G_at rfl _ _ _).trans rfl
theorem mi_67_14 : ms_G 67 14 L (.int x :: .int (nI i) :: .ref (ms_ad r u) :: S) (ms_Z q w I J) = cond (mo_0 q.1 r u i) (ms_G 67 15 L S (ms_Z q true (ms_u I r u (upd (I r u) i x)) J)) (ms_raw 67 14 L (.int x :: .int (nI i) :: .ref (ms_ad r u) :: S) (ms_Z q w I J)) := mz_iast rfl x
theorem mi_67_15 : ms_G 67 15 [.ref a, l1, l2, l3, l4] S σ = ms_G 67 16 [.ref a, l1, l2, l3, l4] (.ref a :: S) σ := (ms_G_at rfl _ _ _).trans rfl
theorem mi_67_16 : ms_G 67 16 L (.ref (ms_ad 5 0) :: S) (ms_Z q w I J) = ms_G 67 19 L (.ref (ms_ad 7 0) :: S) (ms_Z q w I J) := mz_getf (c := (2, 7)) rfl (by decide) rfl (by decide) rfl
theorem mi_67_19 : ms_G 67 19 [l0, l1, l2, l3, .int x] S σ = ms_G 67 21 [l0, l1, l2, l3, .int x] (.int x :: S) σ := (ms_G_at rfl _ _ _).trans rfl
theorem mi_67_21 : ms_G 67 21 [.ref a, l1, l2, l3, l4] S σ = ms_G 67 22 [.ref a, l1, l2, l3, l4] (.ref a :: S) σ := (ms_G_at rfl _ _ _).trans rfl
theorem mi_67_22 : ms_G 67 22 L (.ref (ms_ad 5 0) :: S) (ms_Z q w I J) = ms_G 67 25 L (.ref (ms_ad 7 0) :: S) (ms_Z q w I J) := mz_getf (c := (2, 7)) rfl (by decide) rfl (by decide) rfl
theorem mi_67_25 : ms_G 67 25 [l0, l1, l2, l3, .int x] S σ = ms_G 67 27 [l0, l1, l2, l3, .int x] (.int x :: S) σ := (ms_G_at rfl _ _ _).trans rfl
theorem mi_67_27 : ms_G 67 27 L (.int (nI i) :: .ref (ms_ad r u) :: S) (ms_Z q w I J) = cond (mo_0 q.1 r u i) (ms_G 67 28 L (.int (I r u i) :: S) (ms_Z q w I J)) (ms_raw 67 27 L (.int (nI i) :: .ref (ms_ad r u) :: S) (ms_Z q w I J)) := mz_iald rfl
theorem mi_67_28 : ms_G 67 28 [.ref a, l1, l2, l3, l4] S σ = ms_G 67 29 [.ref a, l1, l2, l3, l4] (.ref a :: S) σ := (ms_G_at rfl _ _ _).trans rfl
theorem mi_67_29 : ms_G 67 29 L (.ref (ms_ad 5 0) :: S) (ms_Z q w I J) = ms_G 67 32 L (.ref (ms_ad 7 0) :: S) (ms_Z q w I J) := mz_getf (c := (2, 7)) rfl (by decide) rfl (by decide) rfl
theorem mi_67_32 : ms_G 67 32 [l0, .int x, l2, l3, l4] S σ = ms_G 67 33 [l0, .int x, l2, l3, l4] (.int x :: S) σ := (ms_G_at rfl _ _ _).trans rfl
theorem mi_67_33 : ms_G 67 33 L (.int (nI i) :: .ref (ms_ad r u) :: S) (ms_Z q w I J) = cond (mo_0 q.1 r u i) (ms_G 67 34 L (.int (I r u i) :: S) (ms_Z q w I J)) (ms_raw 67 33 L (.int (nI i) :: .ref (ms_ad r u) :: S) (ms_Z q w I J)) := mz_iald rfl
theorem mi_67_34 : ms_G 67 34 L (.int y :: .int x :: S) σ = ms_G 67 35 L (.int (x ^^^ y) :: S) σ := (ms_G_at rfl _ _ _).trans rfl
theorem mi_67_35 : ms_G 67 35 L S σ = ms_G 67 37 L (.int (nI 16) :: S) σ := (ms_G_at rfl _ _ _).trans rfl
theorem mi_67_37 : ms_G 67 37 L (.int x1 :: .int x0 :: [.int e0, .ref g1]) (ms_Z q w I J) = mo_cl 67 37 40 (ms_G 147 0 [.int x0, .int x1] [] (ms_Z q false I J)) w L [.int e0, .ref g1] := (mz_call rfl rfl (mz_can0 rfl rfl rfl rfl rfl)).trans rfl
theorem mi_67_40 : ms_G 67 40 L (.int x :: .int (nI i) :: .ref (ms_ad r u) :: S) (ms_Z q w I J) = cond (mo_0 q.1 r u i) (ms_G 67 41 L S (ms_Z q true (ms_u I r u (upd (I r u) i x)) J)) (ms_raw 67 40 L (.int x :: .int (nI i) :: .ref (ms_ad r u) :: S) (ms_Z q w I J)) := mz_iast rfl x
theorem mi_67_41 : ms_G 67 41 [.ref a, l1, l2, l3, l4] S σ = ms_G 67 42 [.ref a, l1, l2, l3, l4] (.ref a :: S) σ := (ms_G_at rfl _ _ _).trans rfl
theorem mi_67_42 : ms_G 67 42 L (.ref (ms_ad 5 0) :: S) (ms_Z q w I J) = ms_G 67 45 L (.ref (ms_ad 7 0) :: S) (ms_Z q w I J) := mz_getf (c := (2, 7)) rfl (by decide) rfl (by decide) rfl
theorem mi_67_45 : ms_G 67 45 [l0, l1, l2, .int x, l4] S σ = ms_G 67 46 [l0, l1, l2, .int x, l4] (.int x :: S) σ := (ms_G_at rfl _ _ _).trans rfl
theorem mi_67_46 : ms_G 67 46 L (.int x :: .ref b :: S) σ = ms_G 67 47 L (.int x :: .ref b :: .int x :: .ref b :: S) σ := (ms_G_at rfl _ _ _).trans rfl
theorem mi_67_47 : ms_G 67 47 L (.int (nI i) :: .ref (ms_ad r u) :: S) (ms_Z q w I J) = cond (mo_0 q.1 r u i) (ms_G 67 48 L (.int (I r u i) :: S) (ms_Z q w I J)) (ms_raw 67 47 L (.int (nI i) :: .ref (ms_ad r u) :: S) (ms_Z q w I J)) := mz_iald rfl
theorem mi_67_48 : ms_G 67 48 [.ref a, l1, l2, l3, l4] S σ = ms_G 67 49 [.ref a, l1, l2, l3, l4] (.ref a :: S) σ := (ms_G_at rfl _ _ _).trans rfl
theorem mi_67_49 : ms_G 67 49 L (.ref (ms_ad 5 0) :: S) (ms_Z q w I J) = ms_G 67 52 L (.ref (ms_ad 7 0) :: S) (ms_Z q w I J) := mz_getf (c := (2, 7)) rfl (by decide) rfl (by decide) rfl
theorem mi_67_52 : ms_G 67 52 [l0, l1, l2, l3, .int x] S σ = ms_G 67 54 [l0, l1, l2, l3, .int x] (.int x :: S) σ := (ms_G_at rfl _ _ _).trans rfl
theorem mi_67_54 : ms_G 67 54 L (.int (nI i) :: .ref (ms_ad r u) :: S) (ms_Z q w I J) = cond (mo_0 q.1 r u i) (ms_G 67 55 L (.int (I r u i) :: S) (ms_Z q w I J)) (ms_raw 67 54 L (.int (nI i) :: .ref (ms_ad r u) :: S) (ms_Z q w I J)) := mz_iald rfl
theorem mi_67_55 : ms_G 67 55 L (.int y :: .int x :: S) σ = ms_G 67 56 L (.int (x + y) :: S) σ := (ms_G_at rfl _ _ _).trans rfl
theorem mi_67_56 : ms_G 67 56 L (.int x :: .int (nI i) :: .ref (ms_ad r u) :: S) (ms_Z q w I J) = cond (mo_0 q.1 r u i) (ms_G 67 57 L S (ms_Z q true (ms_u I r u (upd (I r u) i x)) J)) (ms_raw 67 56 L (.int x :: .int (nI i) :: .ref (ms_ad r u) :: S) (ms_Z q w I J)) := mz_iast rfl x
theorem mi_67_57 : ms_G 67 57 [.ref a, l1, l2, l3, l4] S σ = ms_G 67 58 [.ref a, l1, l2, l3, l4] (.ref a :: S) σ := (ms_G_at rfl _ _ _).trans rfl
theorem mi_67_58 : ms_G 67 58 L (.ref (ms_ad 5 0) :: S) (ms_Z q w I J) = ms_G 67 61 L (.ref (ms_ad 7 0) :: S) (ms_Z q w I J) := mz_getf (c := (2, 7)) rfl (by decide) rfl (by decide) rfl
theorem mi_67_61 : ms_G 67 61 [l0, l1, .int x, l3, l4] S σ = ms_G 67 62 [l0, l1, .int x, l3, l4] (.int x :: S) σ := (ms_G_at rfl _ _ _).trans rfl
theorem mi_67_62 : ms_G 67 62 [.ref a, l1, l2, l3, l4] S σ = ms_G 67 63 [.ref a, l1, l2, l3, l4] (.ref a :: S) σ := (ms_G_at rfl _ _ _).trans rfl
theorem mi_67_63 : ms_G 67 63 L (.ref (ms_ad 5 0) :: S) (ms_Z q w I J) = ms_G 67 66 L (.ref (ms_ad 7 0) :: S) (ms_Z q w I J) := mz_getf (c := (2, 7)) rfl (by decide) rfl (by decide) rfl
theorem mi_67_66 : ms_G 67 66 [l0, l1, .int x, l3, l4] S σ = ms_G 67 67 [l0, l1, .int x, l3, l4] (.int x :: S) σ := (ms_G_at rfl _ _ _).trans rfl
theorem mi_67_67 : ms_G 67 67 L (.int (nI i) :: .ref (ms_ad r u) :: S) (ms_Z q w I J) = cond (mo_0 q.1 r u i) (ms_G 67 68 L (.int (I r u i) :: S) (ms_Z q w I J)) (ms_raw 67 67 L (.int (nI i) :: .ref (ms_ad r u) :: S) (ms_Z q w I J)) := mz_iald rfl
theorem mi_67_68 : ms_G 67 68 [.ref a, l1, l2, l3, l4] S σ = ms_G 67 69 [.ref a, l1, l2, l3, l4] (.ref a :: S) σ := (ms_G_at rfl _ _ _).trans rfl
theorem mi_67_69 : ms_G 67 69 L (.ref (ms_ad 5 0) :: S) (ms_Z q w I J) = ms_G 67 72 L (.ref (ms_ad 7 0) :: S) (ms_Z q w I J) := mz_getf (c := (2, 7)) rfl (by decide) rfl (by decide) rfl
theorem mi_67_72 : ms_G 67 72 [l0, l1, l2, .int x, l4] S σ = ms_G 67 73 [l0, l1, l2, .int x, l4] (.int x :: S) σ := (ms_G_at rfl _ _ _).trans rfl
theorem mi_67_73 : ms_G 67 73 L (.int (nI i) :: .ref (ms_ad r u) :: S) (ms_Z q w I J) = cond (mo_0 q.1 r u i) (ms_G 67 74 L (.int (I r u i) :: S) (ms_Z q w I J)) (ms_raw 67 73 L (.int (nI i) :: .ref (ms_ad r u) :: S) (ms_Z q w I J)) := mz_iald rfl
theorem mi_67_74 : ms_G 67 74 L (.int y :: .int x :: S) σ = ms_G 67 75 L (.int (x ^^^ y) :: S) σ := (ms_G_at rfl _ _ _).trans rfl
theorem mi_67_75 : ms_G 67 75 L S σ = ms_G 67 77 L (.int (nI 12) :: S) σ := (ms_G_at rfl _ _ _).trans rfl
theorem mi_67_77 : ms_G 67 77 L (.int x1 :: .int x0 :: [.int e0, .ref g1]) (ms_Z q w I J) = mo_cl 67 77 80 (ms_G 147 0 [.int x0, .int x1] [] (ms_Z q false I J)) w L [.int e0, .ref g1] := (mz_call rfl rfl (mz_can0 rfl rfl rfl rfl rfl)).trans rfl
theorem mi_67_80 : ms_G 67 80 L (.int x :: .int (nI i) :: .ref (ms_ad r u) :: S) (ms_Z q w I J) = cond (mo_0 q.1 r u i) (ms_G 67 81 L S (ms_Z q true (ms_u I r u (upd (I r u) i x)) J)) (ms_raw 67 80 L (.int x :: .int (nI i) :: .ref (ms_ad r u) :: S) (ms_Z q w I J)) := mz_iast rfl x
theorem mi_67_81 : ms_G 67 81 [.ref a, l1, l2, l3, l4] S σ = ms_G 67 82 [.ref a, l1, l2, l3, l4] (.ref a :: S) σ := (ms_G_at rfl _ _ _).trans rfl
theorem mi_67_82 : ms_G 67 82 L (.ref (ms_ad 5 0) :: S) (ms_Z q w I J) = ms_G 67 85 L (.ref (ms_ad 7 0) :: S) (ms_Z q w I J) := mz_getf (c := (2, 7)) rfl (by decide) rfl (by decide) rfl
theorem mi_67_85 : ms_G 67 85 [l0, .int x, l2, l3, l4] S σ = ms_G 67 86 [l0, .int x, l2, l3, l4] (.int x :: S) σ := (ms_G_at rfl _ _ _).trans rfl
theorem mi_67_86 : ms_G 67 86 L (.int x :: .ref b :: S) σ = ms_G 67 87 L (.int x :: .ref b :: .int x :: .ref b :: S) σ := (ms_G_at rfl _ _ _).trans rfl
theorem mi_67_87 : ms_G 67 87 L (.int (nI i) :: .ref (ms_ad r u) :: S) (ms_Z q w I J) = cond (mo_0 q.1 r u i) (ms_G 67 88 L (.int (I r u i) :: S) (ms_Z q w I J)) (ms_raw 67 87 L (.int (nI i) :: .ref (ms_ad r u) :: S) (ms_Z q w I J)) := mz_iald rfl
theorem mi_67_88 : ms_G 67 88 [.ref a, l1, l2, l3, l4] S σ = ms_G 67 89 [.ref a, l1, l2, l3, l4] (.ref a :: S) σ := (ms_G_at rfl _ _ _).trans rfl
theorem mi_67_89 : ms_G 67 89 L (.ref (ms_ad 5 0) :: S) (ms_Z q w I J) = ms_G 67 92 L (.ref (ms_ad 7 0) :: S) (ms_Z q w I J) := mz_getf (c := (2, 7)) rfl (by decide) rfl (by decide) rfl
theorem mi_67_92 : ms_G 67 92 [l0, l1, .int x, l3, l4] S σ = ms_G 67 93 [l0, l1, .int x, l3, l4] (.int x :: S) σ := (ms_G_at rfl _ _ _).trans rfl
theorem mi_67_93 : ms_G 67 93 L (.int (nI i) :: .ref (ms_ad r u) :: S) (ms_Z q w I J) = cond (mo_0 q.1 r u i) (ms_G 67 94 L (.int (I r u i) :: S) (ms_Z q w I J)) (ms_raw 67 93 L (.int (nI i) :: .ref (ms_ad r u) :: S) (ms_Z q w I J)) := mz_iald rfl
theorem mi_67_94 : ms_G 67 94 L (.int y :: .int x :: S) σ = ms_G 67 95 L (.int (x + y) :: S) σ := (ms_G_at rfl _ _ _).trans rfl
theorem mi_67_95 : ms_G 67 95 L (.int x :: .int (nI i) :: .ref (ms_ad r u) :: S) (ms_Z q w I J) = cond (mo_0 q.1 r u i) (ms_G 67 96 L S (ms_Z q true (ms_u I r u (upd (I r u) i x)) J)) (ms_raw 67 95 L (.int x :: .int (nI i) :: .ref (ms_ad r u) :: S) (ms_Z q w I J)) := mz_iast rfl x
theorem mi_67_96 : ms_G 67 96 [.ref a, l1, l2, l3, l4] S σ = ms_G 67 97 [.ref a, l1, l2, l3, l4] (.ref a :: S) σ := (ms_G_at rfl _ _ _).trans rfl
theorem mi_67_97 : ms_G 67 97 L (.ref (ms_ad 5 0) :: S) (ms_Z q w I J) = ms_G 67 100 L (.ref (ms_ad 7 0) :: S) (ms_Z q w I J) := mz_getf (c := (2, 7)) rfl (by decide) rfl (by decide) rfl
theorem mi_67_100 : ms_G 67 100 [l0, l1, l2, l3, .int x] S σ = ms_G 67 102 [l0, l1, l2, l3, .int x] (.int x :: S) σ := (ms_G_at rfl _ _ _).trans rfl
theorem mi_67_102 : ms_G 67 102 [.ref a, l1, l2, l3, l4] S σ = ms_G 67 103 [.ref a, l1, l2, l3, l4] (.ref a :: S) σ := (ms_G_at rfl _ _ _).trans rfl
theorem mi_67_103 : ms_G 67 103 L (.ref (ms_ad 5 0) :: S) (ms_Z q w I J) = ms_G 67 106 L (.ref (ms_ad 7 0) :: S) (ms_Z q w I J) := mz_getf (c := (2, 7)) rfl (by decide) rfl (by decide) rfl
theorem mi_67_106 : ms_G 67 106 [l0, l1, l2, l3, .int x] S σ = ms_G 67 108 [l0, l1, l2, l3, .int x] (.int x :: S) σ := (ms_G_at rfl _ _ _).trans rfl
theorem mi_67_108 : ms_G 67 108 L (.int (nI i) :: .ref (ms_ad r u) :: S) (ms_Z q w I J) = cond (mo_0 q.1 r u i) (ms_G 67 109 L (.int (I r u i) :: S) (ms_Z q w I J)) (ms_raw 67 108 L (.int (nI i) :: .ref (ms_ad r u) :: S) (ms_Z q w I J)) := mz_iald rfl
theorem mi_67_109 : ms_G 67 109 [.ref a, l1, l2, l3, l4] S σ = ms_G 67 110 [.ref a, l1, l2, l3, l4] (.ref a :: S) σ := (ms_G_at rfl _ _ _).trans rfl
theorem mi_67_110 : ms_G 67 110 L (.ref (ms_ad 5 0) :: S) (ms_Z q w I J) = ms_G 67 113 L (.ref (ms_ad 7 0) :: S) (ms_Z q w I J) := mz_getf (c := (2, 7)) rfl (by decide) rfl (by decide) rfl
theorem mi_67_113 : ms_G 67 113 [l0, .int x, l2, l3, l4] S σ = ms_G 67 114 [l0, .int x, l2, l3, l4] (.int x :: S) σ := (ms_G_at rfl _ _ _).trans rfl
theorem mi_67_114 : ms_G 67 114 L (.int (nI i) :: .ref (ms_ad r u) :: S) (ms_Z q w I J) = cond (mo_0 q.1 r u i) (ms_G 67 115 L (.int (I r u i) :: S) (ms_Z q w I J)) (ms_raw 67 114 L (.int (nI i) :: .ref (ms_ad r u) :: S) (ms_Z q w I J)) := mz_iald rfl
theorem mi_67_115 : ms_G 67 115 L (.int y :: .int x :: S) σ = ms_G 67 116 L (.int (x ^^^ y) :: S) σ := (ms_G_at rfl _ _ _).trans rfl
theorem mi_67_116 : ms_G 67 116 L S σ = ms_G 67 118 L (.int (nI 8) :: S) σ := (ms_G_at rfl _ _ _).trans rfl
theorem mi_67_118 : ms_G 67 118 L (.int x1 :: .int x0 :: [.int e0, .ref g1]) (ms_Z q w I J) = mo_cl 67 118 121 (ms_G 147 0 [.int x0, .int x1] [] (ms_Z q false I J)) w L [.int e0, .ref g1] := (mz_call rfl rfl (mz_can0 rfl rfl rfl rfl rfl)).trans rfl
theorem mi_67_121 : ms_G 67 121 L (.int x :: .int (nI i) :: .ref (ms_ad r u) :: S) (ms_Z q w I J) = cond (mo_0 q.1 r u i) (ms_G 67 122 L S (ms_Z q true (ms_u I r u (upd (I r u) i x)) J)) (ms_raw 67 121 L (.int x :: .int (nI i) :: .ref (ms_ad r u) :: S) (ms_Z q w I J)) := mz_iast rfl x
theorem mi_67_122 : ms_G 67 122 [.ref a, l1, l2, l3, l4] S σ = ms_G 67 123 [.ref a, l1, l2, l3, l4] (.ref a :: S) σ := (ms_G_at rfl _ _ _).trans rfl
theorem mi_67_123 : ms_G 67 123 L (.ref (ms_ad 5 0) :: S) (ms_Z q w I J) = ms_G 67 126 L (.ref (ms_ad 7 0) :: S) (ms_Z q w I J) := mz_getf (c := (2, 7)) rfl (by decide) rfl (by decide) rfl
theorem mi_67_126 : ms_G 67 126 [l0, l1, l2, .int x, l4] S σ = ms_G 67 127 [l0, l1, l2, .int x, l4] (.int x :: S) σ := (ms_G_at rfl _ _ _).trans rfl
theorem mi_67_127 : ms_G 67 127 L (.int x :: .ref b :: S) σ = ms_G 67 128 L (.int x :: .ref b :: .int x :: .ref b :: S) σ := (ms_G_at rfl _ _ _).trans rfl
theorem mi_67_128 : ms_G 67 128 L (.int (nI i) :: .ref (ms_ad r u) :: S) (ms_Z q w I J) = cond (mo_0 q.1 r u i) (ms_G 67 129 L (.int (I r u i) :: S) (ms_Z q w I J)) (ms_raw 67 128 L (.int (nI i) :: .ref (ms_ad r u) :: S) (ms_Z q w I J)) := mz_iald rfl
theorem mi_67_129 : ms_G 67 129 [.ref a, l1, l2, l3, l4] S σ = ms_G 67 130 [.ref a, l1, l2, l3, l4] (.ref a :: S) σ := (ms_G_at rfl _ _ _).trans rfl
theorem mi_67_130 : ms_G 67 130 L (.ref (ms_ad 5 0) :: S) (ms_Z q w I J) = ms_G 67 133 L (.ref (ms_ad 7 0) :: S) (ms_Z q w I J) := mz_getf (c := (2, 7)) rfl (by decide) rfl (by decide) rfl
theorem mi_67_133 : ms_G 67 133 [l0, l1, l2, l3, .int x] S σ = ms_G 67 135 [l0, l1, l2, l3, .int x] (.int x :: S) σ := (ms_G_at rfl _ _ _).trans rfl
theorem mi_67_135 : ms_G 67 135 L (.int (nI i) :: .ref (ms_ad r u) :: S) (ms_Z q w I J) = cond (mo_0 q.1 r u i) (ms_G 67 136 L (.int (I r u i) :: S) (ms_Z q w I J)) (ms_raw 67 135 L (.int (nI i) :: .ref (ms_ad r u) :: S) (ms_Z q w I J)) := mz_iald rfl
theorem mi_67_136 : ms_G 67 136 L (.int y :: .int x :: S) σ = ms_G 67 137 L (.int (x + y) :: S) σ := (ms_G_at rfl _ _ _).trans rfl
theorem mi_67_137 : ms_G 67 137 L (.int x :: .int (nI i) :: .ref (ms_ad r u) :: S) (ms_Z q w I J) = cond (mo_0 q.1 r u i) (ms_G 67 138 L S (ms_Z q true (ms_u I r u (upd (I r u) i x)) J)) (ms_raw 67 137 L (.int x :: .int (nI i) :: .ref (ms_ad r u) :: S) (ms_Z q w I J)) := mz_iast rfl x
theorem mi_67_138 : ms_G 67 138 [.ref a, l1, l2, l3, l4] S σ = ms_G 67 139 [.ref a, l1, l2, l3, l4] (.ref a :: S) σ := (ms_G_at rfl _ _ _).trans rfl
theorem mi_67_139 : ms_G 67 139 L (.ref (ms_ad 5 0) :: S) (ms_Z q w I J) = ms_G 67 142 L (.ref (ms_ad 7 0) :: S) (ms_Z q w I J) := mz_getf (c := (2, 7)) rfl (by decide) rfl (by decide) rfl
theorem mi_67_142 : ms_G 67 142 [l0, l1, .int x, l3, l4] S σ = ms_G 67 143 [l0, l1, .int x, l3, l4] (.int x :: S) σ := (ms_G_at rfl _ _ _).trans rfl
theorem mi_67_143 : ms_G 67 143 [.ref a, l1, l2, l3, l4] S σ = ms_G 67 144 [.ref a, l1, l2, l3, l4] (.ref a :: S) σ := (ms_G_at rfl _ _ _).trans rfl
theorem mi_67_144 : ms_G 67 144 L (.ref (ms_ad 5 0) :: S) (ms_Z q w I J) = ms_G 67 147 L (.ref (ms_ad 7 0) :: S) (ms_Z q w I J) := mz_getf (c := (2, 7)) rfl (by decide) rfl (by decide) rfl
theorem mi_67_147 : ms_G 67 147 [l0, l1, .int x, l3, l4] S σ = ms_G 67 148 [l0, l1, .int x, l3, l4] (.int x :: S) σ := (ms_G_at rfl _ _ _).trans rfl
theorem mi_67_148 : ms_G 67 148 L (.int (nI i) :: .ref (ms_ad r u) :: S) (ms_Z q w I J) = cond (mo_0 q.1 r u i) (ms_G 67 149 L (.int (I r u i) :: S) (ms_Z q w I J)) (ms_raw 67 148 L (.int (nI i) :: .ref (ms_ad r u) :: S) (ms_Z q w I J)) := mz_iald rfl
theorem mi_67_149 : ms_G 67 149 [.ref a, l1, l2, l3, l4] S σ = ms_G 67 150 [.ref a, l1, l2, l3, l4] (.ref a :: S) σ := (ms_G_at rfl _ _ _).trans rfl
theorem mi_67_150 : ms_G 67 150 L (.ref (ms_ad 5 0) :: S) (ms_Z q w I J) = ms_G 67 153 L (.ref (ms_ad 7 0) :: S) (ms_Z q w I J) := mz_getf (c := (2, 7)) rfl (by decide) rfl (by decide) rfl
theorem mi_67_153 : ms_G 67 153 [l0, l1, l2, .int x, l4] S σ = ms_G 67 154 [l0, l1, l2, .int x, l4] (.int x :: S) σ := (ms_G_at rfl _ _ _).trans rfl
theorem mi_67_154 : ms_G 67 154 L (.int (nI i) :: .ref (ms_ad r u) :: S) (ms_Z q w I J) = cond (mo_0 q.1 r u i) (ms_G 67 155 L (.int (I r u i) :: S) (ms_Z q w I J)) (ms_raw 67 154 L (.int (nI i) :: .ref (ms_ad r u) :: S) (ms_Z q w I J)) := mz_iald rfl
theorem mi_67_155 : ms_G 67 155 L (.int y :: .int x :: S) σ = ms_G 67 156 L (.int (x ^^^ y) :: S) σ := (ms_G_at rfl _ _ _).trans rfl
theorem mi_67_156 : ms_G 67 156 L S σ = ms_G 67 158 L (.int (nI 7) :: S) σ := (ms_G_at rfl _ _ _).trans rfl
theorem mi_67_158 : ms_G 67 158 L (.int x1 :: .int x0 :: [.int e0, .ref g1]) (ms_Z q w I J) = mo_cl 67 158 161 (ms_G 147 0 [.int x0, .int x1] [] (ms_Z q false I J)) w L [.int e0, .ref g1] := (mz_call rfl rfl (mz_can0 rfl rfl rfl rfl rfl)).trans rfl
theorem mi_67_161 : ms_G 67 161 L (.int x :: .int (nI i) :: .ref (ms_ad r u) :: S) (ms_Z q w I J) = cond (mo_0 q.1 r u i) (ms_G 67 162 L S (ms_Z q true (ms_u I r u (upd (I r u) i x)) J)) (ms_raw 67 161 L (.int x :: .int (nI i) :: .ref (ms_ad r u) :: S) (ms_Z q w I J)) := mz_iast rfl x
theorem mi_67_162 : ms_G 67 162 L [] σ = some (.inl none, σ) := (ms_G_at rfl _ _ _).trans rfl
-- MaskedSum$Crypto.streamBlock(JIII)[I
theorem mi_69_0 : ms_G 69 0 [.ref a, l1, l2, l3, l4, l5] S σ = ms_G 69 1 [.ref a, l1, l2, l3, l4, l5] (.ref a :: S) σ := (ms_G_at rfl _ _ _).trans rfl
theorem mi_69_1 : ms_G 69 1 L (.ref (ms_ad 4 0) :: S) (ms_Z q w I J) = ms_G 69 4 L (.ref (ms_ad 5 0) :: S) (ms_Z q w I J) := mz_getf (c := (2, 5)) rfl (by decide) rfl (by decide) rfl
theorem mi_69_4 : ms_G 69 4 [l0, .long X, l2, l3, l4, l5] S σ = ms_G 69 5 [l0, .long X, l2, l3, l4, l5] (.long X :: S) σ := (ms_G_at rfl _ _ _).trans rfl
theorem mi_69_5 : ms_G 69 5 [l0, l1, l2, l3, l4, .int x] S σ = ms_G 69 7 [l0, l1, l2, l3, l4, .int x] (.int x :: S) σ := (ms_G_at rfl _ _ _).trans rfl
theorem mi_69_7 : ms_G 69 7 [l0, l1, l2, .int x, l4, l5] S σ = ms_G 69 8 [l0, l1, l2, .int x, l4, l5] (.int x :: S) σ := (ms_G_at rfl _ _ _).trans rfl
theorem mi_69_8 : ms_G 69 8 [l0, l1, l2, l3, .int x, l5] S σ = ms_G 69 10 [l0, l1, l2, l3, .int x, l5] (.int x :: S) σ := (ms_G_at rfl _ _ _).trans rfl
theorem mi_69_10 : ms_G 69 10 L S σ = ms_G 69 11 L (.int (nI 0) :: S) σ := (ms_G_at rfl _ _ _).trans rfl
theorem mi_69_11 : ms_G 69 11 L [.int x4, .int x3, .int x2, .int x1, .long X0, .ref (ms_ad 5 0)] (ms_Z q w I J) = mo_cl 69 11 14 (ms_G 66 0 [.ref (ms_ad 5 0), .long X0, .null, .int x1, .int x2, .int x3, .int x4, .null, .null, .null] [] (ms_Z q false I J)) w L [] := (mz_call rfl rfl (mz_can1 rfl rfl rfl rfl rfl (by decide) rfl (by decide))).trans rfl
theorem mi_69_14 : ms_G 69 14 L [.ref a] σ = some (.inl (some (.ref a)), σ) := (ms_G_at rfl _ _ _).trans rfl
-- MaskedSum$Crypto.addMask([IZJII)V
theorem mi_70_0 : ms_G 70 0 [.ref a, l1, l2, l3, l4, l5, l6, l7, l8] S σ = ms_G 70 1 [.ref a, l1, l2, l3, l4, l5, l6, l7, l8] (.ref a :: S) σ := (ms_G_at rfl _ _ _).trans rfl
theorem mi_70_1 : ms_G 70 1 L (.ref (ms_ad 4 0) :: S) (ms_Z q w I J) = ms_G 70 4 L (.ref (ms_ad 5 0) :: S) (ms_Z q w I J) := mz_getf (c := (2, 5)) rfl (by decide) rfl (by decide) rfl
theorem mi_70_4 : ms_G 70 4 [l0, l1, l2, .long X, l4, l5, l6, l7, l8] S σ = ms_G 70 5 [l0, l1, l2, .long X, l4, l5, l6, l7, l8] (.long X :: S) σ := (ms_G_at rfl _ _ _).trans rfl
theorem mi_70_5 : ms_G 70 5 L S σ = ms_G 70 6 L (.int (nI 0) :: S) σ := (ms_G_at rfl _ _ _).trans rfl
theorem mi_70_6 : ms_G 70 6 [l0, l1, l2, l3, l4, .int x, l6, l7, l8] S σ = ms_G 70 8 [l0, l1, l2, l3, l4, .int x, l6, l7, l8] (.int x :: S) σ := (ms_G_at rfl _ _ _).trans rfl
theorem mi_70_8 : ms_G 70 8 [l0, l1, l2, l3, l4, l5, .int x, l7, l8] S σ = ms_G 70 10 [l0, l1, l2, l3, l4, l5, .int x, l7, l8] (.int x :: S) σ := (ms_G_at rfl _ _ _).trans rfl
theorem mi_70_10 : ms_G 70 10 L S σ = ms_G 70 11 L (.int (nI 0) :: S) σ := (ms_G_at rfl _ _ _).trans rfl
theorem mi_70_11 : ms_G 70 11 L [.int x4, .int x3, .int x2, .int x1, .long X0, .ref (ms_ad 5 0)] (ms_Z q w I J) = mo_cl 70 11 14 (ms_G 66 0 [.ref (ms_ad 5 0), .long X0, .null, .int x1, .int x2, .int x3, .int x4, .null, .null, .null] [] (ms_Z q false I J)) w L [] := (mz_call rfl rfl (mz_can1 rfl rfl rfl rfl rfl (by decide) rfl (by decide))).trans rfl
theorem mi_70_14 : ms_G 70 14 [l0, l1, l2, l3, l4, l5, .int y, l7, l8] (.ref a :: S) σ = ms_G 70 16 [l0, l1, l2, l3, l4, l5, .int y, .ref a, l8] S σ := (ms_G_at rfl _ _ _).trans rfl
theorem mi_70_16 : ms_G 70 16 L S σ = ms_G 70 17 L (.int (nI 0) :: S) σ := (ms_G_at rfl _ _ _).trans rfl
theorem mi_70_17 : ms_G 70 17 [l0, l1, l2, l3, l4, l5, l6, .ref b, l8] (.int x :: S) σ = ms_G 70 19 [l0, l1, l2, l3, l4, l5, l6, .ref b, .int x] S σ := (ms_G_at rfl _ _ _).trans rfl
theorem mi_70_19 : ms_G 70 19 [l0, l1, l2, l3, l4, l5, l6, l7, .int x] S σ = ms_G 70 21 [l0, l1, l2, l3, l4, l5, l6, l7, .int x] (.int x :: S) σ := (ms_G_at rfl _ _ _).trans rfl
theorem mi_70_21 : ms_G 70 21 L S σ = ms_G 70 22 L (.int (nI 4) :: S) σ := (ms_G_at rfl _ _ _).trans rfl
theorem mi_70_22 : ms_G 70 22 L (.int y :: .int x :: S) σ = if y ≤ x then ms_G 70 56 L S σ else ms_G 70 25 L S σ := mz_bra rfl rfl rfl
theorem mi_70_25 : ms_G 70 25 [l0, .ref a, l2, l3, l4, l5, l6, l7, l8] S σ = ms_G 70 26 [l0, .ref a, l2, l3, l4, l5, l6, l7, l8] (.ref a :: S) σ := (ms_G_at rfl _ _ _).trans rfl
theorem mi_70_26 : ms_G 70 26 [l0, l1, l2, l3, l4, l5, l6, l7, .int x] S σ = ms_G 70 28 [l0, l1, l2, l3, l4, l5, l6, l7, .int x] (.int x :: S) σ := (ms_G_at rfl _ _ _).trans rfl
theorem mi_70_28 : ms_G 70 28 L (.int x :: .ref b :: S) σ = ms_G 70 29 L (.int x :: .ref b :: .int x :: .ref b :: S) σ := (ms_G_at rfl _ _ _).trans rfl
theorem mi_70_29 : ms_G 70 29 L (.int (nI i) :: .ref (ms_ad r u) :: S) (ms_Z q w I J) = cond (mo_0 q.1 r u i) (ms_G 70 30 L (.int (I r u i) :: S) (ms_Z q w I J)) (ms_raw 70 29 L (.int (nI i) :: .ref (ms_ad r u) :: S) (ms_Z q w I J)) := mz_iald rfl
theorem mi_70_30 : ms_G 70 30 [l0, l1, .int x, l3, l4, l5, l6, l7, l8] S σ = ms_G 70 31 [l0, l1, .int x, l3, l4, l5, l6, l7, l8] (.int x :: S) σ := (ms_G_at rfl _ _ _).trans rfl
theorem mi_70_31 : ms_G 70 31 L (.int x :: S) σ = if x = nI 0 then ms_G 70 42 L S σ else ms_G 70 34 L S σ := mz_bra rfl rfl rfl
theorem mi_70_34 : ms_G 70 34 [l0, l1, l2, l3, l4, l5, l6, .ref a, l8] S σ = ms_G 70 36 [l0, l1, l2, l3, l4, l5, l6, .ref a, l8] (.ref a :: S) σ := (ms_G_at rfl _ _ _).trans rfl
theorem mi_70_36 : ms_G 70 36 [l0, l1, l2, l3, l4, l5, l6, l7, .int x] S σ = ms_G 70 38 [l0, l1, l2, l3, l4, l5, l6, l7, .int x] (.int x :: S) σ := (ms_G_at rfl _ _ _).trans rfl
theorem mi_70_38 : ms_G 70 38 L (.int (nI i) :: .ref (ms_ad r u) :: S) (ms_Z q w I J) = cond (mo_0 q.1 r u i) (ms_G 70 39 L (.int (I r u i) :: S) (ms_Z q w I J)) (ms_raw 70 38 L (.int (nI i) :: .ref (ms_ad r u) :: S) (ms_Z q w I J)) := mz_iald rfl
theorem mi_70_39 : ms_G 70 39 L S σ = ms_G 70 48 L S σ := (ms_G_at rfl _ _ _).trans rfl
theorem mi_70_42 : ms_G 70 42 [l0, l1, l2, l3, l4, l5, l6, .ref a, l8] S σ = ms_G 70 44 [l0, l1, l2, l3, l4, l5, l6, .ref a, l8] (.ref a :: S) σ := (ms_G_at rfl _ _ _).trans rfl
theorem mi_70_44 : ms_G 70 44 [l0, l1, l2, l3, l4, l5, l6, l7, .int x] S σ = ms_G 70 46 [l0, l1, l2, l3, l4, l5, l6, l7, .int x] (.int x :: S) σ := (ms_G_at rfl _ _ _).trans rfl
theorem mi_70_46 : ms_G 70 46 L (.int (nI i) :: .ref (ms_ad r u) :: S) (ms_Z q w I J) = cond (mo_0 q.1 r u i) (ms_G 70 47 L (.int (I r u i) :: S) (ms_Z q w I J)) (ms_raw 70 46 L (.int (nI i) :: .ref (ms_ad r u) :: S) (ms_Z q w I J)) := mz_iald rfl
theorem mi_70_47 : ms_G 70 47 L (.int x :: S) σ = ms_G 70 48 L (.int (-x) :: S) σ := (ms_G_at rfl _ _ _).trans rfl
theorem mi_70_48 : ms_G 70 48 L (.int y :: .int x :: S) σ = ms_G 70 49 L (.int (x + y) :: S) σ := (ms_G_at rfl _ _ _).trans rfl
theorem mi_70_49 : ms_G 70 49 L (.int x :: .int (nI i) :: .ref (ms_ad r u) :: S) (ms_Z q w I J) = cond (mo_0 q.1 r u i) (ms_G 70 50 L S (ms_Z q true (ms_u I r u (upd (I r u) i x)) J)) (ms_raw 70 49 L (.int x :: .int (nI i) :: .ref (ms_ad r u) :: S) (ms_Z q w I J)) := mz_iast rfl x
theorem mi_70_50 : ms_G 70 50 [l0, l1, l2, l3, l4, l5, l6, .ref b, .int x] S σ = ms_G 70 53 [l0, l1, l2, l3, l4, l5, l6, .ref b, .int (x + nI 1)] S σ := (ms_G_at rfl _ _ _).trans rfl
theorem mi_70_53 : ms_G 70 53 L S σ = ms_G 70 19 L S σ := (ms_G_at rfl _ _ _).trans rfl
theorem mi_70_56 : ms_G 70 56 L [] σ = some (.inl none, σ) := (ms_G_at rfl _ _ _).trans rfl
-- MaskedSum$Crypto.seal(JII[II)V
theorem mi_71_0 : ms_G 71 0 [.ref a, l1, l2, l3, l4, l5, l6, l7, l8] S σ = ms_G 71 1 [.ref a, l1, l2, l3, l4, l5, l6, l7, l8] (.ref a :: S) σ := (ms_G_at rfl _ _ _).trans rfl
theorem mi_71_1 : ms_G 71 1 L (.ref (ms_ad 4 0) :: S) (ms_Z q w I J) = ms_G 71 4 L (.ref (ms_ad 5 0) :: S) (ms_Z q w I J) := mz_getf (c := (2, 5)) rfl (by decide) rfl (by decide) rfl
theorem mi_71_4 : ms_G 71 4 [l0, .long X, l2, l3, l4, l5, l6, l7, l8] S σ = ms_G 71 5 [l0, .long X, l2, l3, l4, l5, l6, l7, l8] (.long X :: S) σ := (ms_G_at rfl _ _ _).trans rfl
theorem mi_71_5 : ms_G 71 5 L S σ = ms_G 71 6 L (.int (nI 1) :: S) σ := (ms_G_at rfl _ _ _).trans rfl
theorem mi_71_6 : ms_G 71 6 [l0, l1, l2, .int x, l4, l5, l6, l7, l8] S σ = ms_G 71 7 [l0, l1, l2, .int x, l4, l5, l6, l7, l8] (.int x :: S) σ := (ms_G_at rfl _ _ _).trans rfl
theorem mi_71_7 : ms_G 71 7 [l0, l1, l2, l3, .int x, l5, l6, l7, l8] S σ = ms_G 71 9 [l0, l1, l2, l3, .int x, l5, l6, l7, l8] (.int x :: S) σ := (ms_G_at rfl _ _ _).trans rfl
theorem mi_71_9 : ms_G 71 9 L S σ = ms_G 71 10 L (.int (nI 1) :: S) σ := (ms_G_at rfl _ _ _).trans rfl
theorem mi_71_10 : ms_G 71 10 L [.int x4, .int x3, .int x2, .int x1, .long X0, .ref (ms_ad 5 0)] (ms_Z q w I J) = mo_cl 71 10 13 (ms_G 66 0 [.ref (ms_ad 5 0), .long X0, .null, .int x1, .int x2, .int x3, .int x4, .null, .null, .null] [] (ms_Z q false I J)) w L [] := (mz_call rfl rfl (mz_can1 rfl rfl rfl rfl rfl (by decide) rfl (by decide))).trans rfl
theorem mi_71_13 : ms_G 71 13 [l0, l1, l2, l3, l4, l5, .int y, l7, l8] (.ref a :: S) σ = ms_G 71 15 [l0, l1, l2, l3, l4, l5, .int y, .ref a, l8] S σ := (ms_G_at rfl _ _ _).trans rfl
theorem mi_71_15 : ms_G 71 15 L S σ = ms_G 71 16 L (.int (nI 0) :: S) σ := (ms_G_at rfl _ _ _).trans rfl
theorem mi_71_16 : ms_G 71 16 [l0, l1, l2, l3, l4, l5, l6, .ref b, l8] (.int x :: S) σ = ms_G 71 18 [l0, l1, l2, l3, l4, l5, l6, .ref b, .int x] S σ := (ms_G_at rfl _ _ _).trans rfl
theorem mi_71_18 : ms_G 71 18 [l0, l1, l2, l3, l4, l5, l6, l7, .int x] S σ = ms_G 71 20 [l0, l1, l2, l3, l4, l5, l6, l7, .int x] (.int x :: S) σ := (ms_G_at rfl _ _ _).trans rfl
theorem mi_71_20 : ms_G 71 20 L S σ = ms_G 71 21 L (.int (nI 4) :: S) σ := (ms_G_at rfl _ _ _).trans rfl
theorem mi_71_21 : ms_G 71 21 L (.int y :: .int x :: S) σ = if y ≤ x then ms_G 71 46 L S σ else ms_G 71 24 L S σ := mz_bra rfl rfl rfl
theorem mi_71_24 : ms_G 71 24 [l0, l1, l2, l3, l4, .ref a, l6, l7, l8] S σ = ms_G 71 26 [l0, l1, l2, l3, l4, .ref a, l6, l7, l8] (.ref a :: S) σ := (ms_G_at rfl _ _ _).trans rfl
theorem mi_71_26 : ms_G 71 26 [l0, l1, l2, l3, l4, l5, .int x, l7, l8] S σ = ms_G 71 28 [l0, l1, l2, l3, l4, l5, .int x, l7, l8] (.int x :: S) σ := (ms_G_at rfl _ _ _).trans rfl
theorem mi_71_28 : ms_G 71 28 [l0, l1, l2, l3, l4, l5, l6, l7, .int x] S σ = ms_G 71 30 [l0, l1, l2, l3, l4, l5, l6, l7, .int x] (.int x :: S) σ := (ms_G_at rfl _ _ _).trans rfl
theorem mi_71_30 : ms_G 71 30 L (.int y :: .int x :: S) σ = ms_G 71 31 L (.int (x + y) :: S) σ := (ms_G_at rfl _ _ _).trans rfl
theorem mi_71_31 : ms_G 71 31 L (.int x :: .ref b :: S) σ = ms_G 71 32 L (.int x :: .ref b :: .int x :: .ref b :: S) σ := (ms_G_at rfl _ _ _).trans rfl
theorem mi_71_32 : ms_G 71 32 L (.int (nI i) :: .ref (ms_ad r u) :: S) (ms_Z q w I J) = cond (mo_0 q.1 r u i) (ms_G 71 33 L (.int (I r u i) :: S) (ms_Z q w I J)) (ms_raw 71 32 L (.int (nI i) :: .ref (ms_ad r u) :: S) (ms_Z q w I J)) := mz_iald rfl
theorem mi_71_33 : ms_G 71 33 [l0, l1, l2, l3, l4, l5, l6, .ref a, l8] S σ = ms_G 71 35 [l0, l1, l2, l3, l4, l5, l6, .ref a, l8] (.ref a :: S) σ := (ms_G_at rfl _ _ _).trans rfl
theorem mi_71_35 : ms_G 71 35 [l0, l1, l2, l3, l4, l5, l6, l7, .int x] S σ = ms_G 71 37 [l0, l1, l2, l3, l4, l5, l6, l7, .int x] (.int x :: S) σ := (ms_G_at rfl _ _ _).trans rfl
theorem mi_71_37 : ms_G 71 37 L (.int (nI i) :: .ref (ms_ad r u) :: S) (ms_Z q w I J) = cond (mo_0 q.1 r u i) (ms_G 71 38 L (.int (I r u i) :: S) (ms_Z q w I J)) (ms_raw 71 37 L (.int (nI i) :: .ref (ms_ad r u) :: S) (ms_Z q w I J)) := mz_iald rfl
theorem mi_71_38 : ms_G 71 38 L (.int y :: .int x :: S) σ = ms_G 71 39 L (.int (x ^^^ y) :: S) σ := (ms_G_at rfl _ _ _).trans rfl
theorem mi_71_39 : ms_G 71 39 L (.int x :: .int (nI i) :: .ref (ms_ad r u) :: S) (ms_Z q w I J) = cond (mo_0 q.1 r u i) (ms_G 71 40 L S (ms_Z q true (ms_u I r u (upd (I r u) i x)) J)) (ms_raw 71 39 L (.int x :: .int (nI i) :: .ref (ms_ad r u) :: S) (ms_Z q w I J)) := mz_iast rfl x
theorem mi_71_40 : ms_G 71 40 [l0, l1, l2, l3, l4, l5, l6, .ref b, .int x] S σ = ms_G 71 43 [l0, l1, l2, l3, l4, l5, l6, .ref b, .int (x + nI 1)] S σ := (ms_G_at rfl _ _ _).trans rfl
theorem mi_71_43 : ms_G 71 43 L S σ = ms_G 71 18 L S σ := (ms_G_at rfl _ _ _).trans rfl
theorem mi_71_46 : ms_G 71 46 [.ref a, l1, l2, l3, l4, l5, l6, l7, l8] S σ = ms_G 71 47 [.ref a, l1, l2, l3, l4, l5, l6, l7, l8] (.ref a :: S) σ := (ms_G_at rfl _ _ _).trans rfl
theorem mi_71_47 : ms_G 71 47 [l0, .long X, l2, l3, l4, l5, l6, l7, l8] S σ = ms_G 71 48 [l0, .long X, l2, l3, l4, l5, l6, l7, l8] (.long X :: S) σ := (ms_G_at rfl _ _ _).trans rfl
theorem mi_71_48 : ms_G 71 48 [l0, l1, l2, .int x, l4, l5, l6, l7, l8] S σ = ms_G 71 49 [l0, l1, l2, .int x, l4, l5, l6, l7, l8] (.int x :: S) σ := (ms_G_at rfl _ _ _).trans rfl
theorem mi_71_49 : ms_G 71 49 [l0, l1, l2, l3, .int x, l5, l6, l7, l8] S σ = ms_G 71 51 [l0, l1, l2, l3, .int x, l5, l6, l7, l8] (.int x :: S) σ := (ms_G_at rfl _ _ _).trans rfl
theorem mi_71_51 : ms_G 71 51 [l0, l1, l2, l3, l4, .ref a, l6, l7, l8] S σ = ms_G 71 53 [l0, l1, l2, l3, l4, .ref a, l6, l7, l8] (.ref a :: S) σ := (ms_G_at rfl _ _ _).trans rfl
theorem mi_71_53 : ms_G 71 53 [l0, l1, l2, l3, l4, l5, .int x, l7, l8] S σ = ms_G 71 55 [l0, l1, l2, l3, l4, l5, .int x, l7, l8] (.int x :: S) σ := (ms_G_at rfl _ _ _).trans rfl
theorem mi_71_55 : ms_G 71 55 L [.int x4, .ref a3, .int x2, .int x1, .long X0, .ref (ms_ad 4 0)] (ms_Z q w I J) = mo_cl 71 55 58 (ms_G 73 0 [.ref (ms_ad 4 0), .long X0, .null, .int x1, .int x2, .ref a3, .int x4] [] (ms_Z q false I J)) w L [] := (mz_call rfl rfl (mz_can1 rfl rfl rfl rfl rfl (by decide) rfl (by decide))).trans rfl
theorem mi_71_58 : ms_G 71 58 [.ref a, l1, l2, l3, l4, l5, l6, l7, l8] S σ = ms_G 71 59 [.ref a, l1, l2, l3, l4, l5, l6, l7, l8] (.ref a :: S) σ := (ms_G_at rfl _ _ _).trans rfl
theorem mi_71_59 : ms_G 71 59 L (.ref (ms_ad 4 0) :: S) (ms_Z q w I J) = ms_G 71 62 L (.ref (ms_ad 8 0) :: S) (ms_Z q w I J) := mz_getf (c := (2, 8)) rfl (by decide) rfl (by decide) rfl
theorem mi_71_62 : ms_G 71 62 L (.ref (ms_ad 8 0) :: S) (ms_Z q w I J) = ms_G 71 65 L (.ref (ms_ad 13 0) :: S) (ms_Z q w I J) := mz_getf (c := (2, 13)) rfl (by decide) rfl (by decide) rfl
theorem mi_71_65 : ms_G 71 65 L S σ = ms_G 71 66 L (.int (nI 0) :: S) σ := (ms_G_at rfl _ _ _).trans rfl
theorem mi_71_66 : ms_G 71 66 [l0, l1, l2, l3, l4, .ref a, l6, l7, l8] S σ = ms_G 71 68 [l0, l1, l2, l3, l4, .ref a, l6, l7, l8] (.ref a :: S) σ := (ms_G_at rfl _ _ _).trans rfl
theorem mi_71_68 : ms_G 71 68 [l0, l1, l2, l3, l4, l5, .int x, l7, l8] S σ = ms_G 71 70 [l0, l1, l2, l3, l4, l5, .int x, l7, l8] (.int x :: S) σ := (ms_G_at rfl _ _ _).trans rfl
theorem mi_71_70 : ms_G 71 70 L S σ = ms_G 71 71 L (.int (nI 4) :: S) σ := (ms_G_at rfl _ _ _).trans rfl
theorem mi_71_71 : ms_G 71 71 L (.int y :: .int x :: S) σ = ms_G 71 72 L (.int (x + y) :: S) σ := (ms_G_at rfl _ _ _).trans rfl
theorem mi_71_72 : ms_G 71 72 L S σ = ms_G 71 73 L (.int (nI 4) :: S) σ := (ms_G_at rfl _ _ _).trans rfl
theorem mi_71_73 : ms_G 71 73 L (.int (nI n) :: .int (nI dp) :: .ref (ms_ad r' u') :: .int (nI sp) :: .ref (ms_ad r u) :: []) (ms_Z q w I J) = cond (mo_c q.1 r u r' u' sp dp n) (ms_G 71 76 L [] (ms_Z q true (ms_u I r' u' (va_cpy (I r u) (I r' u') sp dp n)) J)) (ms_raw 71 73 L (.int (nI n) :: .int (nI dp) :: .ref (ms_ad r' u') :: .int (nI sp) :: .ref (ms_ad r u) :: []) (ms_Z q w I J)) := mz_acp rfl (Nat.le_of_ble_eq_true rfl)
theorem mi_71_76 : ms_G 71 76 L [] σ = some (.inl none, σ) := (ms_G_at rfl _ _ _).trans rfl
-- MaskedSum$Crypto.open(JII[II[I)Z
theorem mi_72_0 : ms_G 72 0 [.ref a, l1, l2, l3, l4, l5, l6, l7, l8, l9] S σ = ms_G 72 1 [.ref a, l1, l2, l3, l4, l5, l6, l7, l8, l9] (.ref a :: S) σ := (ms_G_at rfl _ _ _).trans rfl
theorem mi_72_1 : ms_G 72 1 [l0, .long X, l2, l3, l4, l5, l6, l7, l8, l9] S σ = ms_G 72 2 [l0, .long X, l2, l3, l4, l5, l6, l7, l8, l9] (.long X :: S) σ := (ms_G_at rfl _ _ _).trans rfl
theorem mi_72_2 : ms_G 72 2 [l0, l1, l2, .int x, l4, l5, l6, l7, l8, l9] S σ = ms_G 72 3 [l0, l1, l2, .int x, l4, l5, l6, l7, l8, l9] (.int x :: S) σ := (ms_G_at rfl _ _ _).trans rfl
theorem mi_72_3 : ms_G 72 3 [l0, l1, l2, l3, .int x, l5, l6, l7, l8, l9] S σ = ms_G 72 5 [l0, l1, l2, l3, .int x, l5, l6, l7, l8, l9] (.int x :: S) σ := (ms_G_at rfl _ _ _).trans rfl
theorem mi_72_5 : ms_G 72 5 [l0, l1, l2, l3, l4, .ref a, l6, l7, l8, l9] S σ = ms_G 72 7 [l0, l1, l2, l3, l4, .ref a, l6, l7, l8, l9] (.ref a :: S) σ := (ms_G_at rfl _ _ _).trans rfl
theorem mi_72_7 : ms_G 72 7 [l0, l1, l2, l3, l4, l5, .int x, l7, l8, l9] S σ = ms_G 72 9 [l0, l1, l2, l3, l4, l5, .int x, l7, l8, l9] (.int x :: S) σ := (ms_G_at rfl _ _ _).trans rfl
theorem mi_72_9 : ms_G 72 9 L [.int x4, .ref a3, .int x2, .int x1, .long X0, .ref (ms_ad 4 0)] (ms_Z q w I J) = mo_cl 72 9 12 (ms_G 73 0 [.ref (ms_ad 4 0), .long X0, .null, .int x1, .int x2, .ref a3, .int x4] [] (ms_Z q false I J)) w L [] := (mz_call rfl rfl (mz_can1 rfl rfl rfl rfl rfl (by decide) rfl (by decide))).trans rfl
theorem mi_72_12 : ms_G 72 12 L S σ = ms_G 72 13 L (.int (nI 0) :: S) σ := (ms_G_at rfl _ _ _).trans rfl
theorem mi_72_13 : ms_G 72 13 [l0, l1, l2, l3, l4, l5, l6, .ref b, l8, l9] (.int x :: S) σ = ms_G 72 15 [l0, l1, l2, l3, l4, l5, l6, .ref b, .int x, l9] S σ := (ms_G_at rfl _ _ _).trans rfl
theorem mi_72_15 : ms_G 72 15 [l0, l1, l2, l3, l4, l5, l6, l7, .int x, l9] S σ = ms_G 72 17 [l0, l1, l2, l3, l4, l5, l6, l7, .int x, l9] (.int x :: S) σ := (ms_G_at rfl _ _ _).trans rfl
theorem mi_72_17 : ms_G 72 17 L S σ = ms_G 72 18 L (.int (nI 4) :: S) σ := (ms_G_at rfl _ _ _).trans rfl
theorem mi_72_18 : ms_G 72 18 L (.int y :: .int x :: S) σ = if y ≤ x then ms_G 72 52 L S σ else ms_G 72 21 L S σ := mz_bra rfl rfl rfl
theorem mi_72_21 : ms_G 72 21 [.ref a, l1, l2, l3, l4, l5, l6, l7, l8, l9] S σ = ms_G 72 22 [.ref a, l1, l2, l3, l4, l5, l6, l7, l8, l9] (.ref a :: S) σ := (ms_G_at rfl _ _ _).trans rfl
theorem mi_72_22 : ms_G 72 22 L (.ref (ms_ad 4 0) :: S) (ms_Z q w I J) = ms_G 72 25 L (.ref (ms_ad 8 0) :: S) (ms_Z q w I J) := mz_getf (c := (2, 8)) rfl (by decide) rfl (by decide) rfl
theorem mi_72_25 : ms_G 72 25 L (.ref (ms_ad 8 0) :: S) (ms_Z q w I J) = ms_G 72 28 L (.ref (ms_ad 13 0) :: S) (ms_Z q w I J) := mz_getf (c := (2, 13)) rfl (by decide) rfl (by decide) rfl
theorem mi_72_28 : ms_G 72 28 [l0, l1, l2, l3, l4, l5, l6, l7, .int x, l9] S σ = ms_G 72 30 [l0, l1, l2, l3, l4, l5, l6, l7, .int x, l9] (.int x :: S) σ := (ms_G_at rfl _ _ _).trans rfl
theorem mi_72_30 : ms_G 72 30 L (.int (nI i) :: .ref (ms_ad r u) :: S) (ms_Z q w I J) = cond (mo_0 q.1 r u i) (ms_G 72 31 L (.int (I r u i) :: S) (ms_Z q w I J)) (ms_raw 72 30 L (.int (nI i) :: .ref (ms_ad r u) :: S) (ms_Z q w I J)) := mz_iald rfl
theorem mi_72_31 : ms_G 72 31 [l0, l1, l2, l3, l4, .ref a, l6, l7, l8, l9] S σ = ms_G 72 33 [l0, l1, l2, l3, l4, .ref a, l6, l7, l8, l9] (.ref a :: S) σ := (ms_G_at rfl _ _ _).trans rfl
theorem mi_72_33 : ms_G 72 33 [l0, l1, l2, l3, l4, l5, .int x, l7, l8, l9] S σ = ms_G 72 35 [l0, l1, l2, l3, l4, l5, .int x, l7, l8, l9] (.int x :: S) σ := (ms_G_at rfl _ _ _).trans rfl
theorem mi_72_35 : ms_G 72 35 L S σ = ms_G 72 36 L (.int (nI 4) :: S) σ := (ms_G_at rfl _ _ _).trans rfl
theorem mi_72_36 : ms_G 72 36 L (.int y :: .int x :: S) σ = ms_G 72 37 L (.int (x + y) :: S) σ := (ms_G_at rfl _ _ _).trans rfl
theorem mi_72_37 : ms_G 72 37 [l0, l1, l2, l3, l4, l5, l6, l7, .int x, l9] S σ = ms_G 72 39 [l0, l1, l2, l3, l4, l5, l6, l7, .int x, l9] (.int x :: S) σ := (ms_G_at rfl _ _ _).trans rfl
theorem mi_72_39 : ms_G 72 39 L (.int y :: .int x :: S) σ = ms_G 72 40 L (.int (x + y) :: S) σ := (ms_G_at rfl _ _ _).trans rfl
theorem mi_72_40 : ms_G 72 40 L (.int (nI i) :: .ref (ms_ad r u) :: S) (ms_Z q w I J) = cond (mo_0 q.1 r u i) (ms_G 72 41 L (.int (I r u i) :: S) (ms_Z q w I J)) (ms_raw 72 40 L (.int (nI i) :: .ref (ms_ad r u) :: S) (ms_Z q w I J)) := mz_iald rfl
theorem mi_72_41 : ms_G 72 41 L (.int y :: .int x :: S) σ = if x = y then ms_G 72 46 L S σ else ms_G 72 44 L S σ := mz_bra rfl rfl rfl
theorem mi_72_44 : ms_G 72 44 L S σ = ms_G 72 45 L (.int (nI 0) :: S) σ := (ms_G_at rfl _ _ _).trans rfl
theorem mi_72_45 : ms_G 72 45 L [.int (nI 0)] σ = some (.inl (some (.int (nI 0))), σ) := (ms_G_at rfl _ _ _).trans rfl
theorem mi_72_45_1 : ms_G 72 45 L [.int (nI 1)] σ = some (.inl (some (.int (nI 1))), σ) := (ms_G_at rfl _ _ _).trans rfl
theorem mi_72_45_b (B : Bool) : ms_G 72 45 L [.int (ms_b B)] σ = some (.inl (some (.int (ms_b B))), σ) := by cases B <;> exact (ms_G_at rfl _ _ _).trans rfl
theorem mi_72_46 : ms_G 72 46 [l0, l1, l2, l3, l4, l5, l6, .ref b, .int x, l9] S σ = ms_G 72 49 [l0, l1, l2, l3, l4, l5, l6, .ref b, .int (x + nI 1), l9] S σ := (ms_G_at rfl _ _ _).trans rfl
theorem mi_72_49 : ms_G 72 49 L S σ = ms_G 72 15 L S σ := (ms_G_at rfl _ _ _).trans rfl
theorem mi_72_52 : ms_G 72 52 [.ref a, l1, l2, l3, l4, l5, l6, l7, l8, l9] S σ = ms_G 72 53 [.ref a, l1, l2, l3, l4, l5, l6, l7, l8, l9] (.ref a :: S) σ := (ms_G_at rfl _ _ _).trans rfl
theorem mi_72_53 : ms_G 72 53 L (.ref (ms_ad 4 0) :: S) (ms_Z q w I J) = ms_G 72 56 L (.ref (ms_ad 5 0) :: S) (ms_Z q w I J) := mz_getf (c := (2, 5)) rfl (by decide) rfl (by decide) rfl
theorem mi_72_56 : ms_G 72 56 [l0, .long X, l2, l3, l4, l5, l6, l7, l8, l9] S σ = ms_G 72 57 [l0, .long X, l2, l3, l4, l5, l6, l7, l8, l9] (.long X :: S) σ := (ms_G_at rfl _ _ _).trans rfl
theorem mi_72_57 : ms_G 72 57 L S σ = ms_G 72 58 L (.int (nI 1) :: S) σ := (ms_G_at rfl _ _ _).trans rfl
theorem mi_72_58 : ms_G 72 58 [l0, l1, l2, .int x, l4, l5, l6, l7, l8, l9] S σ = ms_G 72 59 [l0, l1, l2, .int x, l4, l5, l6, l7, l8, l9] (.int x :: S) σ := (ms_G_at rfl _ _ _).trans rfl
theorem mi_72_59 : ms_G 72 59 [l0, l1, l2, l3, .int x, l5, l6, l7, l8, l9] S σ = ms_G 72 61 [l0, l1, l2, l3, .int x, l5, l6, l7, l8, l9] (.int x :: S) σ := (ms_G_at rfl _ _ _).trans rfl
theorem mi_72_61 : ms_G 72 61 L S σ = ms_G 72 62 L (.int (nI 1) :: S) σ := (ms_G_at rfl _ _ _).trans rfl
theorem mi_72_62 : ms_G 72 62 L [.int x4, .int x3, .int x2, .int x1, .long X0, .ref (ms_ad 5 0)] (ms_Z q w I J) = mo_cl 72 62 65 (ms_G 66 0 [.ref (ms_ad 5 0), .long X0, .null, .int x1, .int x2, .int x3, .int x4, .null, .null, .null] [] (ms_Z q false I J)) w L [] := (mz_call rfl rfl (mz_can1 rfl rfl rfl rfl rfl (by decide) rfl (by decide))).trans rfl
theorem mi_72_65 : ms_G 72 65 [l0, l1, l2, l3, l4, l5, l6, .ref b, l8, l9] (.ref a :: S) σ = ms_G 72 67 [l0, l1, l2, l3, l4, l5, l6, .ref b, .ref a, l9] S σ := (ms_G_at rfl _ _ _).trans rfl
theorem mi_72_67 : ms_G 72 67 L S σ = ms_G 72 68 L (.int (nI 0) :: S) σ := (ms_G_at rfl _ _ _).trans rfl
theorem mi_72_68 : ms_G 72 68 [l0, l1, l2, l3, l4, l5, l6, l7, .ref b, l9] (.int x :: S) σ = ms_G 72 70 [l0, l1, l2, l3, l4, l5, l6, l7, .ref b, .int x] S σ := (ms_G_at rfl _ _ _).trans rfl
theorem mi_72_70 : ms_G 72 70 [l0, l1, l2, l3, l4, l5, l6, l7, l8, .int x] S σ = ms_G 72 72 [l0, l1, l2, l3, l4, l5, l6, l7, l8, .int x] (.int x :: S) σ := (ms_G_at rfl _ _ _).trans rfl
theorem mi_72_72 : ms_G 72 72 L S σ = ms_G 72 73 L (.int (nI 4) :: S) σ := (ms_G_at rfl _ _ _).trans rfl
theorem mi_72_73 : ms_G 72 73 L (.int y :: .int x :: S) σ = if y ≤ x then ms_G 72 101 L S σ else ms_G 72 76 L S σ := mz_bra rfl rfl rfl
theorem mi_72_76 : ms_G 72 76 [l0, l1, l2, l3, l4, l5, l6, .ref a, l8, l9] S σ = ms_G 72 78 [l0, l1, l2, l3, l4, l5, l6, .ref a, l8, l9] (.ref a :: S) σ := (ms_G_at rfl _ _ _).trans rfl
theorem mi_72_78 : ms_G 72 78 [l0, l1, l2, l3, l4, l5, l6, l7, l8, .int x] S σ = ms_G 72 80 [l0, l1, l2, l3, l4, l5, l6, l7, l8, .int x] (.int x :: S) σ := (ms_G_at rfl _ _ _).trans rfl
theorem mi_72_80 : ms_G 72 80 [l0, l1, l2, l3, l4, .ref a, l6, l7, l8, l9] S σ = ms_G 72 82 [l0, l1, l2, l3, l4, .ref a, l6, l7, l8, l9] (.ref a :: S) σ := (ms_G_at rfl _ _ _).trans rfl
theorem mi_72_82 : ms_G 72 82 [l0, l1, l2, l3, l4, l5, .int x, l7, l8, l9] S σ = ms_G 72 84 [l0, l1, l2, l3, l4, l5, .int x, l7, l8, l9] (.int x :: S) σ := (ms_G_at rfl _ _ _).trans rfl
theorem mi_72_84 : ms_G 72 84 [l0, l1, l2, l3, l4, l5, l6, l7, l8, .int x] S σ = ms_G 72 86 [l0, l1, l2, l3, l4, l5, l6, l7, l8, .int x] (.int x :: S) σ := (ms_G_at rfl _ _ _).trans rfl
theorem mi_72_86 : ms_G 72 86 L (.int y :: .int x :: S) σ = ms_G 72 87 L (.int (x + y) :: S) σ := (ms_G_at rfl _ _ _).trans rfl
theorem mi_72_87 : ms_G 72 87 L (.int (nI i) :: .ref (ms_ad r u) :: S) (ms_Z q w I J) = cond (mo_0 q.1 r u i) (ms_G 72 88 L (.int (I r u i) :: S) (ms_Z q w I J)) (ms_raw 72 87 L (.int (nI i) :: .ref (ms_ad r u) :: S) (ms_Z q w I J)) := mz_iald rfl
theorem mi_72_88 : ms_G 72 88 [l0, l1, l2, l3, l4, l5, l6, l7, .ref a, l9] S σ = ms_G 72 90 [l0, l1, l2, l3, l4, l5, l6, l7, .ref a, l9] (.ref a :: S) σ := (ms_G_at rfl _ _ _).trans rfl
theorem mi_72_90 : ms_G 72 90 [l0, l1, l2, l3, l4, l5, l6, l7, l8, .int x] S σ = ms_G 72 92 [l0, l1, l2, l3, l4, l5, l6, l7, l8, .int x] (.int x :: S) σ := (ms_G_at rfl _ _ _).trans rfl
theorem mi_72_92 : ms_G 72 92 L (.int (nI i) :: .ref (ms_ad r u) :: S) (ms_Z q w I J) = cond (mo_0 q.1 r u i) (ms_G 72 93 L (.int (I r u i) :: S) (ms_Z q w I J)) (ms_raw 72 92 L (.int (nI i) :: .ref (ms_ad r u) :: S) (ms_Z q w I J)) := mz_iald rfl
theorem mi_72_93 : ms_G 72 93 L (.int y :: .int x :: S) σ = ms_G 72 94 L (.int (x ^^^ y) :: S) σ := (ms_G_at rfl _ _ _).trans rfl
theorem mi_72_94 : ms_G 72 94 L (.int x :: .int (nI i) :: .ref (ms_ad r u) :: S) (ms_Z q w I J) = cond (mo_0 q.1 r u i) (ms_G 72 95 L S (ms_Z q true (ms_u I r u (upd (I r u) i x)) J)) (ms_raw 72 94 L (.int x :: .int (nI i) :: .ref (ms_ad r u) :: S) (ms_Z q w I J)) := mz_iast rfl x
theorem mi_72_95 : ms_G 72 95 [l0, l1, l2, l3, l4, l5, l6, l7, .ref b, .int x] S σ = ms_G 72 98 [l0, l1, l2, l3, l4, l5, l6, l7, .ref b, .int (x + nI 1)] S σ := (ms_G_at rfl _ _ _).trans rfl
theorem mi_72_98 : ms_G 72 98 L S σ = ms_G 72 70 L S σ := (ms_G_at rfl _ _ _).trans rfl
theorem mi_72_101 : ms_G 72 101 L S σ = ms_G 72 102 L (.int (nI 1) :: S) σ := (ms_G_at rfl _ _ _).trans rfl
theorem mi_72_102 : ms_G 72 102 L [.int (nI 0)] σ = some (.inl (some (.int (nI 0))), σ) := (ms_G_at rfl _ _ _).trans rfl
theorem mi_72_102_1 : ms_G 72 102 L [.int (nI 1)] σ = some (.inl (some (.int (nI 1))), σ) := (ms_G_at rfl _ _ _).trans rfl
theorem mi_72_102_b (B : Bool) : ms_G 72 102 L [.int (ms_b B)] σ = some (.inl (some (.int (ms_b B))), σ) := by cases B <;> exact (ms_G_at rfl _ _ _).trans rfl
-- MaskedSum$Crypto.makeTag(JII[II)V
theorem mi_73_0 : ms_G 73 0 [.ref a, l1, l2, l3, l4, l5, l6] S σ = ms_G 73 1 [.ref a, l1, l2, l3, l4, l5, l6] (.ref a :: S) σ := (ms_G_at rfl _ _ _).trans rfl
theorem mi_73_1 : ms_G 73 1 L (.ref (ms_ad 4 0) :: S) (ms_Z q w I J) = ms_G 73 4 L (.ref (ms_ad 8 0) :: S) (ms_Z q w I J) := mz_getf (c := (2, 8)) rfl (by decide) rfl (by decide) rfl
theorem mi_73_4 : ms_G 73 4 [.ref a, l1, l2, l3, l4, l5, l6] S σ = ms_G 73 5 [.ref a, l1, l2, l3, l4, l5, l6] (.ref a :: S) σ := (ms_G_at rfl _ _ _).trans rfl
theorem mi_73_5 : ms_G 73 5 L (.ref (ms_ad 4 0) :: S) (ms_Z q w I J) = ms_G 73 8 L (.ref (ms_ad 5 0) :: S) (ms_Z q w I J) := mz_getf (c := (2, 5)) rfl (by decide) rfl (by decide) rfl
theorem mi_73_8 : ms_G 73 8 [l0, .long X, l2, l3, l4, l5, l6] S σ = ms_G 73 9 [l0, .long X, l2, l3, l4, l5, l6] (.long X :: S) σ := (ms_G_at rfl _ _ _).trans rfl
theorem mi_73_9 : ms_G 73 9 L S σ = ms_G 73 10 L (.int (nI 0) :: S) σ := (ms_G_at rfl _ _ _).trans rfl
theorem mi_73_10 : ms_G 73 10 [l0, l1, l2, .int x, l4, l5, l6] S σ = ms_G 73 11 [l0, l1, l2, .int x, l4, l5, l6] (.int x :: S) σ := (ms_G_at rfl _ _ _).trans rfl
theorem mi_73_11 : ms_G 73 11 [l0, l1, l2, l3, .int x, l5, l6] S σ = ms_G 73 13 [l0, l1, l2, l3, .int x, l5, l6] (.int x :: S) σ := (ms_G_at rfl _ _ _).trans rfl
theorem mi_73_13 : ms_G 73 13 L S σ = ms_G 73 14 L (.int (nI 1) :: S) σ := (ms_G_at rfl _ _ _).trans rfl
theorem mi_73_14 : ms_G 73 14 L (.int x4 :: .int x3 :: .int x2 :: .int x1 :: .long X0 :: .ref (ms_ad 5 0) :: [.ref g0]) (ms_Z q w I J) = mo_cl 73 14 17 (ms_G 66 0 [.ref (ms_ad 5 0), .long X0, .null, .int x1, .int x2, .int x3, .int x4, .null, .null, .null] [] (ms_Z q false I J)) w L [.ref g0] := (mz_call rfl rfl (mz_can1 rfl rfl rfl rfl rfl (by decide) rfl (by decide))).trans rfl
theorem mi_73_17 : ms_G 73 17 L [.ref a0, .ref (ms_ad 8 0)] (ms_Z q w I J) = mo_cl 73 17 20 (ms_G 106 0 [.ref (ms_ad 8 0), .ref a0] [] (ms_Z q false I J)) w L [] := (mz_call rfl rfl (mz_can1 rfl rfl rfl rfl rfl (by decide) rfl (by decide))).trans rfl
theorem mi_73_20 : ms_G 73 20 [.ref a, l1, l2, l3, l4, l5, l6] S σ = ms_G 73 21 [.ref a, l1, l2, l3, l4, l5, l6] (.ref a :: S) σ := (ms_G_at rfl _ _ _).trans rfl
theorem mi_73_21 : ms_G 73 21 L (.ref (ms_ad 4 0) :: S) (ms_Z q w I J) = ms_G 73 24 L (.ref (ms_ad 8 0) :: S) (ms_Z q w I J) := mz_getf (c := (2, 8)) rfl (by decide) rfl (by decide) rfl
theorem mi_73_24 : ms_G 73 24 [l0, l1, l2, l3, l4, .ref a, l6] S σ = ms_G 73 26 [l0, l1, l2, l3, l4, .ref a, l6] (.ref a :: S) σ := (ms_G_at rfl _ _ _).trans rfl
theorem mi_73_26 : ms_G 73 26 [l0, l1, l2, l3, l4, l5, .int x] S σ = ms_G 73 28 [l0, l1, l2, l3, l4, l5, .int x] (.int x :: S) σ := (ms_G_at rfl _ _ _).trans rfl
theorem mi_73_28 : ms_G 73 28 L (.int (nI i) :: .ref (ms_ad r u) :: S) (ms_Z q w I J) = cond (mo_0 q.1 r u i) (ms_G 73 29 L (.int (I r u i) :: S) (ms_Z q w I J)) (ms_raw 73 28 L (.int (nI i) :: .ref (ms_ad r u) :: S) (ms_Z q w I J)) := mz_iald rfl
theorem mi_73_29 : ms_G 73 29 [l0, l1, l2, l3, l4, .ref a, l6] S σ = ms_G 73 31 [l0, l1, l2, l3, l4, .ref a, l6] (.ref a :: S) σ := (ms_G_at rfl _ _ _).trans rfl
theorem mi_73_31 : ms_G 73 31 [l0, l1, l2, l3, l4, l5, .int x] S σ = ms_G 73 33 [l0, l1, l2, l3, l4, l5, .int x] (.int x :: S) σ := (ms_G_at rfl _ _ _).trans rfl
theorem mi_73_33 : ms_G 73 33 L S σ = ms_G 73 34 L (.int (nI 1) :: S) σ := (ms_G_at rfl _ _ _).trans rfl
theorem mi_73_34 : ms_G 73 34 L (.int y :: .int x :: S) σ = ms_G 73 35 L (.int (x + y) :: S) σ := (ms_G_at rfl _ _ _).trans rfl
theorem mi_73_35 : ms_G 73 35 L (.int (nI i) :: .ref (ms_ad r u) :: S) (ms_Z q w I J) = cond (mo_0 q.1 r u i) (ms_G 73 36 L (.int (I r u i) :: S) (ms_Z q w I J)) (ms_raw 73 35 L (.int (nI i) :: .ref (ms_ad r u) :: S) (ms_Z q w I J)) := mz_iald rfl
theorem mi_73_36 : ms_G 73 36 [l0, l1, l2, l3, l4, .ref a, l6] S σ = ms_G 73 38 [l0, l1, l2, l3, l4, .ref a, l6] (.ref a :: S) σ := (ms_G_at rfl _ _ _).trans rfl
theorem mi_73_38 : ms_G 73 38 [l0, l1, l2, l3, l4, l5, .int x] S σ = ms_G 73 40 [l0, l1, l2, l3, l4, l5, .int x] (.int x :: S) σ := (ms_G_at rfl _ _ _).trans rfl
theorem mi_73_40 : ms_G 73 40 L S σ = ms_G 73 41 L (.int (nI 2) :: S) σ := (ms_G_at rfl _ _ _).trans rfl
theorem mi_73_41 : ms_G 73 41 L (.int y :: .int x :: S) σ = ms_G 73 42 L (.int (x + y) :: S) σ := (ms_G_at rfl _ _ _).trans rfl
theorem mi_73_42 : ms_G 73 42 L (.int (nI i) :: .ref (ms_ad r u) :: S) (ms_Z q w I J) = cond (mo_0 q.1 r u i) (ms_G 73 43 L (.int (I r u i) :: S) (ms_Z q w I J)) (ms_raw 73 42 L (.int (nI i) :: .ref (ms_ad r u) :: S) (ms_Z q w I J)) := mz_iald rfl
theorem mi_73_43 : ms_G 73 43 [l0, l1, l2, l3, l4, .ref a, l6] S σ = ms_G 73 45 [l0, l1, l2, l3, l4, .ref a, l6] (.ref a :: S) σ := (ms_G_at rfl _ _ _).trans rfl
theorem mi_73_45 : ms_G 73 45 [l0, l1, l2, l3, l4, l5, .int x] S σ = ms_G 73 47 [l0, l1, l2, l3, l4, l5, .int x] (.int x :: S) σ := (ms_G_at rfl _ _ _).trans rfl
theorem mi_73_47 : ms_G 73 47 L S σ = ms_G 73 48 L (.int (nI 3) :: S) σ := (ms_G_at rfl _ _ _).trans rfl
theorem mi_73_48 : ms_G 73 48 L (.int y :: .int x :: S) σ = ms_G 73 49 L (.int (x + y) :: S) σ := (ms_G_at rfl _ _ _).trans rfl
theorem mi_73_49 : ms_G 73 49 L (.int (nI i) :: .ref (ms_ad r u) :: S) (ms_Z q w I J) = cond (mo_0 q.1 r u i) (ms_G 73 50 L (.int (I r u i) :: S) (ms_Z q w I J)) (ms_raw 73 49 L (.int (nI i) :: .ref (ms_ad r u) :: S) (ms_Z q w I J)) := mz_iald rfl
theorem mi_73_50 : ms_G 73 50 L [.int x3, .int x2, .int x1, .int x0, .ref (ms_ad 8 0)] (ms_Z q w I J) = mo_cl 73 50 53 (ms_G 107 0 [.ref (ms_ad 8 0), .int x0, .int x1, .int x2, .int x3] [] (ms_Z q false I J)) w L [] := (mz_call rfl rfl (mz_can1 rfl rfl rfl rfl rfl (by decide) rfl (by decide))).trans rfl
theorem mi_73_53 : ms_G 73 53 [.ref a, l1, l2, l3, l4, l5, l6] S σ = ms_G 73 54 [.ref a, l1, l2, l3, l4, l5, l6] (.ref a :: S) σ := (ms_G_at rfl _ _ _).trans rfl
theorem mi_73_54 : ms_G 73 54 L (.ref (ms_ad 4 0) :: S) (ms_Z q w I J) = ms_G 73 57 L (.ref (ms_ad 8 0) :: S) (ms_Z q w I J) := mz_getf (c := (2, 8)) rfl (by decide) rfl (by decide) rfl
theorem mi_73_57 : ms_G 73 57 L S σ = ms_G 73 58 L (.int (nI 0) :: S) σ := (ms_G_at rfl _ _ _).trans rfl
theorem mi_73_58 : ms_G 73 58 L S σ = ms_G 73 59 L (.int (nI 0) :: S) σ := (ms_G_at rfl _ _ _).trans rfl
theorem mi_73_59 : ms_G 73 59 L S σ = ms_G 73 61 L (.int (nI 16) :: S) σ := (ms_G_at rfl _ _ _).trans rfl
theorem mi_73_61 : ms_G 73 61 L S σ = ms_G 73 62 L (.int (nI 0) :: S) σ := (ms_G_at rfl _ _ _).trans rfl
theorem mi_73_62 : ms_G 73 62 L [.int x3, .int x2, .int x1, .int x0, .ref (ms_ad 8 0)] (ms_Z q w I J) = mo_cl 73 62 65 (ms_G 107 0 [.ref (ms_ad 8 0), .int x0, .int x1, .int x2, .int x3] [] (ms_Z q false I J)) w L [] := (mz_call rfl rfl (mz_can1 rfl rfl rfl rfl rfl (by decide) rfl (by decide))).trans rfl
theorem mi_73_65 : ms_G 73 65 [.ref a, l1, l2, l3, l4, l5, l6] S σ = ms_G 73 66 [.ref a, l1, l2, l3, l4, l5, l6] (.ref a :: S) σ := (ms_G_at rfl _ _ _).trans rfl
theorem mi_73_66 : ms_G 73 66 L (.ref (ms_ad 4 0) :: S) (ms_Z q w I J) = ms_G 73 69 L (.ref (ms_ad 8 0) :: S) (ms_Z q w I J) := mz_getf (c := (2, 8)) rfl (by decide) rfl (by decide) rfl
theorem mi_73_69 : ms_G 73 69 L [.ref (ms_ad 8 0)] (ms_Z q w I J) = mo_cl 73 69 72 (ms_G 112 0 [.ref (ms_ad 8 0), .null, .null, .null] [] (ms_Z q false I J)) w L [] := (mz_call rfl rfl (mz_can1 rfl rfl rfl rfl rfl (by decide) rfl (by decide))).trans rfl
theorem mi_73_72 : ms_G 73 72 L [] σ = some (.inl none, σ) := (ms_G_at rfl _ _ _).trans rfl
-- MaskedSum$Mail.clear()V
theorem mi_75_0 : ms_G 75 0 [.ref a] S σ = ms_G 75 1 [.ref a] (.ref a :: S) σ := (ms_G_at rfl _ _ _).trans rfl
theorem mi_75_1 : ms_G 75 1 L S σ = ms_G 75 2 L (.int (nI 0) :: S) σ := (ms_G_at rfl _ _ _).trans rfl
theorem mi_75_2 : ms_G 75 2 L (.int x :: .ref (ms_ad 14 0) :: S) (ms_Z q w I J) = ms_G 75 5 L S (ms_Z q true (ms_u I 14 0 (upd (I 14 0) 2 x)) J) := mz_putf rfl (by decide) rfl (by decide) rfl rfl
theorem mi_75_5 : ms_G 75 5 L [] σ = some (.inl none, σ) := (ms_G_at rfl _ _ _).trans rfl
-- MaskedSum$Mail.has(I)Z
theorem mi_76_0 : ms_G 76 0 [l0, .int x] S σ = ms_G 76 1 [l0, .int x] (.int x :: S) σ := (ms_G_at rfl _ _ _).trans rfl
theorem mi_76_1 : ms_G 76 1 L (.int x :: S) σ = if x < nI 0 then ms_G 76 16 L S σ else ms_G 76 4 L S σ := mz_bra rfl rfl rfl
theorem mi_76_4 : ms_G 76 4 [l0, .int x] S σ = ms_G 76 5 [l0, .int x] (.int x :: S) σ := (ms_G_at rfl _ _ _).trans rfl
theorem mi_76_5 : ms_G 76 5 [.ref a, l1] S σ = ms_G 76 6 [.ref a, l1] (.ref a :: S) σ := (ms_G_at rfl _ _ _).trans rfl
theorem mi_76_6 : ms_G 76 6 L (.ref (ms_ad 14 0) :: S) (ms_Z q w I J) = ms_G 76 9 L (.int (I 14 0 2) :: S) (ms_Z q w I J) := mz_getf (c := (0, 2)) rfl (by decide) rfl (by decide) rfl
theorem mi_76_9 : ms_G 76 9 L (.int y :: .int x :: S) σ = if y ≤ x then ms_G 76 16 L S σ else ms_G 76 12 L S σ := mz_bra rfl rfl rfl
theorem mi_76_12 : ms_G 76 12 L S σ = ms_G 76 13 L (.int (nI 1) :: S) σ := (ms_G_at rfl _ _ _).trans rfl
theorem mi_76_13 : ms_G 76 13 L S σ = ms_G 76 17 L S σ := (ms_G_at rfl _ _ _).trans rfl
theorem mi_76_16 : ms_G 76 16 L S σ = ms_G 76 17 L (.int (nI 0) :: S) σ := (ms_G_at rfl _ _ _).trans rfl
theorem mi_76_17 : ms_G 76 17 L [.int (nI 0)] σ = some (.inl (some (.int (nI 0))), σ) := (ms_G_at rfl _ _ _).trans rfl
theorem mi_76_17_1 : ms_G 76 17 L [.int (nI 1)] σ = some (.inl (some (.int (nI 1))), σ) := (ms_G_at rfl _ _ _).trans rfl
theorem mi_76_17_b (B : Bool) : ms_G 76 17 L [.int (ms_b B)] σ = some (.inl (some (.int (ms_b B))), σ) := by cases B <;> exact (ms_G_at rfl _ _ _).trans rfl
-- MaskedSum$Mail.get(I)LMaskedSum$Message;
theorem mi_77_0 : ms_G 77 0 [.ref a, l1] S σ = ms_G 77 1 [.ref a, l1] (.ref a :: S) σ := (ms_G_at rfl _ _ _).trans rfl
theorem mi_77_1 : ms_G 77 1 L (.ref (ms_ad 14 0) :: S) (ms_Z q w I J) = ms_G 77 4 L (.ref (ms_ad 15 0) :: S) (ms_Z q w I J) := mz_getf (c := (2, 15)) rfl (by decide) rfl (by decide) rfl
theorem mi_77_4 : ms_G 77 4 [.ref a, l1] S σ = ms_G 77 5 [.ref a, l1] (.ref a :: S) σ := (ms_G_at rfl _ _ _).trans rfl
theorem mi_77_5 : ms_G 77 5 L (.ref (ms_ad 14 0) :: S) (ms_Z q w I J) = ms_G 77 8 L (.ref (ms_ad 16 0) :: S) (ms_Z q w I J) := mz_getf (c := (2, 16)) rfl (by decide) rfl (by decide) rfl
theorem mi_77_8 : ms_G 77 8 [l0, .int x] S σ = ms_G 77 9 [l0, .int x] (.int x :: S) σ := (ms_G_at rfl _ _ _).trans rfl
theorem mi_77_9 : ms_G 77 9 L (.int (nI i) :: .ref (ms_ad r u) :: S) (ms_Z q w I J) = cond (mo_0 q.1 r u i) (ms_G 77 10 L (.int (I r u i) :: S) (ms_Z q w I J)) (ms_raw 77 9 L (.int (nI i) :: .ref (ms_ad r u) :: S) (ms_Z q w I J)) := mz_iald rfl
theorem mi_77_10 : ms_G 77 10 L (.int (nI i) :: .ref (ms_ad r u) :: S) (ms_Z q w I J) = cond (mo_2 q.1 r u i) (ms_G 77 11 L (.ref (ms_ad (ms_er r) i) :: S) (ms_Z q w I J)) (ms_raw 77 10 L (.int (nI i) :: .ref (ms_ad r u) :: S) (ms_Z q w I J)) := mz_aald rfl
theorem mi_77_11 : ms_G 77 11 L [.ref a] σ = some (.inl (some (.ref a)), σ) := (ms_G_at rfl _ _ _).trans rfl
-- MaskedSum$Mail.remove(I)LMaskedSum$Message;
theorem mi_78_0 : ms_G 78 0 [.ref a, l1, l2] S σ = ms_G 78 1 [.ref a, l1, l2] (.ref a :: S) σ := (ms_G_at rfl _ _ _).trans rfl
theorem mi_78_1 : ms_G 78 1 [l0, .int x, l2] S σ = ms_G 78 2 [l0, .int x, l2] (.int x :: S) σ := (ms_G_at rfl _ _ _).trans rfl
theorem mi_78_2 : ms_G 78 2 L [.int x0, .ref (ms_ad 14 0)] (ms_Z q w I J) = mo_cl 78 2 5 (ms_G 77 0 [.ref (ms_ad 14 0), .int x0] [] (ms_Z q false I J)) w L [] := (mz_call rfl rfl (mz_can1 rfl rfl rfl rfl rfl (by decide) rfl (by decide))).trans rfl
theorem mi_78_5 : ms_G 78 5 [l0, .int y, l2] (.ref a :: S) σ = ms_G 78 6 [l0, .int y, .ref a] S σ := (ms_G_at rfl _ _ _).trans rfl
theorem mi_78_6 : ms_G 78 6 [.ref a, l1, l2] S σ = ms_G 78 7 [.ref a, l1, l2] (.ref a :: S) σ := (ms_G_at rfl _ _ _).trans rfl
theorem mi_78_7 : ms_G 78 7 L (.ref a :: S) σ = ms_G 78 8 L (.ref a :: .ref a :: S) σ := (ms_G_at rfl _ _ _).trans rfl
theorem mi_78_8 : ms_G 78 8 L (.ref (ms_ad 14 0) :: S) (ms_Z q w I J) = ms_G 78 11 L (.int (I 14 0 2) :: S) (ms_Z q w I J) := mz_getf (c := (0, 2)) rfl (by decide) rfl (by decide) rfl
theorem mi_78_11 : ms_G 78 11 L S σ = ms_G 78 12 L (.int (nI 1) :: S) σ := (ms_G_at rfl _ _ _).trans rfl
theorem mi_78_12 : ms_G 78 12 L (.int y :: .int x :: S) σ = ms_G 78 13 L (.int (x - y) :: S) σ := (ms_G_at rfl _ _ _).trans rfl
theorem mi_78_13 : ms_G 78 13 L (.int x :: .ref (ms_ad 14 0) :: S) (ms_Z q w I J) = ms_G 78 16 L S (ms_Z q true (ms_u I 14 0 (upd (I 14 0) 2 x)) J) := mz_putf rfl (by decide) rfl (by decide) rfl rfl
theorem mi_78_16 : ms_G 78 16 [.ref a, l1, l2] S σ = ms_G 78 17 [.ref a, l1, l2] (.ref a :: S) σ := (ms_G_at rfl _ _ _).trans rfl
theorem mi_78_17 : ms_G 78 17 L (.ref (ms_ad 14 0) :: S) (ms_Z q w I J) = ms_G 78 20 L (.ref (ms_ad 16 0) :: S) (ms_Z q w I J) := mz_getf (c := (2, 16)) rfl (by decide) rfl (by decide) rfl
theorem mi_78_20 : ms_G 78 20 [l0, .int x, l2] S σ = ms_G 78 21 [l0, .int x, l2] (.int x :: S) σ := (ms_G_at rfl _ _ _).trans rfl
theorem mi_78_21 : ms_G 78 21 L S σ = ms_G 78 22 L (.int (nI 1) :: S) σ := (ms_G_at rfl _ _ _).trans rfl
theorem mi_78_22 : ms_G 78 22 L (.int y :: .int x :: S) σ = ms_G 78 23 L (.int (x + y) :: S) σ := (ms_G_at rfl _ _ _).trans rfl
theorem mi_78_23 : ms_G 78 23 [.ref a, l1, l2] S σ = ms_G 78 24 [.ref a, l1, l2] (.ref a :: S) σ := (ms_G_at rfl _ _ _).trans rfl
theorem mi_78_24 : ms_G 78 24 L (.ref (ms_ad 14 0) :: S) (ms_Z q w I J) = ms_G 78 27 L (.ref (ms_ad 16 0) :: S) (ms_Z q w I J) := mz_getf (c := (2, 16)) rfl (by decide) rfl (by decide) rfl
theorem mi_78_27 : ms_G 78 27 [l0, .int x, l2] S σ = ms_G 78 28 [l0, .int x, l2] (.int x :: S) σ := (ms_G_at rfl _ _ _).trans rfl
theorem mi_78_28 : ms_G 78 28 [.ref a, l1, l2] S σ = ms_G 78 29 [.ref a, l1, l2] (.ref a :: S) σ := (ms_G_at rfl _ _ _).trans rfl
theorem mi_78_29 : ms_G 78 29 L (.ref (ms_ad 14 0) :: S) (ms_Z q w I J) = ms_G 78 32 L (.int (I 14 0 2) :: S) (ms_Z q w I J) := mz_getf (c := (0, 2)) rfl (by decide) rfl (by decide) rfl
theorem mi_78_32 : ms_G 78 32 [l0, .int x, l2] S σ = ms_G 78 33 [l0, .int x, l2] (.int x :: S) σ := (ms_G_at rfl _ _ _).trans rfl
theorem mi_78_33 : ms_G 78 33 L (.int y :: .int x :: S) σ = ms_G 78 34 L (.int (x - y) :: S) σ := (ms_G_at rfl _ _ _).trans rfl
theorem mi_78_34 : ms_G 78 34 L (.int (nI n) :: .int (nI dp) :: .ref (ms_ad r' u') :: .int (nI sp) :: .ref (ms_ad r u) :: []) (ms_Z q w I J) = cond (mo_c q.1 r u r' u' sp dp n) (ms_G 78 37 L [] (ms_Z q true (ms_u I r' u' (va_cpy (I r u) (I r' u') sp dp n)) J)) (ms_raw 78 34 L (.int (nI n) :: .int (nI dp) :: .ref (ms_ad r' u') :: .int (nI sp) :: .ref (ms_ad r u) :: []) (ms_Z q w I J)) := mz_acp rfl (Nat.le_of_ble_eq_true rfl)
theorem mi_78_37 : ms_G 78 37 [l0, l1, .ref a] S σ = ms_G 78 38 [l0, l1, .ref a] (.ref a :: S) σ := (ms_G_at rfl _ _ _).trans rfl
theorem mi_78_38 : ms_G 78 38 L [.ref a] σ = some (.inl (some (.ref a)), σ) := (ms_G_at rfl _ _ _).trans rfl
-- MaskedSum$Mail.post(II)[I
theorem mi_79_0 : ms_G 79 0 [.ref a, l1, l2] S σ = ms_G 79 1 [.ref a, l1, l2] (.ref a :: S) σ := (ms_G_at rfl _ _ _).trans rfl
theorem mi_79_1 : ms_G 79 1 [l0, .int x, l2] S σ = ms_G 79 2 [l0, .int x, l2] (.int x :: S) σ := (ms_G_at rfl _ _ _).trans rfl
theorem mi_79_2 : ms_G 79 2 L S σ = ms_G 79 4 L (.int (nI 7) :: S) σ := (ms_G_at rfl _ _ _).trans rfl
theorem mi_79_4 : ms_G 79 4 L (.int y :: .int x :: S) σ = ms_G 79 5 L (.int (x * y) :: S) σ := (ms_G_at rfl _ _ _).trans rfl
theorem mi_79_5 : ms_G 79 5 [l0, l1, .int x] S σ = ms_G 79 6 [l0, l1, .int x] (.int x :: S) σ := (ms_G_at rfl _ _ _).trans rfl
theorem mi_79_6 : ms_G 79 6 L (.int y :: .int x :: S) σ = ms_G 79 7 L (.int (x + y) :: S) σ := (ms_G_at rfl _ _ _).trans rfl
theorem mi_79_7 : ms_G 79 7 L [.int x0, .ref (ms_ad 14 0)] (ms_Z q w I J) = mo_cl 79 7 10 (ms_G 81 0 [.ref (ms_ad 14 0), .int x0] [] (ms_Z q false I J)) w L [] := (mz_call rfl rfl (mz_can1 rfl rfl rfl rfl rfl (by decide) rfl (by decide))).trans rfl
theorem mi_79_10 : ms_G 79 10 L [.ref a] σ = some (.inl (some (.ref a)), σ) := (ms_G_at rfl _ _ _).trans rfl
-- MaskedSum$Mail.postAnswer(II)[I
theorem mi_80_0 : ms_G 80 0 [.ref a, l1, l2] S σ = ms_G 80 1 [.ref a, l1, l2] (.ref a :: S) σ := (ms_G_at rfl _ _ _).trans rfl
theorem mi_80_1 : ms_G 80 1 [l0, .int x, l2] S σ = ms_G 80 2 [l0, .int x, l2] (.int x :: S) σ := (ms_G_at rfl _ _ _).trans rfl
theorem mi_80_2 : ms_G 80 2 L S σ = ms_G 80 4 L (.int (nI 7) :: S) σ := (ms_G_at rfl _ _ _).trans rfl
theorem mi_80_4 : ms_G 80 4 L (.int y :: .int x :: S) σ = ms_G 80 5 L (.int (x * y) :: S) σ := (ms_G_at rfl _ _ _).trans rfl
theorem mi_80_5 : ms_G 80 5 L S σ = ms_G 80 6 L (.int (nI 4) :: S) σ := (ms_G_at rfl _ _ _).trans rfl
theorem mi_80_6 : ms_G 80 6 L (.int y :: .int x :: S) σ = ms_G 80 7 L (.int (x + y) :: S) σ := (ms_G_at rfl _ _ _).trans rfl
theorem mi_80_7 : ms_G 80 7 [l0, l1, .int x] S σ = ms_G 80 8 [l0, l1, .int x] (.int x :: S) σ := (ms_G_at rfl _ _ _).trans rfl
theorem mi_80_8 : ms_G 80 8 L (.int y :: .int x :: S) σ = ms_G 80 9 L (.int (x + y) :: S) σ := (ms_G_at rfl _ _ _).trans rfl
theorem mi_80_9 : ms_G 80 9 L [.int x0, .ref (ms_ad 14 0)] (ms_Z q w I J) = mo_cl 80 9 12 (ms_G 81 0 [.ref (ms_ad 14 0), .int x0] [] (ms_Z q false I J)) w L [] := (mz_call rfl rfl (mz_can1 rfl rfl rfl rfl rfl (by decide) rfl (by decide))).trans rfl
theorem mi_80_12 : ms_G 80 12 L [.ref a] σ = some (.inl (some (.ref a)), σ) := (ms_G_at rfl _ _ _).trans rfl
-- MaskedSum$Mail.append(I)[I
theorem mi_81_0 : ms_G 81 0 [.ref a, l1] S σ = ms_G 81 1 [.ref a, l1] (.ref a :: S) σ := (ms_G_at rfl _ _ _).trans rfl
theorem mi_81_1 : ms_G 81 1 L (.ref (ms_ad 14 0) :: S) (ms_Z q w I J) = ms_G 81 4 L (.int (I 14 0 2) :: S) (ms_Z q w I J) := mz_getf (c := (0, 2)) rfl (by decide) rfl (by decide) rfl
theorem mi_81_4 : ms_G 81 4 [.ref a, l1] S σ = ms_G 81 5 [.ref a, l1] (.ref a :: S) σ := (ms_G_at rfl _ _ _).trans rfl
theorem mi_81_5 : ms_G 81 5 L (.ref (ms_ad 14 0) :: S) (ms_Z q w I J) = ms_G 81 8 L (.ref (ms_ad 16 0) :: S) (ms_Z q w I J) := mz_getf (c := (2, 16)) rfl (by decide) rfl (by decide) rfl
theorem mi_81_8 : ms_G 81 8 L (.ref (ms_ad r u) :: S) (ms_Z q w I J) = cond (mo_3 r u) (ms_G 81 9 L (.int (nI (ms_nr q.1 r u)) :: S) (ms_Z q w I J)) (ms_raw 81 8 L (.ref (ms_ad r u) :: S) (ms_Z q w I J)) := mz_alen rfl
theorem mi_81_9 : ms_G 81 9 L (.int y :: .int x :: S) σ = if y ≤ x then ms_G 81 32 L S σ else ms_G 81 12 L S σ := mz_bra rfl rfl rfl
theorem mi_81_12 : ms_G 81 12 [.ref a, l1] S σ = ms_G 81 13 [.ref a, l1] (.ref a :: S) σ := (ms_G_at rfl _ _ _).trans rfl
theorem mi_81_13 : ms_G 81 13 L (.ref (ms_ad 14 0) :: S) (ms_Z q w I J) = ms_G 81 16 L (.ref (ms_ad 16 0) :: S) (ms_Z q w I J) := mz_getf (c := (2, 16)) rfl (by decide) rfl (by decide) rfl
theorem mi_81_16 : ms_G 81 16 [.ref a, l1] S σ = ms_G 81 17 [.ref a, l1] (.ref a :: S) σ := (ms_G_at rfl _ _ _).trans rfl
theorem mi_81_17 : ms_G 81 17 L (.ref (ms_ad 14 0) :: S) (ms_Z q w I J) = ms_G 81 20 L (.int (I 14 0 2) :: S) (ms_Z q w I J) := mz_getf (c := (0, 2)) rfl (by decide) rfl (by decide) rfl
theorem mi_81_20 : ms_G 81 20 [l0, .int x] S σ = ms_G 81 21 [l0, .int x] (.int x :: S) σ := (ms_G_at rfl _ _ _).trans rfl
theorem mi_81_21 : ms_G 81 21 L (.int x :: .int (nI i) :: .ref (ms_ad r u) :: S) (ms_Z q w I J) = cond (mo_0 q.1 r u i) (ms_G 81 22 L S (ms_Z q true (ms_u I r u (upd (I r u) i x)) J)) (ms_raw 81 21 L (.int x :: .int (nI i) :: .ref (ms_ad r u) :: S) (ms_Z q w I J)) := mz_iast rfl x
theorem mi_81_22 : ms_G 81 22 [.ref a, l1] S σ = ms_G 81 23 [.ref a, l1] (.ref a :: S) σ := (ms_G_at rfl _ _ _).trans rfl
theorem mi_81_23 : ms_G 81 23 L (.ref a :: S) σ = ms_G 81 24 L (.ref a :: .ref a :: S) σ := (ms_G_at rfl _ _ _).trans rfl
theorem mi_81_24 : ms_G 81 24 L (.ref (ms_ad 14 0) :: S) (ms_Z q w I J) = ms_G 81 27 L (.int (I 14 0 2) :: S) (ms_Z q w I J) := mz_getf (c := (0, 2)) rfl (by decide) rfl (by decide) rfl
theorem mi_81_27 : ms_G 81 27 L S σ = ms_G 81 28 L (.int (nI 1) :: S) σ := (ms_G_at rfl _ _ _).trans rfl
theorem mi_81_28 : ms_G 81 28 L (.int y :: .int x :: S) σ = ms_G 81 29 L (.int (x + y) :: S) σ := (ms_G_at rfl _ _ _).trans rfl
theorem mi_81_29 : ms_G 81 29 L (.int x :: .ref (ms_ad 14 0) :: S) (ms_Z q w I J) = ms_G 81 32 L S (ms_Z q true (ms_u I 14 0 (upd (I 14 0) 2 x)) J) := mz_putf rfl (by decide) rfl (by decide) rfl rfl
theorem mi_81_32 : ms_G 81 32 [.ref a, l1] S σ = ms_G 81 33 [.ref a, l1] (.ref a :: S) σ := (ms_G_at rfl _ _ _).trans rfl
theorem mi_81_33 : ms_G 81 33 L (.ref (ms_ad 14 0) :: S) (ms_Z q w I J) = ms_G 81 36 L (.ref (ms_ad 15 0) :: S) (ms_Z q w I J) := mz_getf (c := (2, 15)) rfl (by decide) rfl (by decide) rfl
theorem mi_81_36 : ms_G 81 36 [l0, .int x] S σ = ms_G 81 37 [l0, .int x] (.int x :: S) σ := (ms_G_at rfl _ _ _).trans rfl
theorem mi_81_37 : ms_G 81 37 L (.int (nI i) :: .ref (ms_ad r u) :: S) (ms_Z q w I J) = cond (mo_2 q.1 r u i) (ms_G 81 38 L (.ref (ms_ad (ms_er r) i) :: S) (ms_Z q w I J)) (ms_raw 81 37 L (.int (nI i) :: .ref (ms_ad r u) :: S) (ms_Z q w I J)) := mz_aald rfl
theorem mi_81_38 (hu : u < 56) : ms_G 81 38 L (.ref (ms_ad 17 u) :: S) (ms_Z q w I J) = ms_G 81 41 L (.ref (ms_ad 18 u) :: S) (ms_Z q w I J) := mz_getf (c := (2, 18)) rfl hu rfl (by decide) rfl
theorem mi_81_41 : ms_G 81 41 L [.ref a] σ = some (.inl (some (.ref a)), σ) := (ms_G_at rfl _ _ _).trans rfl
-- MaskedSum$Message.tell(I)I
theorem mi_83_0 : ms_G 83 0 [l0, .int x] S σ = ms_G 83 1 [l0, .int x] (.int x :: S) σ := (ms_G_at rfl _ _ _).trans rfl
theorem mi_83_1_c0 : ms_G 83 1 L (.int (nI 0) :: S) σ = ms_G 83 32 L S σ := (ms_G_at rfl _ _ _).trans rfl
theorem mi_83_1_c1 : ms_G 83 1 L (.int (nI 1) :: S) σ = ms_G 83 37 L S σ := (ms_G_at rfl _ _ _).trans rfl
theorem mi_83_1_c2 : ms_G 83 1 L (.int (nI 2) :: S) σ = ms_G 83 42 L S σ := (ms_G_at rfl _ _ _).trans rfl
theorem mi_83_1_c3 : ms_G 83 1 L (.int (nI 3) :: S) σ = ms_G 83 55 L S σ := (ms_G_at rfl _ _ _).trans rfl
theorem mi_83_1_d (hx : x.toInt < 0 ∨ 3 < x.toInt) : ms_G 83 1 L (.int x :: S) σ = ms_G 83 61 L S σ := mz_sw rfl hx
theorem mi_83_32 : ms_G 83 32 [.ref a, l1] S σ = ms_G 83 33 [.ref a, l1] (.ref a :: S) σ := (ms_G_at rfl _ _ _).trans rfl
theorem mi_83_33 (hu : u < 56) : ms_G 83 33 L (.ref (ms_ad 17 u) :: S) (ms_Z q w I J) = ms_G 83 36 L (.int (nI (ms_sv 0 u)) :: S) (ms_Z q w I J) := mz_getf (c := (3, 0)) rfl hu rfl (by decide) rfl
theorem mi_83_36 : ms_G 83 36 L [.int x] σ = some (.inl (some (.int x)), σ) := (ms_G_at rfl _ _ _).trans rfl
theorem mi_83_37 : ms_G 83 37 [.ref a, l1] S σ = ms_G 83 38 [.ref a, l1] (.ref a :: S) σ := (ms_G_at rfl _ _ _).trans rfl
theorem mi_83_38 (hu : u < 56) : ms_G 83 38 L (.ref (ms_ad 17 u) :: S) (ms_Z q w I J) = ms_G 83 41 L (.int (nI (ms_sv 1 u)) :: S) (ms_Z q w I J) := mz_getf (c := (3, 1)) rfl hu rfl (by decide) rfl
theorem mi_83_41 : ms_G 83 41 L [.int x] σ = some (.inl (some (.int x)), σ) := (ms_G_at rfl _ _ _).trans rfl
theorem mi_83_42 : ms_G 83 42 [.ref a, l1] S σ = ms_G 83 43 [.ref a, l1] (.ref a :: S) σ := (ms_G_at rfl _ _ _).trans rfl
theorem mi_83_43 (hu : u < 56) : ms_G 83 43 L (.ref (ms_ad 17 u) :: S) (ms_Z q w I J) = ms_G 83 46 L (.int (nI (ms_sv 2 u)) :: S) (ms_Z q w I J) := mz_getf (c := (3, 2)) rfl hu rfl (by decide) rfl
theorem mi_83_46 : ms_G 83 46 L (.int x :: S) σ = if x = nI 0 then ms_G 83 53 L S σ else ms_G 83 49 L S σ := mz_bra rfl rfl rfl
theorem mi_83_49 : ms_G 83 49 L S σ = ms_G 83 50 L (.int (nI 1) :: S) σ := (ms_G_at rfl _ _ _).trans rfl
theorem mi_83_50 : ms_G 83 50 L S σ = ms_G 83 54 L S σ := (ms_G_at rfl _ _ _).trans rfl
theorem mi_83_53 : ms_G 83 53 L S σ = ms_G 83 54 L (.int (nI 0) :: S) σ := (ms_G_at rfl _ _ _).trans rfl
theorem mi_83_54 : ms_G 83 54 L [.int x] σ = some (.inl (some (.int x)), σ) := (ms_G_at rfl _ _ _).trans rfl
theorem mi_83_55 : ms_G 83 55 [.ref a, l1] S σ = ms_G 83 56 [.ref a, l1] (.ref a :: S) σ := (ms_G_at rfl _ _ _).trans rfl
theorem mi_83_56 (hu : u < 56) : ms_G 83 56 L (.ref (ms_ad 17 u) :: S) (ms_Z q w I J) = ms_G 83 59 L (.ref (ms_ad 18 u) :: S) (ms_Z q w I J) := mz_getf (c := (2, 18)) rfl hu rfl (by decide) rfl
theorem mi_83_59 : ms_G 83 59 L (.ref (ms_ad r u) :: S) (ms_Z q w I J) = cond (mo_3 r u) (ms_G 83 60 L (.int (nI (ms_nr q.1 r u)) :: S) (ms_Z q w I J)) (ms_raw 83 59 L (.ref (ms_ad r u) :: S) (ms_Z q w I J)) := mz_alen rfl
theorem mi_83_60 : ms_G 83 60 L [.int x] σ = some (.inl (some (.int x)), σ) := (ms_G_at rfl _ _ _).trans rfl
theorem mi_83_61 : ms_G 83 61 [.ref a, l1] S σ = ms_G 83 62 [.ref a, l1] (.ref a :: S) σ := (ms_G_at rfl _ _ _).trans rfl
theorem mi_83_62 (hu : u < 56) : ms_G 83 62 L (.ref (ms_ad 17 u) :: S) (ms_Z q w I J) = ms_G 83 65 L (.ref (ms_ad 18 u) :: S) (ms_Z q w I J) := mz_getf (c := (2, 18)) rfl hu rfl (by decide) rfl
theorem mi_83_65 : ms_G 83 65 [l0, .int x] S σ = ms_G 83 66 [l0, .int x] (.int x :: S) σ := (ms_G_at rfl _ _ _).trans rfl
theorem mi_83_66 : ms_G 83 66 L S σ = ms_G 83 67 L (.int (nI 4) :: S) σ := (ms_G_at rfl _ _ _).trans rfl
theorem mi_83_67 : ms_G 83 67 L (.int y :: .int x :: S) σ = ms_G 83 68 L (.int (x - y) :: S) σ := (ms_G_at rfl _ _ _).trans rfl
theorem mi_83_68 : ms_G 83 68 L (.int (nI i) :: .ref (ms_ad r u) :: S) (ms_Z q w I J) = cond (mo_0 q.1 r u i) (ms_G 83 69 L (.int (I r u i) :: S) (ms_Z q w I J)) (ms_raw 83 68 L (.int (nI i) :: .ref (ms_ad r u) :: S) (ms_Z q w I J)) := mz_iald rfl
theorem mi_83_69 : ms_G 83 69 L [.int x] σ = some (.inl (some (.int x)), σ) := (ms_G_at rfl _ _ _).trans rfl
-- MaskedSum$Numbers.ofWords(II)J
theorem mi_84_0 : ms_G 84 0 [l0, .int x, l2, l3] S σ = ms_G 84 1 [l0, .int x, l2, l3] (.int x :: S) σ := (ms_G_at rfl _ _ _).trans rfl
theorem mi_84_1 : ms_G 84 1 L (.int x :: S) σ = ms_G 84 2 L (.long x.toInt64 :: S) σ := (ms_G_at rfl _ _ _).trans rfl
theorem mi_84_2 : ms_G 84 2 L S σ = ms_G 84 4 L (.int (nI 32) :: S) σ := (ms_G_at rfl _ _ _).trans rfl
theorem mi_84_4 : ms_G 84 4 L (.int y :: .long X :: S) σ = ms_G 84 5 L (.long (X <<< (y.toInt64 &&& 63)) :: S) σ := (ms_G_at rfl _ _ _).trans rfl
theorem mi_84_5 : ms_G 84 5 [.int x, l1, l2, l3] S σ = ms_G 84 6 [.int x, l1, l2, l3] (.int x :: S) σ := (ms_G_at rfl _ _ _).trans rfl
theorem mi_84_6 : ms_G 84 6 L (.int x :: S) σ = ms_G 84 7 L (.long x.toInt64 :: S) σ := (ms_G_at rfl _ _ _).trans rfl
theorem mi_84_7 : ms_G 84 7 L S σ = ms_G 84 10 L (.long (lN 4294967295) :: S) σ := (ms_G_at rfl _ _ _).trans rfl
theorem mi_84_10 : ms_G 84 10 L (.long Y :: .long X :: S) σ = ms_G 84 11 L (.long (X &&& Y) :: S) σ := (ms_G_at rfl _ _ _).trans rfl
theorem mi_84_11 : ms_G 84 11 L (.long Y :: .long X :: S) σ = ms_G 84 12 L (.long (X ||| Y) :: S) σ := (ms_G_at rfl _ _ _).trans rfl
theorem mi_84_12 : ms_G 84 12 [l0, .int y, l2, l3] (.long X :: S) σ = ms_G 84 13 [l0, .int y, .long X, .null] S σ := (ms_G_at rfl _ _ _).trans rfl
theorem mi_84_13 : ms_G 84 13 [l0, l1, .long X, l3] S σ = ms_G 84 14 [l0, l1, .long X, l3] (.long X :: S) σ := (ms_G_at rfl _ _ _).trans rfl
theorem mi_84_14 : ms_G 84 14 L S σ = ms_G 84 17 L (.long (lN 2305843009213693951) :: S) σ := (ms_G_at rfl _ _ _).trans rfl
theorem mi_84_17 : ms_G 84 17 L (.long Y :: .long X :: S) σ = ms_G 84 18 L (.long (X &&& Y) :: S) σ := (ms_G_at rfl _ _ _).trans rfl
theorem mi_84_18 : ms_G 84 18 L [.long X0] (ms_Z q w I J) = mo_cl 84 18 21 (ms_G 87 0 [.long X0, .null, .null, .null] [] (ms_Z q false I J)) w L [] := (mz_call rfl rfl (mz_can0 rfl rfl rfl rfl rfl)).trans rfl
theorem mi_84_21 : ms_G 84 21 L [.long X] σ = some (.inl (some (.long X)), σ) := (ms_G_at rfl _ _ _).trans rfl
-- MaskedSum$Numbers.read([II)J
theorem mi_85_0 : ms_G 85 0 [.ref a, l1] S σ = ms_G 85 1 [.ref a, l1] (.ref a :: S) σ := (ms_G_at rfl _ _ _).trans rfl
theorem mi_85_1 : ms_G 85 1 [l0, .int x] S σ = ms_G 85 2 [l0, .int x] (.int x :: S) σ := (ms_G_at rfl _ _ _).trans rfl
theorem mi_85_2 : ms_G 85 2 L (.int (nI i) :: .ref (ms_ad r u) :: S) (ms_Z q w I J) = cond (mo_0 q.1 r u i) (ms_G 85 3 L (.int (I r u i) :: S) (ms_Z q w I J)) (ms_raw 85 2 L (.int (nI i) :: .ref (ms_ad r u) :: S) (ms_Z q w I J)) := mz_iald rfl
theorem mi_85_3 : ms_G 85 3 [.ref a, l1] S σ = ms_G 85 4 [.ref a, l1] (.ref a :: S) σ := (ms_G_at rfl _ _ _).trans rfl
theorem mi_85_4 : ms_G 85 4 [l0, .int x] S σ = ms_G 85 5 [l0, .int x] (.int x :: S) σ := (ms_G_at rfl _ _ _).trans rfl
theorem mi_85_5 : ms_G 85 5 L S σ = ms_G 85 6 L (.int (nI 1) :: S) σ := (ms_G_at rfl _ _ _).trans rfl
theorem mi_85_6 : ms_G 85 6 L (.int y :: .int x :: S) σ = ms_G 85 7 L (.int (x + y) :: S) σ := (ms_G_at rfl _ _ _).trans rfl
theorem mi_85_7 : ms_G 85 7 L (.int (nI i) :: .ref (ms_ad r u) :: S) (ms_Z q w I J) = cond (mo_0 q.1 r u i) (ms_G 85 8 L (.int (I r u i) :: S) (ms_Z q w I J)) (ms_raw 85 7 L (.int (nI i) :: .ref (ms_ad r u) :: S) (ms_Z q w I J)) := mz_iald rfl
theorem mi_85_8 : ms_G 85 8 L [.int x1, .int x0] (ms_Z q w I J) = mo_cl 85 8 11 (ms_G 84 0 [.int x0, .int x1, .null, .null] [] (ms_Z q false I J)) w L [] := (mz_call rfl rfl (mz_can0 rfl rfl rfl rfl rfl)).trans rfl
theorem mi_85_11 : ms_G 85 11 L [.long X] σ = some (.inl (some (.long X)), σ) := (ms_G_at rfl _ _ _).trans rfl
-- MaskedSum$Numbers.write(J[II)V
theorem mi_86_0 : ms_G 86 0 [l0, l1, .ref a, l3] S σ = ms_G 86 1 [l0, l1, .ref a, l3] (.ref a :: S) σ := (ms_G_at rfl _ _ _).trans rfl
theorem mi_86_1 : ms_G 86 1 [l0, l1, l2, .int x] S σ = ms_G 86 2 [l0, l1, l2, .int x] (.int x :: S) σ := (ms_G_at rfl _ _ _).trans rfl
theorem mi_86_2 : ms_G 86 2 [.long X, l1, l2, l3] S σ = ms_G 86 3 [.long X, l1, l2, l3] (.long X :: S) σ := (ms_G_at rfl _ _ _).trans rfl
theorem mi_86_3 : ms_G 86 3 L (.long X :: S) σ = ms_G 86 4 L (.int X.toInt32 :: S) σ := (ms_G_at rfl _ _ _).trans rfl
theorem mi_86_4 : ms_G 86 4 L (.int x :: .int (nI i) :: .ref (ms_ad r u) :: S) (ms_Z q w I J) = cond (mo_0 q.1 r u i) (ms_G 86 5 L S (ms_Z q true (ms_u I r u (upd (I r u) i x)) J)) (ms_raw 86 4 L (.int x :: .int (nI i) :: .ref (ms_ad r u) :: S) (ms_Z q w I J)) := mz_iast rfl x
theorem mi_86_5 : ms_G 86 5 [l0, l1, .ref a, l3] S σ = ms_G 86 6 [l0, l1, .ref a, l3] (.ref a :: S) σ := (ms_G_at rfl _ _ _).trans rfl
theorem mi_86_6 : ms_G 86 6 [l0, l1, l2, .int x] S σ = ms_G 86 7 [l0, l1, l2, .int x] (.int x :: S) σ := (ms_G_at rfl _ _ _).trans rfl
theorem mi_86_7 : ms_G 86 7 L S σ = ms_G 86 8 L (.int (nI 1) :: S) σ := (ms_G_at rfl _ _ _).trans rfl
theorem mi_86_8 : ms_G 86 8 L (.int y :: .int x :: S) σ = ms_G 86 9 L (.int (x + y) :: S) σ := (ms_G_at rfl _ _ _).trans rfl
theorem mi_86_9 : ms_G 86 9 [.long X, l1, l2, l3] S σ = ms_G 86 10 [.long X, l1, l2, l3] (.long X :: S) σ := (ms_G_at rfl _ _ _).trans rfl
theorem mi_86_10 : ms_G 86 10 L S σ = ms_G 86 12 L (.int (nI 32) :: S) σ := (ms_G_at rfl _ _ _).trans rfl
theorem mi_86_12 : ms_G 86 12 L (.int y :: .long X :: S) σ = ms_G 86 13 L (.long ((X.toUInt64 >>> (y.toInt64.toUInt64 &&& Int64.toUInt64 63)).toInt64) :: S) σ := (ms_G_at rfl _ _ _).trans rfl
theorem mi_86_13 : ms_G 86 13 L (.long X :: S) σ = ms_G 86 14 L (.int X.toInt32 :: S) σ := (ms_G_at rfl _ _ _).trans rfl
theorem mi_86_14 : ms_G 86 14 L (.int x :: .int (nI i) :: .ref (ms_ad r u) :: S) (ms_Z q w I J) = cond (mo_0 q.1 r u i) (ms_G 86 15 L S (ms_Z q true (ms_u I r u (upd (I r u) i x)) J)) (ms_raw 86 14 L (.int x :: .int (nI i) :: .ref (ms_ad r u) :: S) (ms_Z q w I J)) := mz_iast rfl x
theorem mi_86_15 : ms_G 86 15 L [] σ = some (.inl none, σ) := (ms_G_at rfl _ _ _).trans rfl
-- MaskedSum$Numbers.fold(J)J
theorem mi_87_0 : ms_G 87 0 [.long X, l1, l2, l3] S σ = ms_G 87 1 [.long X, l1, l2, l3] (.long X :: S) σ := (ms_G_at rfl _ _ _).trans rfl
theorem mi_87_1 : ms_G 87 1 L S σ = ms_G 87 4 L (.long (lN 2305843009213693951) :: S) σ := (ms_G_at rfl _ _ _).trans rfl
theorem mi_87_4 : ms_G 87 4 L (.long Y :: .long X :: S) σ = ms_G 87 5 L (.long (X &&& Y) :: S) σ := (ms_G_at rfl _ _ _).trans rfl
theorem mi_87_5 : ms_G 87 5 [.long X, l1, l2, l3] S σ = ms_G 87 6 [.long X, l1, l2, l3] (.long X :: S) σ := (ms_G_at rfl _ _ _).trans rfl
theorem mi_87_6 : ms_G 87 6 L S σ = ms_G 87 8 L (.int (nI 61) :: S) σ := (ms_G_at rfl _ _ _).trans rfl
theorem mi_87_8 : ms_G 87 8 L (.int y :: .long X :: S) σ = ms_G 87 9 L (.long ((X.toUInt64 >>> (y.toInt64.toUInt64 &&& Int64.toUInt64 63)).toInt64) :: S) σ := (ms_G_at rfl _ _ _).trans rfl
theorem mi_87_9 : ms_G 87 9 L (.long Y :: .long X :: S) σ = ms_G 87 10 L (.long (X + Y) :: S) σ := (ms_G_at rfl _ _ _).trans rfl
theorem mi_87_10 : ms_G 87 10 [l0, .null, l2, l3] (.long X :: S) σ = ms_G 87 11 [l0, .null, .long X, .null] S σ := (ms_G_at rfl _ _ _).trans rfl
theorem mi_87_11 : ms_G 87 11 [l0, l1, .long X, l3] S σ = ms_G 87 12 [l0, l1, .long X, l3] (.long X :: S) σ := (ms_G_at rfl _ _ _).trans rfl
theorem mi_87_12 : ms_G 87 12 L S σ = ms_G 87 15 L (.long (lN 2305843009213693951) :: S) σ := (ms_G_at rfl _ _ _).trans rfl
theorem mi_87_15 : ms_G 87 15 L (.long Y :: .long X :: S) σ = ms_G 87 16 L (.int (lg_cmp X Y) :: S) σ := (ms_G_at rfl _ _ _).trans rfl
theorem mi_87_16 : ms_G 87 16 L (.int x :: S) σ = if x < nI 0 then ms_G 87 27 L S σ else ms_G 87 19 L S σ := mz_bra rfl rfl rfl
theorem mi_87_19 : ms_G 87 19 [l0, l1, .long X, l3] S σ = ms_G 87 20 [l0, l1, .long X, l3] (.long X :: S) σ := (ms_G_at rfl _ _ _).trans rfl
theorem mi_87_20 : ms_G 87 20 L S σ = ms_G 87 23 L (.long (lN 2305843009213693951) :: S) σ := (ms_G_at rfl _ _ _).trans rfl
theorem mi_87_23 : ms_G 87 23 L (.long Y :: .long X :: S) σ = ms_G 87 24 L (.long (X - Y) :: S) σ := (ms_G_at rfl _ _ _).trans rfl
theorem mi_87_24 : ms_G 87 24 L S σ = ms_G 87 28 L S σ := (ms_G_at rfl _ _ _).trans rfl
theorem mi_87_27 : ms_G 87 27 [l0, l1, .long X, l3] S σ = ms_G 87 28 [l0, l1, .long X, l3] (.long X :: S) σ := (ms_G_at rfl _ _ _).trans rfl
theorem mi_87_28 : ms_G 87 28 L [.long X] σ = some (.inl (some (.long X)), σ) := (ms_G_at rfl _ _ _).trans rfl
-- MaskedSum$Numbers.plus(JJ)J
theorem mi_88_0 : ms_G 88 0 [.long X, l1, l2, l3] S σ = ms_G 88 1 [.long X, l1, l2, l3] (.long X :: S) σ := (ms_G_at rfl _ _ _).trans rfl
theorem mi_88_1 : ms_G 88 1 [l0, l1, .long X, l3] S σ = ms_G 88 2 [l0, l1, .long X, l3] (.long X :: S) σ := (ms_G_at rfl _ _ _).trans rfl
theorem mi_88_2 : ms_G 88 2 L (.long Y :: .long X :: S) σ = ms_G 88 3 L (.long (X + Y) :: S) σ := (ms_G_at rfl _ _ _).trans rfl
theorem mi_88_3 : ms_G 88 3 L [.long X0] (ms_Z q w I J) = mo_cl 88 3 6 (ms_G 87 0 [.long X0, .null, .null, .null] [] (ms_Z q false I J)) w L [] := (mz_call rfl rfl (mz_can0 rfl rfl rfl rfl rfl)).trans rfl
theorem mi_88_6 : ms_G 88 6 L [.long X] σ = some (.inl (some (.long X)), σ) := (ms_G_at rfl _ _ _).trans rfl
-- MaskedSum$Numbers.minus(JJ)J
theorem mi_89_0 : ms_G 89 0 [.long X, l1, l2, l3] S σ = ms_G 89 1 [.long X, l1, l2, l3] (.long X :: S) σ := (ms_G_at rfl _ _ _).trans rfl
theorem mi_89_1 : ms_G 89 1 L S σ = ms_G 89 4 L (.long (lN 2305843009213693951) :: S) σ := (ms_G_at rfl _ _ _).trans rfl
theorem mi_89_4 : ms_G 89 4 L (.long Y :: .long X :: S) σ = ms_G 89 5 L (.long (X + Y) :: S) σ := (ms_G_at rfl _ _ _).trans rfl
theorem mi_89_5 : ms_G 89 5 [l0, l1, .long X, l3] S σ = ms_G 89 6 [l0, l1, .long X, l3] (.long X :: S) σ := (ms_G_at rfl _ _ _).trans rfl
theorem mi_89_6 : ms_G 89 6 L (.long Y :: .long X :: S) σ = ms_G 89 7 L (.long (X - Y) :: S) σ := (ms_G_at rfl _ _ _).trans rfl
theorem mi_89_7 : ms_G 89 7 L [.long X0] (ms_Z q w I J) = mo_cl 89 7 10 (ms_G 87 0 [.long X0, .null, .null, .null] [] (ms_Z q false I J)) w L [] := (mz_call rfl rfl (mz_can0 rfl rfl rfl rfl rfl)).trans rfl
theorem mi_89_10 : ms_G 89 10 L [.long X] σ = some (.inl (some (.long X)), σ) := (ms_G_at rfl _ _ _).trans rfl
-- MaskedSum$Numbers.times(JJ)J
theorem mi_90_0 : ms_G 90 0 [.long X, l1, l2, l3, l4, l5, l6, l7, l8, l9, l10, l11, l12, l13, l14, l15] S σ = ms_G 90 1 [.long X, l1, l2, l3, l4, l5, l6, l7, l8, l9, l10, l11, l12, l13, l14, l15] (.long X :: S) σ := (ms_G_at rfl _ _ _).trans rfl
theorem mi_90_1 : ms_G 90 1 L S σ = ms_G 90 3 L (.int (nI 31) :: S) σ := (ms_G_at rfl _ _ _).trans rfl
theorem mi_90_3 : ms_G 90 3 L (.int y :: .long X :: S) σ = ms_G 90 4 L (.long ((X.toUInt64 >>> (y.toInt64.toUInt64 &&& Int64.toUInt64 63)).toInt64) :: S) σ := (ms_G_at rfl _ _ _).trans rfl
theorem mi_90_4 : ms_G 90 4 [l0, l1, l2, .null, l4, l5, l6, l7, l8, l9, l10, l11, l12, l13, l14, l15] (.long X :: S) σ = ms_G 90 6 [l0, l1, l2, .null, .long X, .null, l6, l7, l8, l9, l10, l11, l12, l13, l14, l15] S σ := (ms_G_at rfl _ _ _).trans rfl
theorem mi_90_6 : ms_G 90 6 [.long X, l1, l2, l3, l4, l5, l6, l7, l8, l9, l10, l11, l12, l13, l14, l15] S σ = ms_G 90 7 [.long X, l1, l2, l3, l4, l5, l6, l7, l8, l9, l10, l11, l12, l13, l14, l15] (.long X :: S) σ := (ms_G_at rfl _ _ _).trans rfl
theorem mi_90_7 : ms_G 90 7 L S σ = ms_G 90 10 L (.long (lN 2147483647) :: S) σ := (ms_G_at rfl _ _ _).trans rfl
theorem mi_90_10 : ms_G 90 10 L (.long Y :: .long X :: S) σ = ms_G 90 11 L (.long (X &&& Y) :: S) σ := (ms_G_at rfl _ _ _).trans rfl
theorem mi_90_11 : ms_G 90 11 [l0, l1, l2, l3, l4, .null, l6, l7, l8, l9, l10, l11, l12, l13, l14, l15] (.long X :: S) σ = ms_G 90 13 [l0, l1, l2, l3, l4, .null, .long X, .null, l8, l9, l10, l11, l12, l13, l14, l15] S σ := (ms_G_at rfl _ _ _).trans rfl
theorem mi_90_13 : ms_G 90 13 [l0, l1, .long X, l3, l4, l5, l6, l7, l8, l9, l10, l11, l12, l13, l14, l15] S σ = ms_G 90 14 [l0, l1, .long X, l3, l4, l5, l6, l7, l8, l9, l10, l11, l12, l13, l14, l15] (.long X :: S) σ := (ms_G_at rfl _ _ _).trans rfl
theorem mi_90_14 : ms_G 90 14 L S σ = ms_G 90 16 L (.int (nI 31) :: S) σ := (ms_G_at rfl _ _ _).trans rfl
theorem mi_90_16 : ms_G 90 16 L (.int y :: .long X :: S) σ = ms_G 90 17 L (.long ((X.toUInt64 >>> (y.toInt64.toUInt64 &&& Int64.toUInt64 63)).toInt64) :: S) σ := (ms_G_at rfl _ _ _).trans rfl
theorem mi_90_17 : ms_G 90 17 [l0, l1, l2, l3, l4, l5, l6, .null, l8, l9, l10, l11, l12, l13, l14, l15] (.long X :: S) σ = ms_G 90 19 [l0, l1, l2, l3, l4, l5, l6, .null, .long X, .null, l10, l11, l12, l13, l14, l15] S σ := (ms_G_at rfl _ _ _).trans rfl
theorem mi_90_19 : ms_G 90 19 [l0, l1, .long X, l3, l4, l5, l6, l7, l8, l9, l10, l11, l12, l13, l14, l15] S σ = ms_G 90 20 [l0, l1, .long X, l3, l4, l5, l6, l7, l8, l9, l10, l11, l12, l13, l14, l15] (.long X :: S) σ := (ms_G_at rfl _ _ _).trans rfl
theorem mi_90_20 : ms_G 90 20 L S σ = ms_G 90 23 L (.long (lN 2147483647) :: S) σ := (ms_G_at rfl _ _ _).trans rfl
theorem mi_90_23 : ms_G 90 23 L (.long Y :: .long X :: S) σ = ms_G 90 24 L (.long (X &&& Y) :: S) σ := (ms_G_at rfl _ _ _).trans rfl
theorem mi_90_24 : ms_G 90 24 [l0, l1, l2, l3, l4, l5, l6, l7, l8, .null, l10, l11, l12, l13, l14, l15] (.long X :: S) σ = ms_G 90 26 [l0, l1, l2, l3, l4, l5, l6, l7, l8, .null, .long X, .null, l12, l13, l14, l15] S σ := (ms_G_at rfl _ _ _).trans rfl
theorem mi_90_26 : ms_G 90 26 [l0, l1, l2, l3, .long X, l5, l6, l7, l8, l9, l10, l11, l12, l13, l14, l15] S σ = ms_G 90 28 [l0, l1, l2, l3, .long X, l5, l6, l7, l8, l9, l10, l11, l12, l13, l14, l15] (.long X :: S) σ := (ms_G_at rfl _ _ _).trans rfl
theorem mi_90_28 : ms_G 90 28 [l0, l1, l2, l3, l4, l5, l6, l7, l8, l9, .long X, l11, l12, l13, l14, l15] S σ = ms_G 90 30 [l0, l1, l2, l3, l4, l5, l6, l7, l8, l9, .long X, l11, l12, l13, l14, l15] (.long X :: S) σ := (ms_G_at rfl _ _ _).trans rfl
theorem mi_90_30 : ms_G 90 30 L (.long Y :: .long X :: S) σ = ms_G 90 31 L (.long (X * Y) :: S) σ := (ms_G_at rfl _ _ _).trans rfl
theorem mi_90_31 : ms_G 90 31 [l0, l1, l2, l3, l4, l5, .long X, l7, l8, l9, l10, l11, l12, l13, l14, l15] S σ = ms_G 90 33 [l0, l1, l2, l3, l4, l5, .long X, l7, l8, l9, l10, l11, l12, l13, l14, l15] (.long X :: S) σ := (ms_G_at rfl _ _ _).trans rfl
theorem mi_90_33 : ms_G 90 33 [l0, l1, l2, l3, l4, l5, l6, l7, .long X, l9, l10, l11, l12, l13, l14, l15] S σ = ms_G 90 35 [l0, l1, l2, l3, l4, l5, l6, l7, .long X, l9, l10, l11, l12, l13, l14, l15] (.long X :: S) σ := (ms_G_at rfl _ _ _).trans rfl
theorem mi_90_35 : ms_G 90 35 L (.long Y :: .long X :: S) σ = ms_G 90 36 L (.long (X * Y) :: S) σ := (ms_G_at rfl _ _ _).trans rfl
theorem mi_90_36 : ms_G 90 36 L (.long Y :: .long X :: S) σ = ms_G 90 37 L (.long (X + Y) :: S) σ := (ms_G_at rfl _ _ _).trans rfl
theorem mi_90_37 : ms_G 90 37 [l0, l1, l2, l3, l4, l5, l6, l7, l8, l9, l10, .null, l12, l13, l14, l15] (.long X :: S) σ = ms_G 90 39 [l0, l1, l2, l3, l4, l5, l6, l7, l8, l9, l10, .null, .long X, .null, l14, l15] S σ := (ms_G_at rfl _ _ _).trans rfl
theorem mi_90_39 : ms_G 90 39 [l0, l1, l2, l3, l4, l5, l6, l7, l8, l9, l10, l11, .long X, l13, l14, l15] S σ = ms_G 90 41 [l0, l1, l2, l3, l4, l5, l6, l7, l8, l9, l10, l11, .long X, l13, l14, l15] (.long X :: S) σ := (ms_G_at rfl _ _ _).trans rfl
theorem mi_90_41 : ms_G 90 41 L S σ = ms_G 90 43 L (.int (nI 30) :: S) σ := (ms_G_at rfl _ _ _).trans rfl
theorem mi_90_43 : ms_G 90 43 L (.int y :: .long X :: S) σ = ms_G 90 44 L (.long ((X.toUInt64 >>> (y.toInt64.toUInt64 &&& Int64.toUInt64 63)).toInt64) :: S) σ := (ms_G_at rfl _ _ _).trans rfl
theorem mi_90_44 : ms_G 90 44 [l0, l1, l2, l3, l4, l5, l6, l7, l8, l9, l10, l11, .long X, l13, l14, l15] S σ = ms_G 90 46 [l0, l1, l2, l3, l4, l5, l6, l7, l8, l9, l10, l11, .long X, l13, l14, l15] (.long X :: S) σ := (ms_G_at rfl _ _ _).trans rfl
theorem mi_90_46 : ms_G 90 46 L S σ = ms_G 90 49 L (.long (lN 1073741823) :: S) σ := (ms_G_at rfl _ _ _).trans rfl
theorem mi_90_49 : ms_G 90 49 L (.long Y :: .long X :: S) σ = ms_G 90 50 L (.long (X &&& Y) :: S) σ := (ms_G_at rfl _ _ _).trans rfl
theorem mi_90_50 : ms_G 90 50 L S σ = ms_G 90 52 L (.int (nI 31) :: S) σ := (ms_G_at rfl _ _ _).trans rfl
theorem mi_90_52 : ms_G 90 52 L (.int y :: .long X :: S) σ = ms_G 90 53 L (.long (X <<< (y.toInt64 &&& 63)) :: S) σ := (ms_G_at rfl _ _ _).trans rfl
theorem mi_90_53 : ms_G 90 53 L (.long Y :: .long X :: S) σ = ms_G 90 54 L (.long (X + Y) :: S) σ := (ms_G_at rfl _ _ _).trans rfl
theorem mi_90_54 : ms_G 90 54 [l0, l1, l2, l3, l4, l5, l6, l7, l8, l9, l10, l11, l12, .null, l14, l15] (.long X :: S) σ = ms_G 90 56 [l0, l1, l2, l3, l4, l5, l6, l7, l8, l9, l10, l11, l12, .null, .long X, .null] S σ := (ms_G_at rfl _ _ _).trans rfl
theorem mi_90_56 : ms_G 90 56 L S σ = ms_G 90 59 L (.long (lN 2) :: S) σ := (ms_G_at rfl _ _ _).trans rfl
theorem mi_90_59 : ms_G 90 59 [l0, l1, l2, l3, .long X, l5, l6, l7, l8, l9, l10, l11, l12, l13, l14, l15] S σ = ms_G 90 61 [l0, l1, l2, l3, .long X, l5, l6, l7, l8, l9, l10, l11, l12, l13, l14, l15] (.long X :: S) σ := (ms_G_at rfl _ _ _).trans rfl
theorem mi_90_61 : ms_G 90 61 L (.long Y :: .long X :: S) σ = ms_G 90 62 L (.long (X * Y) :: S) σ := (ms_G_at rfl _ _ _).trans rfl
theorem mi_90_62 : ms_G 90 62 [l0, l1, l2, l3, l4, l5, l6, l7, .long X, l9, l10, l11, l12, l13, l14, l15] S σ = ms_G 90 64 [l0, l1, l2, l3, l4, l5, l6, l7, .long X, l9, l10, l11, l12, l13, l14, l15] (.long X :: S) σ := (ms_G_at rfl _ _ _).trans rfl
theorem mi_90_64 : ms_G 90 64 L (.long Y :: .long X :: S) σ = ms_G 90 65 L (.long (X * Y) :: S) σ := (ms_G_at rfl _ _ _).trans rfl
theorem mi_90_65 : ms_G 90 65 [l0, l1, l2, l3, l4, l5, l6, l7, l8, l9, l10, l11, l12, l13, .long X, l15] S σ = ms_G 90 67 [l0, l1, l2, l3, l4, l5, l6, l7, l8, l9, l10, l11, l12, l13, .long X, l15] (.long X :: S) σ := (ms_G_at rfl _ _ _).trans rfl
theorem mi_90_67 : ms_G 90 67 L (.long Y :: .long X :: S) σ = ms_G 90 68 L (.long (X + Y) :: S) σ := (ms_G_at rfl _ _ _).trans rfl
theorem mi_90_68 : ms_G 90 68 [l0, l1, l2, l3, l4, l5, .long X, l7, l8, l9, l10, l11, l12, l13, l14, l15] S σ = ms_G 90 70 [l0, l1, l2, l3, l4, l5, .long X, l7, l8, l9, l10, l11, l12, l13, l14, l15] (.long X :: S) σ := (ms_G_at rfl _ _ _).trans rfl
theorem mi_90_70 : ms_G 90 70 [l0, l1, l2, l3, l4, l5, l6, l7, l8, l9, .long X, l11, l12, l13, l14, l15] S σ = ms_G 90 72 [l0, l1, l2, l3, l4, l5, l6, l7, l8, l9, .long X, l11, l12, l13, l14, l15] (.long X :: S) σ := (ms_G_at rfl _ _ _).trans rfl
theorem mi_90_72 : ms_G 90 72 L (.long Y :: .long X :: S) σ = ms_G 90 73 L (.long (X * Y) :: S) σ := (ms_G_at rfl _ _ _).trans rfl
theorem mi_90_73 : ms_G 90 73 L (.long Y :: .long X :: S) σ = ms_G 90 74 L (.long (X + Y) :: S) σ := (ms_G_at rfl _ _ _).trans rfl
theorem mi_90_74 : ms_G 90 74 L [.long X0] (ms_Z q w I J) = mo_cl 90 74 77 (ms_G 87 0 [.long X0, .null, .null, .null] [] (ms_Z q false I J)) w L [] := (mz_call rfl rfl (mz_can0 rfl rfl rfl rfl rfl)).trans rfl
theorem mi_90_77 : ms_G 90 77 L [.long X] σ = some (.inl (some (.long X)), σ) := (ms_G_at rfl _ _ _).trans rfl
-- MaskedSum$Numbers.power(JJ)J
theorem mi_91_0 : ms_G 91 0 L S σ = ms_G 91 1 L (.long (lN 1) :: S) σ := (ms_G_at rfl _ _ _).trans rfl
theorem mi_91_1 : ms_G 91 1 [l0, l1, l2, .null, l4, l5, l6, l7, l8] (.long X :: S) σ = ms_G 91 3 [l0, l1, l2, .null, .long X, .null, l6, l7, l8] S σ := (ms_G_at rfl _ _ _).trans rfl
theorem mi_91_3 : ms_G 91 3 [.long X, l1, l2, l3, l4, l5, l6, l7, l8] S σ = ms_G 91 4 [.long X, l1, l2, l3, l4, l5, l6, l7, l8] (.long X :: S) σ := (ms_G_at rfl _ _ _).trans rfl
theorem mi_91_4 : ms_G 91 4 [l0, l1, l2, l3, l4, .null, l6, l7, l8] (.long X :: S) σ = ms_G 91 6 [l0, l1, l2, l3, l4, .null, .long X, .null, l8] S σ := (ms_G_at rfl _ _ _).trans rfl
theorem mi_91_6 : ms_G 91 6 L S σ = ms_G 91 7 L (.int (nI 0) :: S) σ := (ms_G_at rfl _ _ _).trans rfl
theorem mi_91_7 : ms_G 91 7 [l0, l1, l2, l3, l4, l5, l6, .null, l8] (.int x :: S) σ = ms_G 91 9 [l0, l1, l2, l3, l4, l5, l6, .null, .int x] S σ := (ms_G_at rfl _ _ _).trans rfl
theorem mi_91_9 : ms_G 91 9 [l0, l1, l2, l3, l4, l5, l6, l7, .int x] S σ = ms_G 91 11 [l0, l1, l2, l3, l4, l5, l6, l7, .int x] (.int x :: S) σ := (ms_G_at rfl _ _ _).trans rfl
theorem mi_91_11 : ms_G 91 11 L S σ = ms_G 91 13 L (.int (nI 61) :: S) σ := (ms_G_at rfl _ _ _).trans rfl
theorem mi_91_13 : ms_G 91 13 L (.int y :: .int x :: S) σ = if y ≤ x then ms_G 91 51 L S σ else ms_G 91 16 L S σ := mz_bra rfl rfl rfl
theorem mi_91_16 : ms_G 91 16 [l0, l1, .long X, l3, l4, l5, l6, l7, l8] S σ = ms_G 91 17 [l0, l1, .long X, l3, l4, l5, l6, l7, l8] (.long X :: S) σ := (ms_G_at rfl _ _ _).trans rfl
theorem mi_91_17 : ms_G 91 17 [l0, l1, l2, l3, l4, l5, l6, l7, .int x] S σ = ms_G 91 19 [l0, l1, l2, l3, l4, l5, l6, l7, .int x] (.int x :: S) σ := (ms_G_at rfl _ _ _).trans rfl
theorem mi_91_19 : ms_G 91 19 L (.int y :: .long X :: S) σ = ms_G 91 20 L (.long ((X.toUInt64 >>> (y.toInt64.toUInt64 &&& Int64.toUInt64 63)).toInt64) :: S) σ := (ms_G_at rfl _ _ _).trans rfl
theorem mi_91_20 : ms_G 91 20 L S σ = ms_G 91 21 L (.long (lN 1) :: S) σ := (ms_G_at rfl _ _ _).trans rfl
theorem mi_91_21 : ms_G 91 21 L (.long Y :: .long X :: S) σ = ms_G 91 22 L (.long (X &&& Y) :: S) σ := (ms_G_at rfl _ _ _).trans rfl
theorem mi_91_22 : ms_G 91 22 L S σ = ms_G 91 23 L (.long (lN 0) :: S) σ := (ms_G_at rfl _ _ _).trans rfl
theorem mi_91_23 : ms_G 91 23 L (.long Y :: .long X :: S) σ = ms_G 91 24 L (.int (lg_cmp X Y) :: S) σ := (ms_G_at rfl _ _ _).trans rfl
theorem mi_91_24 : ms_G 91 24 L (.int x :: S) σ = if x = nI 0 then ms_G 91 36 L S σ else ms_G 91 27 L S σ := mz_bra rfl rfl rfl
theorem mi_91_27 : ms_G 91 27 [l0, l1, l2, l3, .long X, l5, l6, l7, l8] S σ = ms_G 91 29 [l0, l1, l2, l3, .long X, l5, l6, l7, l8] (.long X :: S) σ := (ms_G_at rfl _ _ _).trans rfl
theorem mi_91_29 : ms_G 91 29 [l0, l1, l2, l3, l4, l5, .long X, l7, l8] S σ = ms_G 91 31 [l0, l1, l2, l3, l4, l5, .long X, l7, l8] (.long X :: S) σ := (ms_G_at rfl _ _ _).trans rfl
theorem mi_91_31 : ms_G 91 31 L [.long X1, .long X0] (ms_Z q w I J) = mo_cl 91 31 34 (ms_G 90 0 [.long X0, .null, .long X1, .null, .null, .null, .null, .null, .null, .null, .null, .null, .null, .null, .null, .null] [] (ms_Z q false I J)) w L [] := (mz_call rfl rfl (mz_can0 rfl rfl rfl rfl rfl)).trans rfl
theorem mi_91_34 : ms_G 91 34 [l0, l1, l2, .null, l4, l5, l6, l7, l8] (.long X :: S) σ = ms_G 91 36 [l0, l1, l2, .null, .long X, .null, l6, l7, l8] S σ := (ms_G_at rfl _ _ _).trans rfl
theorem mi_91_36 : ms_G 91 36 [l0, l1, l2, l3, l4, l5, .long X, l7, l8] S σ = ms_G 91 38 [l0, l1, l2, l3, l4, l5, .long X, l7, l8] (.long X :: S) σ := (ms_G_at rfl _ _ _).trans rfl
theorem mi_91_38 : ms_G 91 38 [l0, l1, l2, l3, l4, l5, .long X, l7, l8] S σ = ms_G 91 40 [l0, l1, l2, l3, l4, l5, .long X, l7, l8] (.long X :: S) σ := (ms_G_at rfl _ _ _).trans rfl
theorem mi_91_40 : ms_G 91 40 L [.long X1, .long X0] (ms_Z q w I J) = mo_cl 91 40 43 (ms_G 90 0 [.long X0, .null, .long X1, .null, .null, .null, .null, .null, .null, .null, .null, .null, .null, .null, .null, .null] [] (ms_Z q false I J)) w L [] := (mz_call rfl rfl (mz_can0 rfl rfl rfl rfl rfl)).trans rfl
theorem mi_91_43 : ms_G 91 43 [l0, l1, l2, l3, l4, .null, l6, l7, l8] (.long X :: S) σ = ms_G 91 45 [l0, l1, l2, l3, l4, .null, .long X, .null, l8] S σ := (ms_G_at rfl _ _ _).trans rfl
theorem mi_91_45 : ms_G 91 45 [l0, l1, l2, l3, l4, l5, l6, .null, .int x] S σ = ms_G 91 48 [l0, l1, l2, l3, l4, l5, l6, .null, .int (x + nI 1)] S σ := (ms_G_at rfl _ _ _).trans rfl
theorem mi_91_48 : ms_G 91 48 L S σ = ms_G 91 9 L S σ := (ms_G_at rfl _ _ _).trans rfl
theorem mi_91_51 : ms_G 91 51 [l0, l1, l2, l3, .long X, l5, l6, l7, l8] S σ = ms_G 91 53 [l0, l1, l2, l3, .long X, l5, l6, l7, l8] (.long X :: S) σ := (ms_G_at rfl _ _ _).trans rfl
theorem mi_91_53 : ms_G 91 53 L [.long X] σ = some (.inl (some (.long X)), σ) := (ms_G_at rfl _ _ _).trans rfl
-- MaskedSum$Phone.begin()V
theorem mi_93_0 : ms_G 93 0 [.ref a] S σ = ms_G 93 1 [.ref a] (.ref a :: S) σ := (ms_G_at rfl _ _ _).trans rfl
theorem mi_93_1 : ms_G 93 1 L S σ = ms_G 93 2 L (.int (nI 0) :: S) σ := (ms_G_at rfl _ _ _).trans rfl
theorem mi_93_2 (hu : u < 8) : ms_G 93 2 L (.int x :: .ref (ms_ad 31 u) :: S) (ms_Z q w I J) = ms_G 93 5 L S (ms_Z q true (ms_u I 31 u (upd (I 31 u) 9 x)) J) := mz_putf rfl hu rfl (by decide) rfl rfl
theorem mi_93_5 : ms_G 93 5 [.ref a] S σ = ms_G 93 6 [.ref a] (.ref a :: S) σ := (ms_G_at rfl _ _ _).trans rfl
theorem mi_93_6 : ms_G 93 6 L S σ = ms_G 93 7 L (.int (nI 0) :: S) σ := (ms_G_at rfl _ _ _).trans rfl
theorem mi_93_7 (hu : u < 8) : ms_G 93 7 L (.int x :: .ref (ms_ad 31 u) :: S) (ms_Z q w I J) = ms_G 93 10 L S (ms_Z q true (ms_u I 31 u (upd (I 31 u) 10 x)) J) := mz_putf rfl hu rfl (by decide) rfl rfl
theorem mi_93_10 : ms_G 93 10 [.ref a] S σ = ms_G 93 11 [.ref a] (.ref a :: S) σ := (ms_G_at rfl _ _ _).trans rfl
theorem mi_93_11 : ms_G 93 11 L S σ = ms_G 93 12 L (.int (nI 0) :: S) σ := (ms_G_at rfl _ _ _).trans rfl
theorem mi_93_12 (hu : u < 8) : ms_G 93 12 L (.int x :: .ref (ms_ad 31 u) :: S) (ms_Z q w I J) = ms_G 93 15 L S (ms_Z q true (ms_u I 31 u (upd (I 31 u) 11 x)) J) := mz_putf rfl hu rfl (by decide) rfl rfl
theorem mi_93_15 : ms_G 93 15 [.ref a] S σ = ms_G 93 16 [.ref a] (.ref a :: S) σ := (ms_G_at rfl _ _ _).trans rfl
theorem mi_93_16 : ms_G 93 16 L S σ = ms_G 93 17 L (.int (nI 0) :: S) σ := (ms_G_at rfl _ _ _).trans rfl
theorem mi_93_17 (hu : u < 8) : ms_G 93 17 L (.int x :: .ref (ms_ad 31 u) :: S) (ms_Z q w I J) = ms_G 93 20 L S (ms_Z q true (ms_u I 31 u (upd (I 31 u) 12 x)) J) := mz_putf rfl hu rfl (by decide) rfl rfl
theorem mi_93_20 : ms_G 93 20 L [] σ = some (.inl none, σ) := (ms_G_at rfl _ _ _).trans rfl
-- MaskedSum$Phone.tell(I)I
theorem mi_94_0 : ms_G 94 0 [l0, .int x] S σ = ms_G 94 1 [l0, .int x] (.int x :: S) σ := (ms_G_at rfl _ _ _).trans rfl
theorem mi_94_1_c0 : ms_G 94 1 L (.int (nI 0) :: S) σ = ms_G 94 28 L S σ := (ms_G_at rfl _ _ _).trans rfl
theorem mi_94_1_c1 : ms_G 94 1 L (.int (nI 1) :: S) σ = ms_G 94 33 L S σ := (ms_G_at rfl _ _ _).trans rfl
theorem mi_94_1_c2 : ms_G 94 1 L (.int (nI 2) :: S) σ = ms_G 94 38 L S σ := (ms_G_at rfl _ _ _).trans rfl
theorem mi_94_1_d (hx : x.toInt < 0 ∨ 2 < x.toInt) : ms_G 94 1 L (.int x :: S) σ = ms_G 94 43 L S σ := mz_sw rfl hx
theorem mi_94_28 : ms_G 94 28 [.ref a, l1] S σ = ms_G 94 29 [.ref a, l1] (.ref a :: S) σ := (ms_G_at rfl _ _ _).trans rfl
theorem mi_94_29 (hu : u < 8) : ms_G 94 29 L (.ref (ms_ad 31 u) :: S) (ms_Z q w I J) = ms_G 94 32 L (.int (I 31 u 9) :: S) (ms_Z q w I J) := mz_getf (c := (0, 9)) rfl hu rfl (by decide) rfl
theorem mi_94_32 : ms_G 94 32 L [.int x] σ = some (.inl (some (.int x)), σ) := (ms_G_at rfl _ _ _).trans rfl
theorem mi_94_33 : ms_G 94 33 [.ref a, l1] S σ = ms_G 94 34 [.ref a, l1] (.ref a :: S) σ := (ms_G_at rfl _ _ _).trans rfl
theorem mi_94_34 (hu : u < 8) : ms_G 94 34 L (.ref (ms_ad 31 u) :: S) (ms_Z q w I J) = ms_G 94 37 L (.int (I 31 u 10) :: S) (ms_Z q w I J) := mz_getf (c := (0, 10)) rfl hu rfl (by decide) rfl
theorem mi_94_37 : ms_G 94 37 L [.int x] σ = some (.inl (some (.int x)), σ) := (ms_G_at rfl _ _ _).trans rfl
theorem mi_94_38 : ms_G 94 38 [.ref a, l1] S σ = ms_G 94 39 [.ref a, l1] (.ref a :: S) σ := (ms_G_at rfl _ _ _).trans rfl
theorem mi_94_39 (hu : u < 8) : ms_G 94 39 L (.ref (ms_ad 31 u) :: S) (ms_Z q w I J) = ms_G 94 42 L (.int (I 31 u 11) :: S) (ms_Z q w I J) := mz_getf (c := (0, 11)) rfl hu rfl (by decide) rfl
theorem mi_94_42 : ms_G 94 42 L [.int x] σ = some (.inl (some (.int x)), σ) := (ms_G_at rfl _ _ _).trans rfl
theorem mi_94_43 : ms_G 94 43 [.ref a, l1] S σ = ms_G 94 44 [.ref a, l1] (.ref a :: S) σ := (ms_G_at rfl _ _ _).trans rfl
theorem mi_94_44 (hu : u < 8) : ms_G 94 44 L (.ref (ms_ad 31 u) :: S) (ms_Z q w I J) = ms_G 94 47 L (.int (I 31 u 12) :: S) (ms_Z q w I J) := mz_getf (c := (0, 12)) rfl hu rfl (by decide) rfl
theorem mi_94_47 : ms_G 94 47 L [.int x] σ = some (.inl (some (.int x)), σ) := (ms_G_at rfl _ _ _).trans rfl
-- MaskedSum$Phone.takeAnswer(LMaskedSum$Message;II)Z
theorem mi_95_0 : ms_G 95 0 [l0, .ref a, l2, l3, l4, l5] S σ = ms_G 95 1 [l0, .ref a, l2, l3, l4, l5] (.ref a :: S) σ := (ms_G_at rfl _ _ _).trans rfl
theorem mi_95_1 (hu : u < 56) : ms_G 95 1 L (.ref (ms_ad 17 u) :: S) (ms_Z q w I J) = ms_G 95 4 L (.int (nI (ms_sv 0 u)) :: S) (ms_Z q w I J) := mz_getf (c := (3, 0)) rfl hu rfl (by decide) rfl
theorem mi_95_4 : ms_G 95 4 [l0, l1, l2, .int y, l4, l5] (.int x :: S) σ = ms_G 95 6 [l0, l1, l2, .int y, .int x, l5] S σ := (ms_G_at rfl _ _ _).trans rfl
theorem mi_95_6 : ms_G 95 6 [l0, .ref a, l2, l3, l4, l5] S σ = ms_G 95 7 [l0, .ref a, l2, l3, l4, l5] (.ref a :: S) σ := (ms_G_at rfl _ _ _).trans rfl
theorem mi_95_7 (hu : u < 56) : ms_G 95 7 L (.ref (ms_ad 17 u) :: S) (ms_Z q w I J) = ms_G 95 10 L (.ref (ms_ad 18 u) :: S) (ms_Z q w I J) := mz_getf (c := (2, 18)) rfl hu rfl (by decide) rfl
theorem mi_95_10 : ms_G 95 10 L S σ = ms_G 95 11 L (.int (nI 0) :: S) σ := (ms_G_at rfl _ _ _).trans rfl
theorem mi_95_11 : ms_G 95 11 L (.int (nI i) :: .ref (ms_ad r u) :: S) (ms_Z q w I J) = cond (mo_0 q.1 r u i) (ms_G 95 12 L (.int (I r u i) :: S) (ms_Z q w I J)) (ms_raw 95 11 L (.int (nI i) :: .ref (ms_ad r u) :: S) (ms_Z q w I J)) := mz_iald rfl
theorem mi_95_12 : ms_G 95 12 [l0, l1, l2, l3, .int y, l5] (.int x :: S) σ = ms_G 95 14 [l0, l1, l2, l3, .int y, .int x] S σ := (ms_G_at rfl _ _ _).trans rfl
theorem mi_95_14 : ms_G 95 14 [l0, l1, l2, l3, .int x, l5] S σ = ms_G 95 16 [l0, l1, l2, l3, .int x, l5] (.int x :: S) σ := (ms_G_at rfl _ _ _).trans rfl
theorem mi_95_16 : ms_G 95 16 [.ref a, l1, l2, l3, l4, l5] S σ = ms_G 95 17 [.ref a, l1, l2, l3, l4, l5] (.ref a :: S) σ := (ms_G_at rfl _ _ _).trans rfl
theorem mi_95_17 (hu : u < 8) : ms_G 95 17 L (.ref (ms_ad 31 u) :: S) (ms_Z q w I J) = ms_G 95 20 L (.int (I 31 u 9) :: S) (ms_Z q w I J) := mz_getf (c := (0, 9)) rfl hu rfl (by decide) rfl
theorem mi_95_20 : ms_G 95 20 L S σ = ms_G 95 21 L (.int (nI 1) :: S) σ := (ms_G_at rfl _ _ _).trans rfl
theorem mi_95_21 : ms_G 95 21 L (.int y :: .int x :: S) σ = ms_G 95 22 L (.int (x - y) :: S) σ := (ms_G_at rfl _ _ _).trans rfl
theorem mi_95_22 : ms_G 95 22 L (.int y :: .int x :: S) σ = if x = y then ms_G 95 25 L S σ else ms_G 95 47 L S σ := mz_bra rfl rfl rfl
theorem mi_95_25 : ms_G 95 25 [l0, l1, l2, l3, .int x, l5] S σ = ms_G 95 27 [l0, l1, l2, l3, .int x, l5] (.int x :: S) σ := (ms_G_at rfl _ _ _).trans rfl
theorem mi_95_27 : ms_G 95 27 [.ref a, l1, l2, l3, l4, l5] S σ = ms_G 95 28 [.ref a, l1, l2, l3, l4, l5] (.ref a :: S) σ := (ms_G_at rfl _ _ _).trans rfl
theorem mi_95_28 (hu : u < 8) : ms_G 95 28 L (.ref (ms_ad 31 u) :: S) (ms_Z q w I J) = ms_G 95 31 L (.int (I 31 u 10) :: S) (ms_Z q w I J) := mz_getf (c := (0, 10)) rfl hu rfl (by decide) rfl
theorem mi_95_31 : ms_G 95 31 L (.int y :: .int x :: S) σ = if x = y then ms_G 95 34 L S σ else ms_G 95 47 L S σ := mz_bra rfl rfl rfl
theorem mi_95_34 : ms_G 95 34 [.ref a, l1, l2, l3, l4, l5] S σ = ms_G 95 35 [.ref a, l1, l2, l3, l4, l5] (.ref a :: S) σ := (ms_G_at rfl _ _ _).trans rfl
theorem mi_95_35 : ms_G 95 35 [l0, l1, l2, l3, l4, .int x] S σ = ms_G 95 37 [l0, l1, l2, l3, l4, .int x] (.int x :: S) σ := (ms_G_at rfl _ _ _).trans rfl
theorem mi_95_37 : ms_G 95 37 [l0, l1, l2, l3, .int x, l5] S σ = ms_G 95 39 [l0, l1, l2, l3, .int x, l5] (.int x :: S) σ := (ms_G_at rfl _ _ _).trans rfl
theorem mi_95_39 : ms_G 95 39 [l0, l1, .int x, l3, l4, l5] S σ = ms_G 95 40 [l0, l1, .int x, l3, l4, l5] (.int x :: S) σ := (ms_G_at rfl _ _ _).trans rfl
theorem mi_95_40 : ms_G 95 40 [l0, l1, l2, .int x, l4, l5] S σ = ms_G 95 41 [l0, l1, l2, .int x, l4, l5] (.int x :: S) σ := (ms_G_at rfl _ _ _).trans rfl
theorem mi_95_41 (hu : u < 8) : ms_G 95 41 L [.int x3, .int x2, .int x1, .int x0, .ref (ms_ad 31 u)] (ms_Z q w I J) = mo_cl 95 41 44 (ms_G 96 0 [.ref (ms_ad 31 u), .int x0, .int x1, .int x2, .int x3] [] (ms_Z q false I J)) w L [] := (mz_call rfl rfl (mz_can1 rfl rfl rfl rfl rfl hu rfl (by decide))).trans rfl
theorem mi_95_44 : ms_G 95 44 L (.int x :: S) σ = if x = nI 0 then ms_G 95 47 L S σ else ms_G 95 49 L S σ := mz_bra rfl rfl rfl
theorem mi_95_47 : ms_G 95 47 L S σ = ms_G 95 48 L (.int (nI 0) :: S) σ := (ms_G_at rfl _ _ _).trans rfl
theorem mi_95_48 : ms_G 95 48 L [.int (nI 0)] σ = some (.inl (some (.int (nI 0))), σ) := (ms_G_at rfl _ _ _).trans rfl
theorem mi_95_48_1 : ms_G 95 48 L [.int (nI 1)] σ = some (.inl (some (.int (nI 1))), σ) := (ms_G_at rfl _ _ _).trans rfl
theorem mi_95_48_b (B : Bool) : ms_G 95 48 L [.int (ms_b B)] σ = some (.inl (some (.int (ms_b B))), σ) := by cases B <;> exact (ms_G_at rfl _ _ _).trans rfl
theorem mi_95_49 : ms_G 95 49 [.ref a, l1, l2, l3, l4, l5] S σ = ms_G 95 50 [.ref a, l1, l2, l3, l4, l5] (.ref a :: S) σ := (ms_G_at rfl _ _ _).trans rfl
theorem mi_95_50 (hu : u < 8) : ms_G 95 50 L (.ref (ms_ad 31 u) :: S) (ms_Z q w I J) = ms_G 95 53 L (.ref (ms_ad 36 u) :: S) (ms_Z q w I J) := mz_getf (c := (2, 36)) rfl hu rfl (by decide) rfl
theorem mi_95_53 : ms_G 95 53 [l0, l1, l2, l3, .int x, l5] S σ = ms_G 95 55 [l0, l1, l2, l3, .int x, l5] (.int x :: S) σ := (ms_G_at rfl _ _ _).trans rfl
theorem mi_95_55 : ms_G 95 55 [l0, l1, l2, l3, l4, .int x] S σ = ms_G 95 57 [l0, l1, l2, l3, l4, .int x] (.int x :: S) σ := (ms_G_at rfl _ _ _).trans rfl
theorem mi_95_57 : ms_G 95 57 L (.int x :: .int (nI i) :: .ref (ms_ad r u) :: S) (ms_Z q w I J) = cond (mo_0 q.1 r u i) (ms_G 95 58 L S (ms_Z q true (ms_u I r u (upd (I r u) i x)) J)) (ms_raw 95 57 L (.int x :: .int (nI i) :: .ref (ms_ad r u) :: S) (ms_Z q w I J)) := mz_iast rfl x
theorem mi_95_58 : ms_G 95 58 [l0, l1, l2, l3, .int x, l5] S σ = ms_G 95 60 [l0, l1, l2, l3, .int x, l5] (.int x :: S) σ := (ms_G_at rfl _ _ _).trans rfl
theorem mi_95_60 : ms_G 95 60 L (.int x :: S) σ = if x = nI 0 then ms_G 95 63 L S σ else ms_G 95 84 L S σ := mz_bra rfl rfl rfl
theorem mi_95_63 : ms_G 95 63 [l0, .ref a, l2, l3, l4, l5] S σ = ms_G 95 64 [l0, .ref a, l2, l3, l4, l5] (.ref a :: S) σ := (ms_G_at rfl _ _ _).trans rfl
theorem mi_95_64 (hu : u < 56) : ms_G 95 64 L (.ref (ms_ad 17 u) :: S) (ms_Z q w I J) = ms_G 95 67 L (.ref (ms_ad 18 u) :: S) (ms_Z q w I J) := mz_getf (c := (2, 18)) rfl hu rfl (by decide) rfl
theorem mi_95_67 : ms_G 95 67 L S σ = ms_G 95 68 L (.int (nI 0) :: S) σ := (ms_G_at rfl _ _ _).trans rfl
theorem mi_95_68 : ms_G 95 68 [.ref a, l1, l2, l3, l4, l5] S σ = ms_G 95 69 [.ref a, l1, l2, l3, l4, l5] (.ref a :: S) σ := (ms_G_at rfl _ _ _).trans rfl
theorem mi_95_69 (hu : u < 8) : ms_G 95 69 L (.ref (ms_ad 31 u) :: S) (ms_Z q w I J) = ms_G 95 72 L (.ref (ms_ad 37 u) :: S) (ms_Z q w I J) := mz_getf (c := (2, 37)) rfl hu rfl (by decide) rfl
theorem mi_95_72 : ms_G 95 72 L S σ = ms_G 95 73 L (.int (nI 0) :: S) σ := (ms_G_at rfl _ _ _).trans rfl
theorem mi_95_73 : ms_G 95 73 [.ref a, l1, l2, l3, l4, l5] S σ = ms_G 95 74 [.ref a, l1, l2, l3, l4, l5] (.ref a :: S) σ := (ms_G_at rfl _ _ _).trans rfl
theorem mi_95_74 (hu : u < 8) : ms_G 95 74 L (.ref (ms_ad 31 u) :: S) (ms_Z q w I J) = ms_G 95 77 L (.ref (ms_ad 37 u) :: S) (ms_Z q w I J) := mz_getf (c := (2, 37)) rfl hu rfl (by decide) rfl
theorem mi_95_77 : ms_G 95 77 L (.ref (ms_ad r u) :: S) (ms_Z q w I J) = cond (mo_3 r u) (ms_G 95 78 L (.int (nI (ms_nr q.1 r u)) :: S) (ms_Z q w I J)) (ms_raw 95 77 L (.ref (ms_ad r u) :: S) (ms_Z q w I J)) := mz_alen rfl
theorem mi_95_78 : ms_G 95 78 L (.int (nI n) :: .int (nI dp) :: .ref (ms_ad r' u') :: .int (nI sp) :: .ref (ms_ad r u) :: []) (ms_Z q w I J) = cond (mo_c q.1 r u r' u' sp dp n) (ms_G 95 81 L [] (ms_Z q true (ms_u I r' u' (va_cpy (I r u) (I r' u') sp dp n)) J)) (ms_raw 95 78 L (.int (nI n) :: .int (nI dp) :: .ref (ms_ad r' u') :: .int (nI sp) :: .ref (ms_ad r u) :: []) (ms_Z q w I J)) := mz_acp rfl (Nat.le_of_ble_eq_true rfl)
theorem mi_95_81 : ms_G 95 81 L S σ = ms_G 95 108 L S σ := (ms_G_at rfl _ _ _).trans rfl
theorem mi_95_84 : ms_G 95 84 [l0, l1, l2, l3, .int x, l5] S σ = ms_G 95 86 [l0, l1, l2, l3, .int x, l5] (.int x :: S) σ := (ms_G_at rfl _ _ _).trans rfl
theorem mi_95_86 : ms_G 95 86 L S σ = ms_G 95 87 L (.int (nI 1) :: S) σ := (ms_G_at rfl _ _ _).trans rfl
theorem mi_95_87 : ms_G 95 87 L (.int y :: .int x :: S) σ = if x = y then ms_G 95 90 L S σ else ms_G 95 108 L S σ := mz_bra rfl rfl rfl
theorem mi_95_90 : ms_G 95 90 [l0, .ref a, l2, l3, l4, l5] S σ = ms_G 95 91 [l0, .ref a, l2, l3, l4, l5] (.ref a :: S) σ := (ms_G_at rfl _ _ _).trans rfl
theorem mi_95_91 (hu : u < 56) : ms_G 95 91 L (.ref (ms_ad 17 u) :: S) (ms_Z q w I J) = ms_G 95 94 L (.ref (ms_ad 18 u) :: S) (ms_Z q w I J) := mz_getf (c := (2, 18)) rfl hu rfl (by decide) rfl
theorem mi_95_94 : ms_G 95 94 L S σ = ms_G 95 95 L (.int (nI 0) :: S) σ := (ms_G_at rfl _ _ _).trans rfl
theorem mi_95_95 : ms_G 95 95 [.ref a, l1, l2, l3, l4, l5] S σ = ms_G 95 96 [.ref a, l1, l2, l3, l4, l5] (.ref a :: S) σ := (ms_G_at rfl _ _ _).trans rfl
theorem mi_95_96 (hu : u < 8) : ms_G 95 96 L (.ref (ms_ad 31 u) :: S) (ms_Z q w I J) = ms_G 95 99 L (.ref (ms_ad 38 u) :: S) (ms_Z q w I J) := mz_getf (c := (2, 38)) rfl hu rfl (by decide) rfl
theorem mi_95_99 : ms_G 95 99 L S σ = ms_G 95 100 L (.int (nI 0) :: S) σ := (ms_G_at rfl _ _ _).trans rfl
theorem mi_95_100 : ms_G 95 100 [.ref a, l1, l2, l3, l4, l5] S σ = ms_G 95 101 [.ref a, l1, l2, l3, l4, l5] (.ref a :: S) σ := (ms_G_at rfl _ _ _).trans rfl
theorem mi_95_101 (hu : u < 8) : ms_G 95 101 L (.ref (ms_ad 31 u) :: S) (ms_Z q w I J) = ms_G 95 104 L (.ref (ms_ad 38 u) :: S) (ms_Z q w I J) := mz_getf (c := (2, 38)) rfl hu rfl (by decide) rfl
theorem mi_95_104 : ms_G 95 104 L (.ref (ms_ad r u) :: S) (ms_Z q w I J) = cond (mo_3 r u) (ms_G 95 105 L (.int (nI (ms_nr q.1 r u)) :: S) (ms_Z q w I J)) (ms_raw 95 104 L (.ref (ms_ad r u) :: S) (ms_Z q w I J)) := mz_alen rfl
theorem mi_95_105 : ms_G 95 105 L (.int (nI n) :: .int (nI dp) :: .ref (ms_ad r' u') :: .int (nI sp) :: .ref (ms_ad r u) :: []) (ms_Z q w I J) = cond (mo_c q.1 r u r' u' sp dp n) (ms_G 95 108 L [] (ms_Z q true (ms_u I r' u' (va_cpy (I r u) (I r' u') sp dp n)) J)) (ms_raw 95 105 L (.int (nI n) :: .int (nI dp) :: .ref (ms_ad r' u') :: .int (nI sp) :: .ref (ms_ad r u) :: []) (ms_Z q w I J)) := mz_acp rfl (Nat.le_of_ble_eq_true rfl)
theorem mi_95_108 : ms_G 95 108 [.ref a, l1, l2, l3, l4, l5] S σ = ms_G 95 109 [.ref a, l1, l2, l3, l4, l5] (.ref a :: S) σ := (ms_G_at rfl _ _ _).trans rfl
theorem mi_95_109 : ms_G 95 109 L (.ref a :: S) σ = ms_G 95 110 L (.ref a :: .ref a :: S) σ := (ms_G_at rfl _ _ _).trans rfl
theorem mi_95_110 (hu : u < 8) : ms_G 95 110 L (.ref (ms_ad 31 u) :: S) (ms_Z q w I J) = ms_G 95 113 L (.int (I 31 u 10) :: S) (ms_Z q w I J) := mz_getf (c := (0, 10)) rfl hu rfl (by decide) rfl
theorem mi_95_113 : ms_G 95 113 L S σ = ms_G 95 114 L (.int (nI 1) :: S) σ := (ms_G_at rfl _ _ _).trans rfl
theorem mi_95_114 : ms_G 95 114 L (.int y :: .int x :: S) σ = ms_G 95 115 L (.int (x + y) :: S) σ := (ms_G_at rfl _ _ _).trans rfl
theorem mi_95_115 (hu : u < 8) : ms_G 95 115 L (.int x :: .ref (ms_ad 31 u) :: S) (ms_Z q w I J) = ms_G 95 118 L S (ms_Z q true (ms_u I 31 u (upd (I 31 u) 10 x)) J) := mz_putf rfl hu rfl (by decide) rfl rfl
theorem mi_95_118 : ms_G 95 118 L S σ = ms_G 95 119 L (.int (nI 1) :: S) σ := (ms_G_at rfl _ _ _).trans rfl
theorem mi_95_119 : ms_G 95 119 L [.int (nI 0)] σ = some (.inl (some (.int (nI 0))), σ) := (ms_G_at rfl _ _ _).trans rfl
theorem mi_95_119_1 : ms_G 95 119 L [.int (nI 1)] σ = some (.inl (some (.int (nI 1))), σ) := (ms_G_at rfl _ _ _).trans rfl
theorem mi_95_119_b (B : Bool) : ms_G 95 119 L [.int (ms_b B)] σ = some (.inl (some (.int (ms_b B))), σ) := by cases B <;> exact (ms_G_at rfl _ _ _).trans rfl
-- MaskedSum$Phone.areGood(IIII)Z
theorem mi_96_0 : ms_G 96 0 [l0, .int x, l2, l3, l4] S σ = ms_G 96 1 [l0, .int x, l2, l3, l4] (.int x :: S) σ := (ms_G_at rfl _ _ _).trans rfl
theorem mi_96_1 : ms_G 96 1 [l0, l1, l2, .int x, l4] S σ = ms_G 96 2 [l0, l1, l2, .int x, l4] (.int x :: S) σ := (ms_G_at rfl _ _ _).trans rfl
theorem mi_96_2 : ms_G 96 2 L (.int y :: .int x :: S) σ = ms_G 96 3 L (.int ((x.toUInt32 >>> (y.toUInt32 &&& Int32.toUInt32 31)).toInt32) :: S) σ := (ms_G_at rfl _ _ _).trans rfl
theorem mi_96_3 : ms_G 96 3 L (.int x :: S) σ = if x = nI 0 then ms_G 96 6 L S σ else ms_G 96 15 L S σ := mz_bra rfl rfl rfl
theorem mi_96_6 : ms_G 96 6 [l0, .int x, l2, l3, l4] S σ = ms_G 96 7 [l0, .int x, l2, l3, l4] (.int x :: S) σ := (ms_G_at rfl _ _ _).trans rfl
theorem mi_96_7 : ms_G 96 7 L [.int x0] (ms_Z q w I J) = mo_cl 96 7 10 (ms_G 146 0 [.int x0] [] (ms_Z q false I J)) w L [] := (mz_call rfl rfl (mz_can0 rfl rfl rfl rfl rfl)).trans rfl
theorem mi_96_10 : ms_G 96 10 [l0, l1, l2, l3, .int x] S σ = ms_G 96 12 [l0, l1, l2, l3, .int x] (.int x :: S) σ := (ms_G_at rfl _ _ _).trans rfl
theorem mi_96_12 : ms_G 96 12 L (.int y :: .int x :: S) σ = if y ≤ x then ms_G 96 17 L S σ else ms_G 96 15 L S σ := mz_bra rfl rfl rfl
theorem mi_96_15 : ms_G 96 15 L S σ = ms_G 96 16 L (.int (nI 0) :: S) σ := (ms_G_at rfl _ _ _).trans rfl
theorem mi_96_16 : ms_G 96 16 L [.int (nI 0)] σ = some (.inl (some (.int (nI 0))), σ) := (ms_G_at rfl _ _ _).trans rfl
theorem mi_96_16_1 : ms_G 96 16 L [.int (nI 1)] σ = some (.inl (some (.int (nI 1))), σ) := (ms_G_at rfl _ _ _).trans rfl
theorem mi_96_16_b (B : Bool) : ms_G 96 16 L [.int (ms_b B)] σ = some (.inl (some (.int (ms_b B))), σ) := by cases B <;> exact (ms_G_at rfl _ _ _).trans rfl
theorem mi_96_17 : ms_G 96 17 [l0, l1, .int x, l3, l4] S σ = ms_G 96 18 [l0, l1, .int x, l3, l4] (.int x :: S) σ := (ms_G_at rfl _ _ _).trans rfl
theorem mi_96_18 : ms_G 96 18 L S σ = ms_G 96 19 L (.int (nI 2) :: S) σ := (ms_G_at rfl _ _ _).trans rfl
theorem mi_96_19 : ms_G 96 19 L (.int y :: .int x :: S) σ = if x = y then ms_G 96 35 L S σ else ms_G 96 22 L S σ := mz_bra rfl rfl rfl
theorem mi_96_22 : ms_G 96 22 [l0, .int x, l2, l3, l4] S σ = ms_G 96 23 [l0, .int x, l2, l3, l4] (.int x :: S) σ := (ms_G_at rfl _ _ _).trans rfl
theorem mi_96_23 : ms_G 96 23 [.ref a, l1, l2, l3, l4] S σ = ms_G 96 24 [.ref a, l1, l2, l3, l4] (.ref a :: S) σ := (ms_G_at rfl _ _ _).trans rfl
theorem mi_96_24 (hu : u < 8) : ms_G 96 24 L (.ref (ms_ad 31 u) :: S) (ms_Z q w I J) = ms_G 96 27 L (.int (nI (ms_sv 3 u)) :: S) (ms_Z q w I J) := mz_getf (c := (3, 3)) rfl hu rfl (by decide) rfl
theorem mi_96_27 : ms_G 96 27 L [.int x1, .int x0] (ms_Z q w I J) = mo_cl 96 27 30 (ms_G 15 0 [.int x0, .int x1] [] (ms_Z q false I J)) w L [] := (mz_call rfl rfl (mz_can0 rfl rfl rfl rfl rfl)).trans rfl
theorem mi_96_30 : ms_G 96 30 L (.int x :: S) σ = if x = nI 0 then ms_G 96 33 L S σ else ms_G 96 35 L S σ := mz_bra rfl rfl rfl
theorem mi_96_33 : ms_G 96 33 L S σ = ms_G 96 34 L (.int (nI 0) :: S) σ := (ms_G_at rfl _ _ _).trans rfl
theorem mi_96_34 : ms_G 96 34 L [.int (nI 0)] σ = some (.inl (some (.int (nI 0))), σ) := (ms_G_at rfl _ _ _).trans rfl
theorem mi_96_34_1 : ms_G 96 34 L [.int (nI 1)] σ = some (.inl (some (.int (nI 1))), σ) := (ms_G_at rfl _ _ _).trans rfl
theorem mi_96_34_b (B : Bool) : ms_G 96 34 L [.int (ms_b B)] σ = some (.inl (some (.int (ms_b B))), σ) := by cases B <;> exact (ms_G_at rfl _ _ _).trans rfl
theorem mi_96_35 : ms_G 96 35 [l0, l1, .int x, l3, l4] S σ = ms_G 96 36 [l0, l1, .int x, l3, l4] (.int x :: S) σ := (ms_G_at rfl _ _ _).trans rfl
theorem mi_96_36 : ms_G 96 36 L (.int x :: S) σ = if x = nI 0 then ms_G 96 54 L S σ else ms_G 96 39 L S σ := mz_bra rfl rfl rfl
theorem mi_96_39 : ms_G 96 39 [l0, .int x, l2, l3, l4] S σ = ms_G 96 40 [l0, .int x, l2, l3, l4] (.int x :: S) σ := (ms_G_at rfl _ _ _).trans rfl
theorem mi_96_40 : ms_G 96 40 [.ref a, l1, l2, l3, l4] S σ = ms_G 96 41 [.ref a, l1, l2, l3, l4] (.ref a :: S) σ := (ms_G_at rfl _ _ _).trans rfl
theorem mi_96_41 (hu : u < 8) : ms_G 96 41 L (.ref (ms_ad 31 u) :: S) (ms_Z q w I J) = ms_G 96 44 L (.ref (ms_ad 36 u) :: S) (ms_Z q w I J) := mz_getf (c := (2, 36)) rfl hu rfl (by decide) rfl
theorem mi_96_44 : ms_G 96 44 [l0, l1, .int x, l3, l4] S σ = ms_G 96 45 [l0, l1, .int x, l3, l4] (.int x :: S) σ := (ms_G_at rfl _ _ _).trans rfl
theorem mi_96_45 : ms_G 96 45 L S σ = ms_G 96 46 L (.int (nI 1) :: S) σ := (ms_G_at rfl _ _ _).trans rfl
theorem mi_96_46 : ms_G 96 46 L (.int y :: .int x :: S) σ = ms_G 96 47 L (.int (x - y) :: S) σ := (ms_G_at rfl _ _ _).trans rfl
theorem mi_96_47 : ms_G 96 47 L (.int (nI i) :: .ref (ms_ad r u) :: S) (ms_Z q w I J) = cond (mo_0 q.1 r u i) (ms_G 96 48 L (.int (I r u i) :: S) (ms_Z q w I J)) (ms_raw 96 47 L (.int (nI i) :: .ref (ms_ad r u) :: S) (ms_Z q w I J)) := mz_iald rfl
theorem mi_96_48 : ms_G 96 48 L S σ = ms_G 96 49 L (.int (-1) :: S) σ := (ms_G_at rfl _ _ _).trans rfl
theorem mi_96_49 : ms_G 96 49 L (.int y :: .int x :: S) σ = ms_G 96 50 L (.int (x ^^^ y) :: S) σ := (ms_G_at rfl _ _ _).trans rfl
theorem mi_96_50 : ms_G 96 50 L (.int y :: .int x :: S) σ = ms_G 96 51 L (.int (x &&& y) :: S) σ := (ms_G_at rfl _ _ _).trans rfl
theorem mi_96_51 : ms_G 96 51 L (.int x :: S) σ = if x = nI 0 then ms_G 96 54 L S σ else ms_G 96 58 L S σ := mz_bra rfl rfl rfl
theorem mi_96_54 : ms_G 96 54 L S σ = ms_G 96 55 L (.int (nI 1) :: S) σ := (ms_G_at rfl _ _ _).trans rfl
theorem mi_96_55 : ms_G 96 55 L S σ = ms_G 96 59 L S σ := (ms_G_at rfl _ _ _).trans rfl
theorem mi_96_58 : ms_G 96 58 L S σ = ms_G 96 59 L (.int (nI 0) :: S) σ := (ms_G_at rfl _ _ _).trans rfl
theorem mi_96_59 : ms_G 96 59 L [.int (nI 0)] σ = some (.inl (some (.int (nI 0))), σ) := (ms_G_at rfl _ _ _).trans rfl
theorem mi_96_59_1 : ms_G 96 59 L [.int (nI 1)] σ = some (.inl (some (.int (nI 1))), σ) := (ms_G_at rfl _ _ _).trans rfl
theorem mi_96_59_b (B : Bool) : ms_G 96 59 L [.int (ms_b B)] σ = some (.inl (some (.int (ms_b B))), σ) := by cases B <;> exact (ms_G_at rfl _ _ _).trans rfl
-- MaskedSum$Phone.sendNext(LMaskedSum$Mail;LMaskedSum$Crypto;I)Z
theorem mi_97_0 : ms_G 97 0 [.ref a, l1, l2, l3, l4] S σ = ms_G 97 1 [.ref a, l1, l2, l3, l4] (.ref a :: S) σ := (ms_G_at rfl _ _ _).trans rfl
theorem mi_97_1 (hu : u < 8) : ms_G 97 1 L (.ref (ms_ad 31 u) :: S) (ms_Z q w I J) = ms_G 97 4 L (.int (I 31 u 9) :: S) (ms_Z q w I J) := mz_getf (c := (0, 9)) rfl hu rfl (by decide) rfl
theorem mi_97_4 : ms_G 97 4 [.ref a, l1, l2, l3, l4] S σ = ms_G 97 5 [.ref a, l1, l2, l3, l4] (.ref a :: S) σ := (ms_G_at rfl _ _ _).trans rfl
theorem mi_97_5 (hu : u < 8) : ms_G 97 5 L (.ref (ms_ad 31 u) :: S) (ms_Z q w I J) = ms_G 97 8 L (.int (I 31 u 10) :: S) (ms_Z q w I J) := mz_getf (c := (0, 10)) rfl hu rfl (by decide) rfl
theorem mi_97_8 : ms_G 97 8 L (.int y :: .int x :: S) σ = if x = y then ms_G 97 11 L S σ else ms_G 97 19 L S σ := mz_bra rfl rfl rfl
theorem mi_97_11 : ms_G 97 11 [.ref a, l1, l2, l3, l4] S σ = ms_G 97 12 [.ref a, l1, l2, l3, l4] (.ref a :: S) σ := (ms_G_at rfl _ _ _).trans rfl
theorem mi_97_12 (hu : u < 8) : ms_G 97 12 L (.ref (ms_ad 31 u) :: S) (ms_Z q w I J) = ms_G 97 15 L (.int (I 31 u 9) :: S) (ms_Z q w I J) := mz_getf (c := (0, 9)) rfl hu rfl (by decide) rfl
theorem mi_97_15 : ms_G 97 15 L S σ = ms_G 97 16 L (.int (nI 4) :: S) σ := (ms_G_at rfl _ _ _).trans rfl
theorem mi_97_16 : ms_G 97 16 L (.int y :: .int x :: S) σ = if x < y then ms_G 97 21 L S σ else ms_G 97 19 L S σ := mz_bra rfl rfl rfl
theorem mi_97_19 : ms_G 97 19 L S σ = ms_G 97 20 L (.int (nI 0) :: S) σ := (ms_G_at rfl _ _ _).trans rfl
theorem mi_97_20 : ms_G 97 20 L [.int (nI 0)] σ = some (.inl (some (.int (nI 0))), σ) := (ms_G_at rfl _ _ _).trans rfl
theorem mi_97_20_1 : ms_G 97 20 L [.int (nI 1)] σ = some (.inl (some (.int (nI 1))), σ) := (ms_G_at rfl _ _ _).trans rfl
theorem mi_97_20_b (B : Bool) : ms_G 97 20 L [.int (ms_b B)] σ = some (.inl (some (.int (ms_b B))), σ) := by cases B <;> exact (ms_G_at rfl _ _ _).trans rfl
theorem mi_97_21 : ms_G 97 21 [l0, .ref a, l2, l3, l4] S σ = ms_G 97 22 [l0, .ref a, l2, l3, l4] (.ref a :: S) σ := (ms_G_at rfl _ _ _).trans rfl
theorem mi_97_22 : ms_G 97 22 [.ref a, l1, l2, l3, l4] S σ = ms_G 97 23 [.ref a, l1, l2, l3, l4] (.ref a :: S) σ := (ms_G_at rfl _ _ _).trans rfl
theorem mi_97_23 (hu : u < 8) : ms_G 97 23 L (.ref (ms_ad 31 u) :: S) (ms_Z q w I J) = ms_G 97 26 L (.int (nI (ms_sv 3 u)) :: S) (ms_Z q w I J) := mz_getf (c := (3, 3)) rfl hu rfl (by decide) rfl
theorem mi_97_26 : ms_G 97 26 [.ref a, l1, l2, l3, l4] S σ = ms_G 97 27 [.ref a, l1, l2, l3, l4] (.ref a :: S) σ := (ms_G_at rfl _ _ _).trans rfl
theorem mi_97_27 (hu : u < 8) : ms_G 97 27 L (.ref (ms_ad 31 u) :: S) (ms_Z q w I J) = ms_G 97 30 L (.int (I 31 u 9) :: S) (ms_Z q w I J) := mz_getf (c := (0, 9)) rfl hu rfl (by decide) rfl
theorem mi_97_30 : ms_G 97 30 L [.int x1, .int x0, .ref (ms_ad 14 0)] (ms_Z q w I J) = mo_cl 97 30 33 (ms_G 79 0 [.ref (ms_ad 14 0), .int x0, .int x1] [] (ms_Z q false I J)) w L [] := (mz_call rfl rfl (mz_can1 rfl rfl rfl rfl rfl (by decide) rfl (by decide))).trans rfl
theorem mi_97_33 : ms_G 97 33 [l0, l1, l2, .int y, l4] (.ref a :: S) σ = ms_G 97 35 [l0, l1, l2, .int y, .ref a] S σ := (ms_G_at rfl _ _ _).trans rfl
theorem mi_97_35 : ms_G 97 35 [.ref a, l1, l2, l3, l4] S σ = ms_G 97 36 [.ref a, l1, l2, l3, l4] (.ref a :: S) σ := (ms_G_at rfl _ _ _).trans rfl
theorem mi_97_36 (hu : u < 8) : ms_G 97 36 L (.ref (ms_ad 31 u) :: S) (ms_Z q w I J) = ms_G 97 39 L (.int (I 31 u 9) :: S) (ms_Z q w I J) := mz_getf (c := (0, 9)) rfl hu rfl (by decide) rfl
theorem mi_97_39_c0 : ms_G 97 39 L (.int (nI 0) :: S) σ = ms_G 97 64 L S σ := (ms_G_at rfl _ _ _).trans rfl
theorem mi_97_39_c1 : ms_G 97 39 L (.int (nI 1) :: S) σ = ms_G 97 73 L S σ := (ms_G_at rfl _ _ _).trans rfl
theorem mi_97_39_c2 : ms_G 97 39 L (.int (nI 2) :: S) σ = ms_G 97 89 L S σ := (ms_G_at rfl _ _ _).trans rfl
theorem mi_97_39_d (hx : x.toInt < 0 ∨ 2 < x.toInt) : ms_G 97 39 L (.int x :: S) σ = ms_G 97 99 L S σ := mz_sw rfl hx
theorem mi_97_64 : ms_G 97 64 [.ref a, l1, l2, l3, l4] S σ = ms_G 97 65 [.ref a, l1, l2, l3, l4] (.ref a :: S) σ := (ms_G_at rfl _ _ _).trans rfl
theorem mi_97_65 : ms_G 97 65 [l0, l1, l2, l3, .ref a] S σ = ms_G 97 67 [l0, l1, l2, l3, .ref a] (.ref a :: S) σ := (ms_G_at rfl _ _ _).trans rfl
theorem mi_97_67 (hu : u < 8) : ms_G 97 67 L [.ref a0, .ref (ms_ad 31 u)] (ms_Z q w I J) = mo_cl 97 67 70 (ms_G 98 0 [.ref (ms_ad 31 u), .ref a0] [] (ms_Z q false I J)) w L [] := (mz_call rfl rfl (mz_can1 rfl rfl rfl rfl rfl hu rfl (by decide))).trans rfl
theorem mi_97_70 : ms_G 97 70 L S σ = ms_G 97 106 L S σ := (ms_G_at rfl _ _ _).trans rfl
theorem mi_97_73 : ms_G 97 73 [.ref a, l1, l2, l3, l4] S σ = ms_G 97 74 [.ref a, l1, l2, l3, l4] (.ref a :: S) σ := (ms_G_at rfl _ _ _).trans rfl
theorem mi_97_74 : ms_G 97 74 [l0, l1, .ref a, l3, l4] S σ = ms_G 97 75 [l0, l1, .ref a, l3, l4] (.ref a :: S) σ := (ms_G_at rfl _ _ _).trans rfl
theorem mi_97_75 : ms_G 97 75 [l0, l1, l2, .int x, l4] S σ = ms_G 97 76 [l0, l1, l2, .int x, l4] (.int x :: S) σ := (ms_G_at rfl _ _ _).trans rfl
theorem mi_97_76 (hu : u < 8) : ms_G 97 76 L [.int x1, .ref a0, .ref (ms_ad 31 u)] (ms_Z q w I J) = mo_cl 97 76 79 (ms_G 99 0 [.ref (ms_ad 31 u), .ref a0, .int x1, .null, .null] [] (ms_Z q false I J)) w L [] := (mz_call rfl rfl (mz_can1 rfl rfl rfl rfl rfl hu rfl (by decide))).trans rfl
theorem mi_97_79 : ms_G 97 79 [.ref a, l1, l2, l3, l4] S σ = ms_G 97 80 [.ref a, l1, l2, l3, l4] (.ref a :: S) σ := (ms_G_at rfl _ _ _).trans rfl
theorem mi_97_80 : ms_G 97 80 [l0, l1, l2, l3, .ref a] S σ = ms_G 97 82 [l0, l1, l2, l3, .ref a] (.ref a :: S) σ := (ms_G_at rfl _ _ _).trans rfl
theorem mi_97_82 : ms_G 97 82 [l0, l1, .ref a, l3, l4] S σ = ms_G 97 83 [l0, l1, .ref a, l3, l4] (.ref a :: S) σ := (ms_G_at rfl _ _ _).trans rfl
theorem mi_97_83 (hu : u < 8) : ms_G 97 83 L [.ref a1, .ref a0, .ref (ms_ad 31 u)] (ms_Z q w I J) = mo_cl 97 83 86 (ms_G 100 0 [.ref (ms_ad 31 u), .ref a0, .ref a1, .null, .null] [] (ms_Z q false I J)) w L [] := (mz_call rfl rfl (mz_can1 rfl rfl rfl rfl rfl hu rfl (by decide))).trans rfl
theorem mi_97_86 : ms_G 97 86 L S σ = ms_G 97 106 L S σ := (ms_G_at rfl _ _ _).trans rfl
theorem mi_97_89 : ms_G 97 89 [.ref a, l1, l2, l3, l4] S σ = ms_G 97 90 [.ref a, l1, l2, l3, l4] (.ref a :: S) σ := (ms_G_at rfl _ _ _).trans rfl
theorem mi_97_90 : ms_G 97 90 [l0, l1, l2, l3, .ref a] S σ = ms_G 97 92 [l0, l1, l2, l3, .ref a] (.ref a :: S) σ := (ms_G_at rfl _ _ _).trans rfl
theorem mi_97_92 : ms_G 97 92 [l0, l1, .ref a, l3, l4] S σ = ms_G 97 93 [l0, l1, .ref a, l3, l4] (.ref a :: S) σ := (ms_G_at rfl _ _ _).trans rfl
theorem mi_97_93 (hu : u < 8) : ms_G 97 93 L [.ref a1, .ref a0, .ref (ms_ad 31 u)] (ms_Z q w I J) = mo_cl 97 93 96 (ms_G 101 0 [.ref (ms_ad 31 u), .ref a0, .ref a1, .null] [] (ms_Z q false I J)) w L [] := (mz_call rfl rfl (mz_can1 rfl rfl rfl rfl rfl hu rfl (by decide))).trans rfl
theorem mi_97_96 : ms_G 97 96 L S σ = ms_G 97 106 L S σ := (ms_G_at rfl _ _ _).trans rfl
theorem mi_97_99 : ms_G 97 99 [.ref a, l1, l2, l3, l4] S σ = ms_G 97 100 [.ref a, l1, l2, l3, l4] (.ref a :: S) σ := (ms_G_at rfl _ _ _).trans rfl
theorem mi_97_100 : ms_G 97 100 [l0, l1, l2, l3, .ref a] S σ = ms_G 97 102 [l0, l1, l2, l3, .ref a] (.ref a :: S) σ := (ms_G_at rfl _ _ _).trans rfl
theorem mi_97_102 : ms_G 97 102 [l0, l1, .ref a, l3, l4] S σ = ms_G 97 103 [l0, l1, .ref a, l3, l4] (.ref a :: S) σ := (ms_G_at rfl _ _ _).trans rfl
theorem mi_97_103 (hu : u < 8) : ms_G 97 103 L [.ref a1, .ref a0, .ref (ms_ad 31 u)] (ms_Z q w I J) = mo_cl 97 103 106 (ms_G 102 0 [.ref (ms_ad 31 u), .ref a0, .ref a1, .null] [] (ms_Z q false I J)) w L [] := (mz_call rfl rfl (mz_can1 rfl rfl rfl rfl rfl hu rfl (by decide))).trans rfl
theorem mi_97_106 : ms_G 97 106 [.ref a, l1, l2, l3, l4] S σ = ms_G 97 107 [.ref a, l1, l2, l3, l4] (.ref a :: S) σ := (ms_G_at rfl _ _ _).trans rfl
theorem mi_97_107 : ms_G 97 107 L (.ref a :: S) σ = ms_G 97 108 L (.ref a :: .ref a :: S) σ := (ms_G_at rfl _ _ _).trans rfl
theorem mi_97_108 (hu : u < 8) : ms_G 97 108 L (.ref (ms_ad 31 u) :: S) (ms_Z q w I J) = ms_G 97 111 L (.int (I 31 u 9) :: S) (ms_Z q w I J) := mz_getf (c := (0, 9)) rfl hu rfl (by decide) rfl
theorem mi_97_111 : ms_G 97 111 L S σ = ms_G 97 112 L (.int (nI 1) :: S) σ := (ms_G_at rfl _ _ _).trans rfl
theorem mi_97_112 : ms_G 97 112 L (.int y :: .int x :: S) σ = ms_G 97 113 L (.int (x + y) :: S) σ := (ms_G_at rfl _ _ _).trans rfl
theorem mi_97_113 (hu : u < 8) : ms_G 97 113 L (.int x :: .ref (ms_ad 31 u) :: S) (ms_Z q w I J) = ms_G 97 116 L S (ms_Z q true (ms_u I 31 u (upd (I 31 u) 9 x)) J) := mz_putf rfl hu rfl (by decide) rfl rfl
theorem mi_97_116 : ms_G 97 116 L S σ = ms_G 97 117 L (.int (nI 1) :: S) σ := (ms_G_at rfl _ _ _).trans rfl
theorem mi_97_117 : ms_G 97 117 L [.int (nI 0)] σ = some (.inl (some (.int (nI 0))), σ) := (ms_G_at rfl _ _ _).trans rfl
theorem mi_97_117_1 : ms_G 97 117 L [.int (nI 1)] σ = some (.inl (some (.int (nI 1))), σ) := (ms_G_at rfl _ _ _).trans rfl
theorem mi_97_117_b (B : Bool) : ms_G 97 117 L [.int (ms_b B)] σ = some (.inl (some (.int (ms_b B))), σ) := by cases B <;> exact (ms_G_at rfl _ _ _).trans rfl
-- MaskedSum$Phone.writeKeys([I)V
theorem mi_98_0 : ms_G 98 0 L S σ = ms_G 98 3 L (.long (lN 37) :: S) σ := (ms_G_at rfl _ _ _).trans rfl
theorem mi_98_3 : ms_G 98 3 [.ref a, l1] S σ = ms_G 98 4 [.ref a, l1] (.ref a :: S) σ := (ms_G_at rfl _ _ _).trans rfl
theorem mi_98_4 (hu : u < 8) : ms_G 98 4 L (.ref (ms_ad 31 u) :: S) (ms_Z q w I J) = ms_G 98 7 L (.ref (ms_ad 32 u) :: S) (ms_Z q w I J) := mz_getf (c := (2, 32)) rfl hu rfl (by decide) rfl
theorem mi_98_7 : ms_G 98 7 L S σ = ms_G 98 8 L (.int (nI 0) :: S) σ := (ms_G_at rfl _ _ _).trans rfl
theorem mi_98_8 : ms_G 98 8 L (.int (nI i) :: .ref (ms_ad r u) :: S) (ms_Z q w I J) = cond (mo_1 q.1 r u i) (ms_G 98 9 L (.long (J r u i) :: S) (ms_Z q w I J)) (ms_raw 98 8 L (.int (nI i) :: .ref (ms_ad r u) :: S) (ms_Z q w I J)) := mz_lald rfl
theorem mi_98_9 : ms_G 98 9 L [.long X1, .long X0] (ms_Z q w I J) = mo_cl 98 9 12 (ms_G 91 0 [.long X0, .null, .long X1, .null, .null, .null, .null, .null, .null] [] (ms_Z q false I J)) w L [] := (mz_call rfl rfl (mz_can0 rfl rfl rfl rfl rfl)).trans rfl
theorem mi_98_12 : ms_G 98 12 [l0, .ref a] S σ = ms_G 98 13 [l0, .ref a] (.ref a :: S) σ := (ms_G_at rfl _ _ _).trans rfl
theorem mi_98_13 : ms_G 98 13 L S σ = ms_G 98 14 L (.int (nI 0) :: S) σ := (ms_G_at rfl _ _ _).trans rfl
theorem mi_98_14 : ms_G 98 14 L [.int x2, .ref a1, .long X0] (ms_Z q w I J) = mo_cl 98 14 17 (ms_G 86 0 [.long X0, .null, .ref a1, .int x2] [] (ms_Z q false I J)) w L [] := (mz_call rfl rfl (mz_can0 rfl rfl rfl rfl rfl)).trans rfl
theorem mi_98_17 : ms_G 98 17 L S σ = ms_G 98 20 L (.long (lN 37) :: S) σ := (ms_G_at rfl _ _ _).trans rfl
theorem mi_98_20 : ms_G 98 20 [.ref a, l1] S σ = ms_G 98 21 [.ref a, l1] (.ref a :: S) σ := (ms_G_at rfl _ _ _).trans rfl
theorem mi_98_21 (hu : u < 8) : ms_G 98 21 L (.ref (ms_ad 31 u) :: S) (ms_Z q w I J) = ms_G 98 24 L (.ref (ms_ad 32 u) :: S) (ms_Z q w I J) := mz_getf (c := (2, 32)) rfl hu rfl (by decide) rfl
theorem mi_98_24 : ms_G 98 24 L S σ = ms_G 98 25 L (.int (nI 1) :: S) σ := (ms_G_at rfl _ _ _).trans rfl
theorem mi_98_25 : ms_G 98 25 L (.int (nI i) :: .ref (ms_ad r u) :: S) (ms_Z q w I J) = cond (mo_1 q.1 r u i) (ms_G 98 26 L (.long (J r u i) :: S) (ms_Z q w I J)) (ms_raw 98 25 L (.int (nI i) :: .ref (ms_ad r u) :: S) (ms_Z q w I J)) := mz_lald rfl
theorem mi_98_26 : ms_G 98 26 L [.long X1, .long X0] (ms_Z q w I J) = mo_cl 98 26 29 (ms_G 91 0 [.long X0, .null, .long X1, .null, .null, .null, .null, .null, .null] [] (ms_Z q false I J)) w L [] := (mz_call rfl rfl (mz_can0 rfl rfl rfl rfl rfl)).trans rfl
theorem mi_98_29 : ms_G 98 29 [l0, .ref a] S σ = ms_G 98 30 [l0, .ref a] (.ref a :: S) σ := (ms_G_at rfl _ _ _).trans rfl
theorem mi_98_30 : ms_G 98 30 L S σ = ms_G 98 31 L (.int (nI 2) :: S) σ := (ms_G_at rfl _ _ _).trans rfl
theorem mi_98_31 : ms_G 98 31 L [.int x2, .ref a1, .long X0] (ms_Z q w I J) = mo_cl 98 31 34 (ms_G 86 0 [.long X0, .null, .ref a1, .int x2] [] (ms_Z q false I J)) w L [] := (mz_call rfl rfl (mz_can0 rfl rfl rfl rfl rfl)).trans rfl
theorem mi_98_34 : ms_G 98 34 L [] σ = some (.inl none, σ) := (ms_G_at rfl _ _ _).trans rfl
-- MaskedSum$Phone.makeShares(LMaskedSum$Crypto;I)V
theorem mi_99_0 : ms_G 99 0 [l0, .ref a, l2, l3, l4] S σ = ms_G 99 1 [l0, .ref a, l2, l3, l4] (.ref a :: S) σ := (ms_G_at rfl _ _ _).trans rfl
theorem mi_99_1 : ms_G 99 1 [.ref a, l1, l2, l3, l4] S σ = ms_G 99 2 [.ref a, l1, l2, l3, l4] (.ref a :: S) σ := (ms_G_at rfl _ _ _).trans rfl
theorem mi_99_2 (hu : u < 8) : ms_G 99 2 L (.ref (ms_ad 31 u) :: S) (ms_Z q w I J) = ms_G 99 5 L (.ref (ms_ad 32 u) :: S) (ms_Z q w I J) := mz_getf (c := (2, 32)) rfl hu rfl (by decide) rfl
theorem mi_99_5 : ms_G 99 5 L S σ = ms_G 99 6 L (.int (nI 2) :: S) σ := (ms_G_at rfl _ _ _).trans rfl
theorem mi_99_6 : ms_G 99 6 L (.int (nI i) :: .ref (ms_ad r u) :: S) (ms_Z q w I J) = cond (mo_1 q.1 r u i) (ms_G 99 7 L (.long (J r u i) :: S) (ms_Z q w I J)) (ms_raw 99 6 L (.int (nI i) :: .ref (ms_ad r u) :: S) (ms_Z q w I J)) := mz_lald rfl
theorem mi_99_7 : ms_G 99 7 L S σ = ms_G 99 8 L (.int (nI 2) :: S) σ := (ms_G_at rfl _ _ _).trans rfl
theorem mi_99_8 : ms_G 99 8 [.ref a, l1, l2, l3, l4] S σ = ms_G 99 9 [.ref a, l1, l2, l3, l4] (.ref a :: S) σ := (ms_G_at rfl _ _ _).trans rfl
theorem mi_99_9 (hu : u < 8) : ms_G 99 9 L (.ref (ms_ad 31 u) :: S) (ms_Z q w I J) = ms_G 99 12 L (.int (nI (ms_sv 3 u)) :: S) (ms_Z q w I J) := mz_getf (c := (3, 3)) rfl hu rfl (by decide) rfl
theorem mi_99_12 : ms_G 99 12 L S σ = ms_G 99 13 L (.int (nI 0) :: S) σ := (ms_G_at rfl _ _ _).trans rfl
theorem mi_99_13 : ms_G 99 13 L [.int x3, .int x2, .int x1, .long X0, .ref (ms_ad 4 0)] (ms_Z q w I J) = mo_cl 99 13 16 (ms_G 69 0 [.ref (ms_ad 4 0), .long X0, .null, .int x1, .int x2, .int x3] [] (ms_Z q false I J)) w L [] := (mz_call rfl rfl (mz_can1 rfl rfl rfl rfl rfl (by decide) rfl (by decide))).trans rfl
theorem mi_99_16 : ms_G 99 16 [l0, l1, .int y, l3, l4] (.ref a :: S) σ = ms_G 99 17 [l0, l1, .int y, .ref a, l4] S σ := (ms_G_at rfl _ _ _).trans rfl
theorem mi_99_17 : ms_G 99 17 L S σ = ms_G 99 18 L (.int (nI 0) :: S) σ := (ms_G_at rfl _ _ _).trans rfl
theorem mi_99_18 : ms_G 99 18 [l0, l1, l2, .ref b, l4] (.int x :: S) σ = ms_G 99 20 [l0, l1, l2, .ref b, .int x] S σ := (ms_G_at rfl _ _ _).trans rfl
theorem mi_99_20 : ms_G 99 20 [l0, l1, l2, l3, .int x] S σ = ms_G 99 22 [l0, l1, l2, l3, .int x] (.int x :: S) σ := (ms_G_at rfl _ _ _).trans rfl
theorem mi_99_22 : ms_G 99 22 L S σ = ms_G 99 24 L (.int (nI 8) :: S) σ := (ms_G_at rfl _ _ _).trans rfl
theorem mi_99_24 : ms_G 99 24 L (.int y :: .int x :: S) σ = if y ≤ x then ms_G 99 53 L S σ else ms_G 99 27 L S σ := mz_bra rfl rfl rfl
theorem mi_99_27 : ms_G 99 27 [.ref a, l1, l2, l3, l4] S σ = ms_G 99 28 [.ref a, l1, l2, l3, l4] (.ref a :: S) σ := (ms_G_at rfl _ _ _).trans rfl
theorem mi_99_28 (hu : u < 8) : ms_G 99 28 L (.ref (ms_ad 31 u) :: S) (ms_Z q w I J) = ms_G 99 31 L (.ref (ms_ad 35 u) :: S) (ms_Z q w I J) := mz_getf (c := (2, 35)) rfl hu rfl (by decide) rfl
theorem mi_99_31 : ms_G 99 31 [l0, l1, l2, l3, .int x] S σ = ms_G 99 33 [l0, l1, l2, l3, .int x] (.int x :: S) σ := (ms_G_at rfl _ _ _).trans rfl
theorem mi_99_33 : ms_G 99 33 [.ref a, l1, l2, l3, l4] S σ = ms_G 99 34 [.ref a, l1, l2, l3, l4] (.ref a :: S) σ := (ms_G_at rfl _ _ _).trans rfl
theorem mi_99_34 (hu : u < 8) : ms_G 99 34 L (.ref (ms_ad 31 u) :: S) (ms_Z q w I J) = ms_G 99 37 L (.ref (ms_ad 32 u) :: S) (ms_Z q w I J) := mz_getf (c := (2, 32)) rfl hu rfl (by decide) rfl
theorem mi_99_37 : ms_G 99 37 L S σ = ms_G 99 38 L (.int (nI 0) :: S) σ := (ms_G_at rfl _ _ _).trans rfl
theorem mi_99_38 : ms_G 99 38 L (.int (nI i) :: .ref (ms_ad r u) :: S) (ms_Z q w I J) = cond (mo_1 q.1 r u i) (ms_G 99 39 L (.long (J r u i) :: S) (ms_Z q w I J)) (ms_raw 99 38 L (.int (nI i) :: .ref (ms_ad r u) :: S) (ms_Z q w I J)) := mz_lald rfl
theorem mi_99_39 : ms_G 99 39 [l0, l1, l2, .ref a, l4] S σ = ms_G 99 40 [l0, l1, l2, .ref a, l4] (.ref a :: S) σ := (ms_G_at rfl _ _ _).trans rfl
theorem mi_99_40 : ms_G 99 40 [l0, l1, .int x, l3, l4] S σ = ms_G 99 41 [l0, l1, .int x, l3, l4] (.int x :: S) σ := (ms_G_at rfl _ _ _).trans rfl
theorem mi_99_41 : ms_G 99 41 [l0, l1, l2, l3, .int x] S σ = ms_G 99 43 [l0, l1, l2, l3, .int x] (.int x :: S) σ := (ms_G_at rfl _ _ _).trans rfl
theorem mi_99_43 : ms_G 99 43 L (.int x3 :: .int x2 :: .ref a1 :: .long X0 :: [.int e0, .ref g1]) (ms_Z q w I J) = mo_cl 99 43 46 (ms_G 131 0 [.long X0, .null, .ref a1, .int x2, .int x3, .null, .null, .null, .null, .null] [] (ms_Z q false I J)) w L [.int e0, .ref g1] := (mz_call rfl rfl (mz_can0 rfl rfl rfl rfl rfl)).trans rfl
theorem mi_99_46 : ms_G 99 46 L (.long X :: .int (nI i) :: .ref (ms_ad r u) :: S) (ms_Z q w I J) = cond (mo_1 q.1 r u i) (ms_G 99 47 L S (ms_Z q true I (ms_u J r u (vp_updL (J r u) i X)))) (ms_raw 99 46 L (.long X :: .int (nI i) :: .ref (ms_ad r u) :: S) (ms_Z q w I J)) := mz_last rfl X
theorem mi_99_47 : ms_G 99 47 [l0, l1, l2, .ref b, .int x] S σ = ms_G 99 50 [l0, l1, l2, .ref b, .int (x + nI 1)] S σ := (ms_G_at rfl _ _ _).trans rfl
theorem mi_99_50 : ms_G 99 50 L S σ = ms_G 99 20 L S σ := (ms_G_at rfl _ _ _).trans rfl
theorem mi_99_53 : ms_G 99 53 [l0, .ref a, l2, l3, l4] S σ = ms_G 99 54 [l0, .ref a, l2, l3, l4] (.ref a :: S) σ := (ms_G_at rfl _ _ _).trans rfl
theorem mi_99_54 : ms_G 99 54 [.ref a, l1, l2, l3, l4] S σ = ms_G 99 55 [.ref a, l1, l2, l3, l4] (.ref a :: S) σ := (ms_G_at rfl _ _ _).trans rfl
theorem mi_99_55 (hu : u < 8) : ms_G 99 55 L (.ref (ms_ad 31 u) :: S) (ms_Z q w I J) = ms_G 99 58 L (.ref (ms_ad 32 u) :: S) (ms_Z q w I J) := mz_getf (c := (2, 32)) rfl hu rfl (by decide) rfl
theorem mi_99_58 : ms_G 99 58 L S σ = ms_G 99 59 L (.int (nI 2) :: S) σ := (ms_G_at rfl _ _ _).trans rfl
theorem mi_99_59 : ms_G 99 59 L (.int (nI i) :: .ref (ms_ad r u) :: S) (ms_Z q w I J) = cond (mo_1 q.1 r u i) (ms_G 99 60 L (.long (J r u i) :: S) (ms_Z q w I J)) (ms_raw 99 59 L (.int (nI i) :: .ref (ms_ad r u) :: S) (ms_Z q w I J)) := mz_lald rfl
theorem mi_99_60 : ms_G 99 60 L S σ = ms_G 99 61 L (.int (nI 3) :: S) σ := (ms_G_at rfl _ _ _).trans rfl
theorem mi_99_61 : ms_G 99 61 [.ref a, l1, l2, l3, l4] S σ = ms_G 99 62 [.ref a, l1, l2, l3, l4] (.ref a :: S) σ := (ms_G_at rfl _ _ _).trans rfl
theorem mi_99_62 (hu : u < 8) : ms_G 99 62 L (.ref (ms_ad 31 u) :: S) (ms_Z q w I J) = ms_G 99 65 L (.int (nI (ms_sv 3 u)) :: S) (ms_Z q w I J) := mz_getf (c := (3, 3)) rfl hu rfl (by decide) rfl
theorem mi_99_65 : ms_G 99 65 L S σ = ms_G 99 66 L (.int (nI 0) :: S) σ := (ms_G_at rfl _ _ _).trans rfl
theorem mi_99_66 : ms_G 99 66 L [.int x3, .int x2, .int x1, .long X0, .ref (ms_ad 4 0)] (ms_Z q w I J) = mo_cl 99 66 69 (ms_G 69 0 [.ref (ms_ad 4 0), .long X0, .null, .int x1, .int x2, .int x3] [] (ms_Z q false I J)) w L [] := (mz_call rfl rfl (mz_can1 rfl rfl rfl rfl rfl (by decide) rfl (by decide))).trans rfl
theorem mi_99_69 : ms_G 99 69 [l0, l1, .int y, l3, l4] (.ref a :: S) σ = ms_G 99 70 [l0, l1, .int y, .ref a, l4] S σ := (ms_G_at rfl _ _ _).trans rfl
theorem mi_99_70 : ms_G 99 70 L S σ = ms_G 99 71 L (.int (nI 0) :: S) σ := (ms_G_at rfl _ _ _).trans rfl
theorem mi_99_71 : ms_G 99 71 [l0, l1, l2, .ref b, l4] (.int x :: S) σ = ms_G 99 73 [l0, l1, l2, .ref b, .int x] S σ := (ms_G_at rfl _ _ _).trans rfl
theorem mi_99_73 : ms_G 99 73 [l0, l1, l2, l3, .int x] S σ = ms_G 99 75 [l0, l1, l2, l3, .int x] (.int x :: S) σ := (ms_G_at rfl _ _ _).trans rfl
theorem mi_99_75 : ms_G 99 75 L S σ = ms_G 99 77 L (.int (nI 8) :: S) σ := (ms_G_at rfl _ _ _).trans rfl
theorem mi_99_77 : ms_G 99 77 L (.int y :: .int x :: S) σ = if y ≤ x then ms_G 99 106 L S σ else ms_G 99 80 L S σ := mz_bra rfl rfl rfl
theorem mi_99_80 : ms_G 99 80 [.ref a, l1, l2, l3, l4] S σ = ms_G 99 81 [.ref a, l1, l2, l3, l4] (.ref a :: S) σ := (ms_G_at rfl _ _ _).trans rfl
theorem mi_99_81 (hu : u < 8) : ms_G 99 81 L (.ref (ms_ad 31 u) :: S) (ms_Z q w I J) = ms_G 99 84 L (.ref (ms_ad 34 u) :: S) (ms_Z q w I J) := mz_getf (c := (2, 34)) rfl hu rfl (by decide) rfl
theorem mi_99_84 : ms_G 99 84 [l0, l1, l2, l3, .int x] S σ = ms_G 99 86 [l0, l1, l2, l3, .int x] (.int x :: S) σ := (ms_G_at rfl _ _ _).trans rfl
theorem mi_99_86 : ms_G 99 86 [.ref a, l1, l2, l3, l4] S σ = ms_G 99 87 [.ref a, l1, l2, l3, l4] (.ref a :: S) σ := (ms_G_at rfl _ _ _).trans rfl
theorem mi_99_87 (hu : u < 8) : ms_G 99 87 L (.ref (ms_ad 31 u) :: S) (ms_Z q w I J) = ms_G 99 90 L (.ref (ms_ad 32 u) :: S) (ms_Z q w I J) := mz_getf (c := (2, 32)) rfl hu rfl (by decide) rfl
theorem mi_99_90 : ms_G 99 90 L S σ = ms_G 99 91 L (.int (nI 2) :: S) σ := (ms_G_at rfl _ _ _).trans rfl
theorem mi_99_91 : ms_G 99 91 L (.int (nI i) :: .ref (ms_ad r u) :: S) (ms_Z q w I J) = cond (mo_1 q.1 r u i) (ms_G 99 92 L (.long (J r u i) :: S) (ms_Z q w I J)) (ms_raw 99 91 L (.int (nI i) :: .ref (ms_ad r u) :: S) (ms_Z q w I J)) := mz_lald rfl
theorem mi_99_92 : ms_G 99 92 [l0, l1, l2, .ref a, l4] S σ = ms_G 99 93 [l0, l1, l2, .ref a, l4] (.ref a :: S) σ := (ms_G_at rfl _ _ _).trans rfl
theorem mi_99_93 : ms_G 99 93 [l0, l1, .int x, l3, l4] S σ = ms_G 99 94 [l0, l1, .int x, l3, l4] (.int x :: S) σ := (ms_G_at rfl _ _ _).trans rfl
theorem mi_99_94 : ms_G 99 94 [l0, l1, l2, l3, .int x] S σ = ms_G 99 96 [l0, l1, l2, l3, .int x] (.int x :: S) σ := (ms_G_at rfl _ _ _).trans rfl
theorem mi_99_96 : ms_G 99 96 L (.int x3 :: .int x2 :: .ref a1 :: .long X0 :: [.int e0, .ref g1]) (ms_Z q w I J) = mo_cl 99 96 99 (ms_G 131 0 [.long X0, .null, .ref a1, .int x2, .int x3, .null, .null, .null, .null, .null] [] (ms_Z q false I J)) w L [.int e0, .ref g1] := (mz_call rfl rfl (mz_can0 rfl rfl rfl rfl rfl)).trans rfl
theorem mi_99_99 : ms_G 99 99 L (.long X :: .int (nI i) :: .ref (ms_ad r u) :: S) (ms_Z q w I J) = cond (mo_1 q.1 r u i) (ms_G 99 100 L S (ms_Z q true I (ms_u J r u (vp_updL (J r u) i X)))) (ms_raw 99 99 L (.long X :: .int (nI i) :: .ref (ms_ad r u) :: S) (ms_Z q w I J)) := mz_last rfl X
theorem mi_99_100 : ms_G 99 100 [l0, l1, l2, .ref b, .int x] S σ = ms_G 99 103 [l0, l1, l2, .ref b, .int (x + nI 1)] S σ := (ms_G_at rfl _ _ _).trans rfl
theorem mi_99_103 : ms_G 99 103 L S σ = ms_G 99 73 L S σ := (ms_G_at rfl _ _ _).trans rfl
theorem mi_99_106 : ms_G 99 106 L [] σ = some (.inl none, σ) := (ms_G_at rfl _ _ _).trans rfl
end MsI
