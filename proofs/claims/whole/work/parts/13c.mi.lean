/-! ONE LEMMA AN INSTRUCTION, by gen3.py. -/
section MsI
variable {l0 l1 l2 l3 l4 l5 l6 l7 l8 l9 l10 l11 l12 l13 l14 l15 l16 l17 : Value} {L S : List Value} {σ : ms_M} {q : Nat × Nat} {w B : Bool} {I : ms_i} {J : ms_j} {r u r' u' i sp dp n a b a0 a1 a2 a3 a4 a5 a6 a7 g0 g1 g2 g3 g4 g5 g6 g7 : Nat}
variable {x y x0 x1 x2 x3 x4 x5 x6 x7 e0 e1 e2 e3 e4 e5 e6 e7 : Int32} {X Y X0 X1 X2 X3 X4 X5 X6 X7 f0 f1 f2 f3 f4 f5 f6 f7 : Int64}
-- MaskedSumModel.sendMasked(I)V
theorem mi_47_0 : ms_G 47 0 [.ref a, l1, l2, l3, l4, l5, l6, l7] S σ = ms_G 47 1 [.ref a, l1, l2, l3, l4, l5, l6, l7] (.ref a :: S) σ := (ms_G_at rfl _ _ _).trans rfl
theorem mi_47_1 : ms_G 47 1 L S σ = ms_G 47 2 L (.int (nI 2) :: S) σ := (ms_G_at rfl _ _ _).trans rfl
theorem mi_47_2 : ms_G 47 2 [l0, .int x, l2, l3, l4, l5, l6, l7] S σ = ms_G 47 3 [l0, .int x, l2, l3, l4, l5, l6, l7] (.int x :: S) σ := (ms_G_at rfl _ _ _).trans rfl
theorem mi_47_3 : ms_G 47 3 L S σ = ms_G 47 4 L (.int (nI 0) :: S) σ := (ms_G_at rfl _ _ _).trans rfl
theorem mi_47_4 : ms_G 47 4 L S σ = ms_G 47 5 L (.int (nI 4) :: S) σ := (ms_G_at rfl _ _ _).trans rfl
theorem mi_47_5 : ms_G 47 5 L [.int x3, .int x2, .int x1, .int x0, .ref (ms_ad 40 0)] (ms_Z q w I J) = mo_cl 47 5 8 (ms_G 40 0 [.ref (ms_ad 40 0), .int x0, .int x1, .int x2, .int x3, .null, .null] [] (ms_Z q false I J)) w L [] := (mz_call rfl rfl (mz_can1 rfl rfl rfl rfl rfl (by decide) rfl (by decide))).trans rfl
theorem mi_47_8 : ms_G 47 8 [l0, .int y, l2, l3, l4, l5, l6, l7] (.int x :: S) σ = ms_G 47 9 [l0, .int y, .int x, l3, l4, l5, l6, l7] S σ := (ms_G_at rfl _ _ _).trans rfl
theorem mi_47_9 : ms_G 47 9 L S σ = ms_G 47 10 L (.int (nI 0) :: S) σ := (ms_G_at rfl _ _ _).trans rfl
theorem mi_47_10 : ms_G 47 10 [l0, l1, .int y, l3, l4, l5, l6, l7] (.int x :: S) σ = ms_G 47 11 [l0, l1, .int y, .int x, l4, l5, l6, l7] S σ := (ms_G_at rfl _ _ _).trans rfl
theorem mi_47_11 : ms_G 47 11 [l0, l1, l2, .int x, l4, l5, l6, l7] S σ = ms_G 47 12 [l0, l1, l2, .int x, l4, l5, l6, l7] (.int x :: S) σ := (ms_G_at rfl _ _ _).trans rfl
theorem mi_47_12 : ms_G 47 12 L S σ = ms_G 47 13 L (.int (nI 4) :: S) σ := (ms_G_at rfl _ _ _).trans rfl
theorem mi_47_13 : ms_G 47 13 L (.int y :: .int x :: S) σ = if y ≤ x then ms_G 47 58 L S σ else ms_G 47 16 L S σ := mz_bra rfl rfl rfl
theorem mi_47_16 : ms_G 47 16 [.ref a, l1, l2, l3, l4, l5, l6, l7] S σ = ms_G 47 17 [.ref a, l1, l2, l3, l4, l5, l6, l7] (.ref a :: S) σ := (ms_G_at rfl _ _ _).trans rfl
theorem mi_47_17 : ms_G 47 17 L (.ref (ms_ad 40 0) :: S) (ms_Z q w I J) = ms_G 47 20 L (.ref (ms_ad 56 0) :: S) (ms_Z q w I J) := mz_getf (c := (2, 56)) rfl (by decide) rfl (by decide) rfl
theorem mi_47_20 : ms_G 47 20 [l0, l1, .int x, l3, l4, l5, l6, l7] S σ = ms_G 47 21 [l0, l1, .int x, l3, l4, l5, l6, l7] (.int x :: S) σ := (ms_G_at rfl _ _ _).trans rfl
theorem mi_47_21 : ms_G 47 21 [l0, l1, l2, .int x, l4, l5, l6, l7] S σ = ms_G 47 22 [l0, l1, l2, .int x, l4, l5, l6, l7] (.int x :: S) σ := (ms_G_at rfl _ _ _).trans rfl
theorem mi_47_22 : ms_G 47 22 L (.int y :: .int x :: S) σ = ms_G 47 23 L (.int (x + y) :: S) σ := (ms_G_at rfl _ _ _).trans rfl
theorem mi_47_23 : ms_G 47 23 [.ref a, l1, l2, l3, l4, l5, l6, l7] S σ = ms_G 47 24 [.ref a, l1, l2, l3, l4, l5, l6, l7] (.ref a :: S) σ := (ms_G_at rfl _ _ _).trans rfl
theorem mi_47_24 : ms_G 47 24 L (.ref (ms_ad 40 0) :: S) (ms_Z q w I J) = ms_G 47 27 L (.ref (ms_ad 42 0) :: S) (ms_Z q w I J) := mz_getf (c := (2, 42)) rfl (by decide) rfl (by decide) rfl
theorem mi_47_27 : ms_G 47 27 L S σ = ms_G 47 28 L (.int (nI 4) :: S) σ := (ms_G_at rfl _ _ _).trans rfl
theorem mi_47_28 : ms_G 47 28 [l0, .int x, l2, l3, l4, l5, l6, l7] S σ = ms_G 47 29 [l0, .int x, l2, l3, l4, l5, l6, l7] (.int x :: S) σ := (ms_G_at rfl _ _ _).trans rfl
theorem mi_47_29 : ms_G 47 29 L (.int y :: .int x :: S) σ = ms_G 47 30 L (.int (x * y) :: S) σ := (ms_G_at rfl _ _ _).trans rfl
theorem mi_47_30 : ms_G 47 30 [l0, l1, l2, .int x, l4, l5, l6, l7] S σ = ms_G 47 31 [l0, l1, l2, .int x, l4, l5, l6, l7] (.int x :: S) σ := (ms_G_at rfl _ _ _).trans rfl
theorem mi_47_31 : ms_G 47 31 L (.int y :: .int x :: S) σ = ms_G 47 32 L (.int (x + y) :: S) σ := (ms_G_at rfl _ _ _).trans rfl
theorem mi_47_32 : ms_G 47 32 L (.int (nI i) :: .ref (ms_ad r u) :: S) (ms_Z q w I J) = cond (mo_0 q.1 r u i) (ms_G 47 33 L (.int (I r u i) :: S) (ms_Z q w I J)) (ms_raw 47 32 L (.int (nI i) :: .ref (ms_ad r u) :: S) (ms_Z q w I J)) := mz_iald rfl
theorem mi_47_33 : ms_G 47 33 [.ref a, l1, l2, l3, l4, l5, l6, l7] S σ = ms_G 47 34 [.ref a, l1, l2, l3, l4, l5, l6, l7] (.ref a :: S) σ := (ms_G_at rfl _ _ _).trans rfl
theorem mi_47_34 : ms_G 47 34 [.ref a, l1, l2, l3, l4, l5, l6, l7] S σ = ms_G 47 35 [.ref a, l1, l2, l3, l4, l5, l6, l7] (.ref a :: S) σ := (ms_G_at rfl _ _ _).trans rfl
theorem mi_47_35 : ms_G 47 35 L (.ref (ms_ad 40 0) :: S) (ms_Z q w I J) = ms_G 47 38 L (.ref (ms_ad 41 0) :: S) (ms_Z q w I J) := mz_getf (c := (2, 41)) rfl (by decide) rfl (by decide) rfl
theorem mi_47_38 : ms_G 47 38 L S σ = ms_G 47 39 L (.int (nI 3) :: S) σ := (ms_G_at rfl _ _ _).trans rfl
theorem mi_47_39 : ms_G 47 39 [l0, .int x, l2, l3, l4, l5, l6, l7] S σ = ms_G 47 40 [l0, .int x, l2, l3, l4, l5, l6, l7] (.int x :: S) σ := (ms_G_at rfl _ _ _).trans rfl
theorem mi_47_40 : ms_G 47 40 L (.int y :: .int x :: S) σ = ms_G 47 41 L (.int (x * y) :: S) σ := (ms_G_at rfl _ _ _).trans rfl
theorem mi_47_41 : ms_G 47 41 L S σ = ms_G 47 42 L (.int (nI 2) :: S) σ := (ms_G_at rfl _ _ _).trans rfl
theorem mi_47_42 : ms_G 47 42 L (.int y :: .int x :: S) σ = ms_G 47 43 L (.int (x + y) :: S) σ := (ms_G_at rfl _ _ _).trans rfl
theorem mi_47_43 : ms_G 47 43 L (.int (nI i) :: .ref (ms_ad r u) :: S) (ms_Z q w I J) = cond (mo_1 q.1 r u i) (ms_G 47 44 L (.long (J r u i) :: S) (ms_Z q w I J)) (ms_raw 47 43 L (.int (nI i) :: .ref (ms_ad r u) :: S) (ms_Z q w I J)) := mz_lald rfl
theorem mi_47_44 : ms_G 47 44 L S σ = ms_G 47 45 L (.int (nI 0) :: S) σ := (ms_G_at rfl _ _ _).trans rfl
theorem mi_47_45 : ms_G 47 45 [l0, .int x, l2, l3, l4, l5, l6, l7] S σ = ms_G 47 46 [l0, .int x, l2, l3, l4, l5, l6, l7] (.int x :: S) σ := (ms_G_at rfl _ _ _).trans rfl
theorem mi_47_46 : ms_G 47 46 [l0, l1, l2, .int x, l4, l5, l6, l7] S σ = ms_G 47 47 [l0, l1, l2, .int x, l4, l5, l6, l7] (.int x :: S) σ := (ms_G_at rfl _ _ _).trans rfl
theorem mi_47_47 : ms_G 47 47 L (.int x3 :: .int x2 :: .int x1 :: .long X0 :: .ref (ms_ad 40 0) :: [.int e0, .int e1, .ref g2]) (ms_Z q w I J) = mo_cl 47 47 50 (ms_G 27 0 [.ref (ms_ad 40 0), .long X0, .null, .int x1, .int x2, .int x3] [] (ms_Z q false I J)) w L [.int e0, .int e1, .ref g2] := (mz_call rfl rfl (mz_can1 rfl rfl rfl rfl rfl (by decide) rfl (by decide))).trans rfl
theorem mi_47_50 : ms_G 47 50 L (.int y :: .int x :: S) σ = ms_G 47 51 L (.int (x + y) :: S) σ := (ms_G_at rfl _ _ _).trans rfl
theorem mi_47_51 : ms_G 47 51 L (.int x :: .int (nI i) :: .ref (ms_ad r u) :: S) (ms_Z q w I J) = cond (mo_0 q.1 r u i) (ms_G 47 52 L S (ms_Z q true (ms_u I r u (upd (I r u) i x)) J)) (ms_raw 47 51 L (.int x :: .int (nI i) :: .ref (ms_ad r u) :: S) (ms_Z q w I J)) := mz_iast rfl x
theorem mi_47_52 : ms_G 47 52 [l0, l1, .int y, .int x, l4, l5, l6, l7] S σ = ms_G 47 55 [l0, l1, .int y, .int (x + nI 1), l4, l5, l6, l7] S σ := (ms_G_at rfl _ _ _).trans rfl
theorem mi_47_55 : ms_G 47 55 L S σ = ms_G 47 11 L S σ := (ms_G_at rfl _ _ _).trans rfl
theorem mi_47_58 : ms_G 47 58 L S σ = ms_G 47 59 L (.int (nI 0) :: S) σ := (ms_G_at rfl _ _ _).trans rfl
theorem mi_47_59 : ms_G 47 59 [l0, l1, .int y, l3, l4, l5, l6, l7] (.int x :: S) σ = ms_G 47 60 [l0, l1, .int y, .int x, l4, l5, l6, l7] S σ := (ms_G_at rfl _ _ _).trans rfl
theorem mi_47_60 : ms_G 47 60 [l0, l1, l2, .int x, l4, l5, l6, l7] S σ = ms_G 47 61 [l0, l1, l2, .int x, l4, l5, l6, l7] (.int x :: S) σ := (ms_G_at rfl _ _ _).trans rfl
theorem mi_47_61 : ms_G 47 61 [.ref a, l1, l2, l3, l4, l5, l6, l7] S σ = ms_G 47 62 [.ref a, l1, l2, l3, l4, l5, l6, l7] (.ref a :: S) σ := (ms_G_at rfl _ _ _).trans rfl
theorem mi_47_62 : ms_G 47 62 L (.ref (ms_ad 40 0) :: S) (ms_Z q w I J) = ms_G 47 65 L (.int (I 40 0 1) :: S) (ms_Z q w I J) := mz_getf (c := (0, 1)) rfl (by decide) rfl (by decide) rfl
theorem mi_47_65 : ms_G 47 65 L (.int y :: .int x :: S) σ = if y ≤ x then ms_G 47 193 L S σ else ms_G 47 68 L S σ := mz_bra rfl rfl rfl
theorem mi_47_68 : ms_G 47 68 [l0, l1, l2, .int x, l4, l5, l6, l7] S σ = ms_G 47 69 [l0, l1, l2, .int x, l4, l5, l6, l7] (.int x :: S) σ := (ms_G_at rfl _ _ _).trans rfl
theorem mi_47_69 : ms_G 47 69 [l0, .int x, l2, l3, l4, l5, l6, l7] S σ = ms_G 47 70 [l0, .int x, l2, l3, l4, l5, l6, l7] (.int x :: S) σ := (ms_G_at rfl _ _ _).trans rfl
theorem mi_47_70 : ms_G 47 70 L (.int y :: .int x :: S) σ = if x = y then ms_G 47 187 L S σ else ms_G 47 73 L S σ := mz_bra rfl rfl rfl
theorem mi_47_73 : ms_G 47 73 [.ref a, l1, l2, l3, l4, l5, l6, l7] S σ = ms_G 47 74 [.ref a, l1, l2, l3, l4, l5, l6, l7] (.ref a :: S) σ := (ms_G_at rfl _ _ _).trans rfl
theorem mi_47_74 : ms_G 47 74 L (.ref (ms_ad 40 0) :: S) (ms_Z q w I J) = ms_G 47 77 L (.ref (ms_ad 47 0) :: S) (ms_Z q w I J) := mz_getf (c := (2, 47)) rfl (by decide) rfl (by decide) rfl
theorem mi_47_77 : ms_G 47 77 L S σ = ms_G 47 78 L (.int (nI 3) :: S) σ := (ms_G_at rfl _ _ _).trans rfl
theorem mi_47_78 : ms_G 47 78 [l0, .int x, l2, l3, l4, l5, l6, l7] S σ = ms_G 47 79 [l0, .int x, l2, l3, l4, l5, l6, l7] (.int x :: S) σ := (ms_G_at rfl _ _ _).trans rfl
theorem mi_47_79 : ms_G 47 79 L (.int y :: .int x :: S) σ = ms_G 47 80 L (.int (x * y) :: S) σ := (ms_G_at rfl _ _ _).trans rfl
theorem mi_47_80 : ms_G 47 80 L S σ = ms_G 47 81 L (.int (nI 1) :: S) σ := (ms_G_at rfl _ _ _).trans rfl
theorem mi_47_81 : ms_G 47 81 L (.int y :: .int x :: S) σ = ms_G 47 82 L (.int (x + y) :: S) σ := (ms_G_at rfl _ _ _).trans rfl
theorem mi_47_82 : ms_G 47 82 L (.int (nI i) :: .ref (ms_ad r u) :: S) (ms_Z q w I J) = cond (mo_0 q.1 r u i) (ms_G 47 83 L (.int (I r u i) :: S) (ms_Z q w I J)) (ms_raw 47 82 L (.int (nI i) :: .ref (ms_ad r u) :: S) (ms_Z q w I J)) := mz_iald rfl
theorem mi_47_83 : ms_G 47 83 [l0, l1, l2, .int x, l4, l5, l6, l7] S σ = ms_G 47 84 [l0, l1, l2, .int x, l4, l5, l6, l7] (.int x :: S) σ := (ms_G_at rfl _ _ _).trans rfl
theorem mi_47_84 : ms_G 47 84 L [.int x1, .int x0] (ms_Z q w I J) = mo_cl 47 84 87 (ms_G 42 0 [.int x0, .int x1] [] (ms_Z q false I J)) w L [] := (mz_call rfl rfl (mz_can0 rfl rfl rfl rfl rfl)).trans rfl
theorem mi_47_87 : ms_G 47 87 L (.int x :: S) σ = if x = nI 0 then ms_G 47 90 L S σ else ms_G 47 93 L S σ := mz_bra rfl rfl rfl
theorem mi_47_90 : ms_G 47 90 L S σ = ms_G 47 187 L S σ := (ms_G_at rfl _ _ _).trans rfl
theorem mi_47_93 : ms_G 47 93 [.ref a, l1, l2, l3, l4, l5, l6, l7] S σ = ms_G 47 94 [.ref a, l1, l2, l3, l4, l5, l6, l7] (.ref a :: S) σ := (ms_G_at rfl _ _ _).trans rfl
theorem mi_47_94 : ms_G 47 94 [.ref a, l1, l2, l3, l4, l5, l6, l7] S σ = ms_G 47 95 [.ref a, l1, l2, l3, l4, l5, l6, l7] (.ref a :: S) σ := (ms_G_at rfl _ _ _).trans rfl
theorem mi_47_95 : ms_G 47 95 L (.ref (ms_ad 40 0) :: S) (ms_Z q w I J) = ms_G 47 98 L (.ref (ms_ad 48 0) :: S) (ms_Z q w I J) := mz_getf (c := (2, 48)) rfl (by decide) rfl (by decide) rfl
theorem mi_47_98 : ms_G 47 98 L S σ = ms_G 47 100 L (.int (nI 32) :: S) σ := (ms_G_at rfl _ _ _).trans rfl
theorem mi_47_100 : ms_G 47 100 [l0, .int x, l2, l3, l4, l5, l6, l7] S σ = ms_G 47 101 [l0, .int x, l2, l3, l4, l5, l6, l7] (.int x :: S) σ := (ms_G_at rfl _ _ _).trans rfl
theorem mi_47_101 : ms_G 47 101 L (.int y :: .int x :: S) σ = ms_G 47 102 L (.int (x * y) :: S) σ := (ms_G_at rfl _ _ _).trans rfl
theorem mi_47_102 : ms_G 47 102 L S σ = ms_G 47 103 L (.int (nI 4) :: S) σ := (ms_G_at rfl _ _ _).trans rfl
theorem mi_47_103 : ms_G 47 103 [l0, l1, l2, .int x, l4, l5, l6, l7] S σ = ms_G 47 104 [l0, l1, l2, .int x, l4, l5, l6, l7] (.int x :: S) σ := (ms_G_at rfl _ _ _).trans rfl
theorem mi_47_104 : ms_G 47 104 L (.int y :: .int x :: S) σ = ms_G 47 105 L (.int (x * y) :: S) σ := (ms_G_at rfl _ _ _).trans rfl
theorem mi_47_105 : ms_G 47 105 L (.int y :: .int x :: S) σ = ms_G 47 106 L (.int (x + y) :: S) σ := (ms_G_at rfl _ _ _).trans rfl
theorem mi_47_106 : ms_G 47 106 L (.int (nI i) :: .ref (ms_ad r u) :: S) (ms_Z q w I J) = cond (mo_0 q.1 r u i) (ms_G 47 107 L (.int (I r u i) :: S) (ms_Z q w I J)) (ms_raw 47 106 L (.int (nI i) :: .ref (ms_ad r u) :: S) (ms_Z q w I J)) := mz_iald rfl
theorem mi_47_107 : ms_G 47 107 [.ref a, l1, l2, l3, l4, l5, l6, l7] S σ = ms_G 47 108 [.ref a, l1, l2, l3, l4, l5, l6, l7] (.ref a :: S) σ := (ms_G_at rfl _ _ _).trans rfl
theorem mi_47_108 : ms_G 47 108 L (.ref (ms_ad 40 0) :: S) (ms_Z q w I J) = ms_G 47 111 L (.ref (ms_ad 48 0) :: S) (ms_Z q w I J) := mz_getf (c := (2, 48)) rfl (by decide) rfl (by decide) rfl
theorem mi_47_111 : ms_G 47 111 L S σ = ms_G 47 113 L (.int (nI 32) :: S) σ := (ms_G_at rfl _ _ _).trans rfl
theorem mi_47_113 : ms_G 47 113 [l0, .int x, l2, l3, l4, l5, l6, l7] S σ = ms_G 47 114 [l0, .int x, l2, l3, l4, l5, l6, l7] (.int x :: S) σ := (ms_G_at rfl _ _ _).trans rfl
theorem mi_47_114 : ms_G 47 114 L (.int y :: .int x :: S) σ = ms_G 47 115 L (.int (x * y) :: S) σ := (ms_G_at rfl _ _ _).trans rfl
theorem mi_47_115 : ms_G 47 115 L S σ = ms_G 47 116 L (.int (nI 4) :: S) σ := (ms_G_at rfl _ _ _).trans rfl
theorem mi_47_116 : ms_G 47 116 [l0, l1, l2, .int x, l4, l5, l6, l7] S σ = ms_G 47 117 [l0, l1, l2, .int x, l4, l5, l6, l7] (.int x :: S) σ := (ms_G_at rfl _ _ _).trans rfl
theorem mi_47_117 : ms_G 47 117 L (.int y :: .int x :: S) σ = ms_G 47 118 L (.int (x * y) :: S) σ := (ms_G_at rfl _ _ _).trans rfl
theorem mi_47_118 : ms_G 47 118 L (.int y :: .int x :: S) σ = ms_G 47 119 L (.int (x + y) :: S) σ := (ms_G_at rfl _ _ _).trans rfl
theorem mi_47_119 : ms_G 47 119 L S σ = ms_G 47 120 L (.int (nI 1) :: S) σ := (ms_G_at rfl _ _ _).trans rfl
theorem mi_47_120 : ms_G 47 120 L (.int y :: .int x :: S) σ = ms_G 47 121 L (.int (x + y) :: S) σ := (ms_G_at rfl _ _ _).trans rfl
theorem mi_47_121 : ms_G 47 121 L (.int (nI i) :: .ref (ms_ad r u) :: S) (ms_Z q w I J) = cond (mo_0 q.1 r u i) (ms_G 47 122 L (.int (I r u i) :: S) (ms_Z q w I J)) (ms_raw 47 121 L (.int (nI i) :: .ref (ms_ad r u) :: S) (ms_Z q w I J)) := mz_iald rfl
theorem mi_47_122 : ms_G 47 122 [.ref a, l1, l2, l3, l4, l5, l6, l7] S σ = ms_G 47 123 [.ref a, l1, l2, l3, l4, l5, l6, l7] (.ref a :: S) σ := (ms_G_at rfl _ _ _).trans rfl
theorem mi_47_123 : ms_G 47 123 L (.ref (ms_ad 40 0) :: S) (ms_Z q w I J) = ms_G 47 126 L (.ref (ms_ad 41 0) :: S) (ms_Z q w I J) := mz_getf (c := (2, 41)) rfl (by decide) rfl (by decide) rfl
theorem mi_47_126 : ms_G 47 126 L S σ = ms_G 47 127 L (.int (nI 3) :: S) σ := (ms_G_at rfl _ _ _).trans rfl
theorem mi_47_127 : ms_G 47 127 [l0, .int x, l2, l3, l4, l5, l6, l7] S σ = ms_G 47 128 [l0, .int x, l2, l3, l4, l5, l6, l7] (.int x :: S) σ := (ms_G_at rfl _ _ _).trans rfl
theorem mi_47_128 : ms_G 47 128 L (.int y :: .int x :: S) σ = ms_G 47 129 L (.int (x * y) :: S) σ := (ms_G_at rfl _ _ _).trans rfl
theorem mi_47_129 : ms_G 47 129 L (.int (nI i) :: .ref (ms_ad r u) :: S) (ms_Z q w I J) = cond (mo_1 q.1 r u i) (ms_G 47 130 L (.long (J r u i) :: S) (ms_Z q w I J)) (ms_raw 47 129 L (.int (nI i) :: .ref (ms_ad r u) :: S) (ms_Z q w I J)) := mz_lald rfl
theorem mi_47_130 : ms_G 47 130 L [.long X2, .int x1, .int x0, .ref (ms_ad 40 0)] (ms_Z q w I J) = mo_cl 47 130 133 (ms_G 33 0 [.ref (ms_ad 40 0), .int x0, .int x1, .long X2, .null] [] (ms_Z q false I J)) w L [] := (mz_call rfl rfl (mz_can1 rfl rfl rfl rfl rfl (by decide) rfl (by decide))).trans rfl
theorem mi_47_133 : ms_G 47 133 [l0, l1, l2, .int y, l4, l5, l6, l7] (.long X :: S) σ = ms_G 47 135 [l0, l1, l2, .int y, .long X, .null, l6, l7] S σ := (ms_G_at rfl _ _ _).trans rfl
theorem mi_47_135 : ms_G 47 135 L S σ = ms_G 47 136 L (.int (nI 0) :: S) σ := (ms_G_at rfl _ _ _).trans rfl
theorem mi_47_136 : ms_G 47 136 [l0, l1, l2, l3, l4, .null, l6, l7] (.int x :: S) σ = ms_G 47 138 [l0, l1, l2, l3, l4, .null, .int x, l7] S σ := (ms_G_at rfl _ _ _).trans rfl
theorem mi_47_138 : ms_G 47 138 [l0, l1, l2, l3, l4, l5, .int x, l7] S σ = ms_G 47 140 [l0, l1, l2, l3, l4, l5, .int x, l7] (.int x :: S) σ := (ms_G_at rfl _ _ _).trans rfl
theorem mi_47_140 : ms_G 47 140 L S σ = ms_G 47 141 L (.int (nI 4) :: S) σ := (ms_G_at rfl _ _ _).trans rfl
theorem mi_47_141 : ms_G 47 141 L (.int y :: .int x :: S) σ = if y ≤ x then ms_G 47 187 L S σ else ms_G 47 144 L S σ := mz_bra rfl rfl rfl
theorem mi_47_144 : ms_G 47 144 [.ref a, l1, l2, l3, l4, l5, l6, l7] S σ = ms_G 47 145 [.ref a, l1, l2, l3, l4, l5, l6, l7] (.ref a :: S) σ := (ms_G_at rfl _ _ _).trans rfl
theorem mi_47_145 : ms_G 47 145 [l0, l1, l2, l3, .long X, l5, l6, l7] S σ = ms_G 47 147 [l0, l1, l2, l3, .long X, l5, l6, l7] (.long X :: S) σ := (ms_G_at rfl _ _ _).trans rfl
theorem mi_47_147 : ms_G 47 147 L S σ = ms_G 47 148 L (.int (nI 1) :: S) σ := (ms_G_at rfl _ _ _).trans rfl
theorem mi_47_148 : ms_G 47 148 L S σ = ms_G 47 149 L (.int (nI 0) :: S) σ := (ms_G_at rfl _ _ _).trans rfl
theorem mi_47_149 : ms_G 47 149 [l0, l1, l2, l3, l4, l5, .int x, l7] S σ = ms_G 47 151 [l0, l1, l2, l3, l4, l5, .int x, l7] (.int x :: S) σ := (ms_G_at rfl _ _ _).trans rfl
theorem mi_47_151 : ms_G 47 151 L [.int x3, .int x2, .int x1, .long X0, .ref (ms_ad 40 0)] (ms_Z q w I J) = mo_cl 47 151 154 (ms_G 27 0 [.ref (ms_ad 40 0), .long X0, .null, .int x1, .int x2, .int x3] [] (ms_Z q false I J)) w L [] := (mz_call rfl rfl (mz_can1 rfl rfl rfl rfl rfl (by decide) rfl (by decide))).trans rfl
theorem mi_47_154 : ms_G 47 154 [l0, l1, l2, l3, l4, l5, .int y, l7] (.int x :: S) σ = ms_G 47 156 [l0, l1, l2, l3, l4, l5, .int y, .int x] S σ := (ms_G_at rfl _ _ _).trans rfl
theorem mi_47_156 : ms_G 47 156 [.ref a, l1, l2, l3, l4, l5, l6, l7] S σ = ms_G 47 157 [.ref a, l1, l2, l3, l4, l5, l6, l7] (.ref a :: S) σ := (ms_G_at rfl _ _ _).trans rfl
theorem mi_47_157 : ms_G 47 157 L (.ref (ms_ad 40 0) :: S) (ms_Z q w I J) = ms_G 47 160 L (.ref (ms_ad 56 0) :: S) (ms_Z q w I J) := mz_getf (c := (2, 56)) rfl (by decide) rfl (by decide) rfl
theorem mi_47_160 : ms_G 47 160 [l0, l1, .int x, l3, l4, l5, l6, l7] S σ = ms_G 47 161 [l0, l1, .int x, l3, l4, l5, l6, l7] (.int x :: S) σ := (ms_G_at rfl _ _ _).trans rfl
theorem mi_47_161 : ms_G 47 161 [l0, l1, l2, l3, l4, l5, .int x, l7] S σ = ms_G 47 163 [l0, l1, l2, l3, l4, l5, .int x, l7] (.int x :: S) σ := (ms_G_at rfl _ _ _).trans rfl
theorem mi_47_163 : ms_G 47 163 L (.int y :: .int x :: S) σ = ms_G 47 164 L (.int (x + y) :: S) σ := (ms_G_at rfl _ _ _).trans rfl
theorem mi_47_164 : ms_G 47 164 L (.int x :: .ref b :: S) σ = ms_G 47 165 L (.int x :: .ref b :: .int x :: .ref b :: S) σ := (ms_G_at rfl _ _ _).trans rfl
theorem mi_47_165 : ms_G 47 165 L (.int (nI i) :: .ref (ms_ad r u) :: S) (ms_Z q w I J) = cond (mo_0 q.1 r u i) (ms_G 47 166 L (.int (I r u i) :: S) (ms_Z q w I J)) (ms_raw 47 165 L (.int (nI i) :: .ref (ms_ad r u) :: S) (ms_Z q w I J)) := mz_iald rfl
theorem mi_47_166 : ms_G 47 166 [l0, l1, l2, .int x, l4, l5, l6, l7] S σ = ms_G 47 167 [l0, l1, l2, .int x, l4, l5, l6, l7] (.int x :: S) σ := (ms_G_at rfl _ _ _).trans rfl
theorem mi_47_167 : ms_G 47 167 [l0, .int x, l2, l3, l4, l5, l6, l7] S σ = ms_G 47 168 [l0, .int x, l2, l3, l4, l5, l6, l7] (.int x :: S) σ := (ms_G_at rfl _ _ _).trans rfl
theorem mi_47_168 : ms_G 47 168 L (.int y :: .int x :: S) σ = if x ≤ y then ms_G 47 176 L S σ else ms_G 47 171 L S σ := mz_bra rfl rfl rfl
theorem mi_47_171 : ms_G 47 171 [l0, l1, l2, l3, l4, l5, l6, .int x] S σ = ms_G 47 173 [l0, l1, l2, l3, l4, l5, l6, .int x] (.int x :: S) σ := (ms_G_at rfl _ _ _).trans rfl
theorem mi_47_173 : ms_G 47 173 L S σ = ms_G 47 179 L S σ := (ms_G_at rfl _ _ _).trans rfl
theorem mi_47_176 : ms_G 47 176 [l0, l1, l2, l3, l4, l5, l6, .int x] S σ = ms_G 47 178 [l0, l1, l2, l3, l4, l5, l6, .int x] (.int x :: S) σ := (ms_G_at rfl _ _ _).trans rfl
theorem mi_47_178 : ms_G 47 178 L (.int x :: S) σ = ms_G 47 179 L (.int (-x) :: S) σ := (ms_G_at rfl _ _ _).trans rfl
theorem mi_47_179 : ms_G 47 179 L (.int y :: .int x :: S) σ = ms_G 47 180 L (.int (x + y) :: S) σ := (ms_G_at rfl _ _ _).trans rfl
theorem mi_47_180 : ms_G 47 180 L (.int x :: .int (nI i) :: .ref (ms_ad r u) :: S) (ms_Z q w I J) = cond (mo_0 q.1 r u i) (ms_G 47 181 L S (ms_Z q true (ms_u I r u (upd (I r u) i x)) J)) (ms_raw 47 180 L (.int x :: .int (nI i) :: .ref (ms_ad r u) :: S) (ms_Z q w I J)) := mz_iast rfl x
theorem mi_47_181 : ms_G 47 181 [l0, l1, l2, l3, l4, .null, .int x, l7] S σ = ms_G 47 184 [l0, l1, l2, l3, l4, .null, .int (x + nI 1), l7] S σ := (ms_G_at rfl _ _ _).trans rfl
theorem mi_47_184 : ms_G 47 184 L S σ = ms_G 47 138 L S σ := (ms_G_at rfl _ _ _).trans rfl
theorem mi_47_187 : ms_G 47 187 [l0, l1, .int y, .int x, l4, l5, l6, l7] S σ = ms_G 47 190 [l0, l1, .int y, .int (x + nI 1), l4, l5, l6, l7] S σ := (ms_G_at rfl _ _ _).trans rfl
theorem mi_47_190 : ms_G 47 190 L S σ = ms_G 47 60 L S σ := (ms_G_at rfl _ _ _).trans rfl
theorem mi_47_193 : ms_G 47 193 L [] σ = some (.inl none, σ) := (ms_G_at rfl _ _ _).trans rfl
-- MaskedSumModel.sendShares(I)V
theorem mi_48_0 : ms_G 48 0 [.ref a, l1, l2, l3, l4, l5, l6, l7, l8, l9] S σ = ms_G 48 1 [.ref a, l1, l2, l3, l4, l5, l6, l7, l8, l9] (.ref a :: S) σ := (ms_G_at rfl _ _ _).trans rfl
theorem mi_48_1 : ms_G 48 1 L S σ = ms_G 48 2 L (.int (nI 3) :: S) σ := (ms_G_at rfl _ _ _).trans rfl
theorem mi_48_2 : ms_G 48 2 [l0, .int x, l2, l3, l4, l5, l6, l7, l8, l9] S σ = ms_G 48 3 [l0, .int x, l2, l3, l4, l5, l6, l7, l8, l9] (.int x :: S) σ := (ms_G_at rfl _ _ _).trans rfl
theorem mi_48_3 : ms_G 48 3 L S σ = ms_G 48 4 L (.int (nI 0) :: S) σ := (ms_G_at rfl _ _ _).trans rfl
theorem mi_48_4 : ms_G 48 4 L S σ = ms_G 48 6 L (.int (nI 17) :: S) σ := (ms_G_at rfl _ _ _).trans rfl
theorem mi_48_6 : ms_G 48 6 L [.int x3, .int x2, .int x1, .int x0, .ref (ms_ad 40 0)] (ms_Z q w I J) = mo_cl 48 6 9 (ms_G 40 0 [.ref (ms_ad 40 0), .int x0, .int x1, .int x2, .int x3, .null, .null] [] (ms_Z q false I J)) w L [] := (mz_call rfl rfl (mz_can1 rfl rfl rfl rfl rfl (by decide) rfl (by decide))).trans rfl
theorem mi_48_9 : ms_G 48 9 [l0, .int y, l2, l3, l4, l5, l6, l7, l8, l9] (.int x :: S) σ = ms_G 48 10 [l0, .int y, .int x, l3, l4, l5, l6, l7, l8, l9] S σ := (ms_G_at rfl _ _ _).trans rfl
theorem mi_48_10 : ms_G 48 10 L S σ = ms_G 48 11 L (.int (nI 0) :: S) σ := (ms_G_at rfl _ _ _).trans rfl
theorem mi_48_11 : ms_G 48 11 [l0, l1, .int y, l3, l4, l5, l6, l7, l8, l9] (.int x :: S) σ = ms_G 48 12 [l0, l1, .int y, .int x, l4, l5, l6, l7, l8, l9] S σ := (ms_G_at rfl _ _ _).trans rfl
theorem mi_48_12 : ms_G 48 12 [l0, l1, l2, .int x, l4, l5, l6, l7, l8, l9] S σ = ms_G 48 13 [l0, l1, l2, .int x, l4, l5, l6, l7, l8, l9] (.int x :: S) σ := (ms_G_at rfl _ _ _).trans rfl
theorem mi_48_13 : ms_G 48 13 [.ref a, l1, l2, l3, l4, l5, l6, l7, l8, l9] S σ = ms_G 48 14 [.ref a, l1, l2, l3, l4, l5, l6, l7, l8, l9] (.ref a :: S) σ := (ms_G_at rfl _ _ _).trans rfl
theorem mi_48_14 : ms_G 48 14 L (.ref (ms_ad 40 0) :: S) (ms_Z q w I J) = ms_G 48 17 L (.int (I 40 0 1) :: S) (ms_Z q w I J) := mz_getf (c := (0, 1)) rfl (by decide) rfl (by decide) rfl
theorem mi_48_17 : ms_G 48 17 L (.int y :: .int x :: S) σ = if y ≤ x then ms_G 48 386 L S σ else ms_G 48 20 L S σ := mz_bra rfl rfl rfl
theorem mi_48_20 : ms_G 48 20 [.ref a, l1, l2, l3, l4, l5, l6, l7, l8, l9] S σ = ms_G 48 21 [.ref a, l1, l2, l3, l4, l5, l6, l7, l8, l9] (.ref a :: S) σ := (ms_G_at rfl _ _ _).trans rfl
theorem mi_48_21 : ms_G 48 21 L (.ref (ms_ad 40 0) :: S) (ms_Z q w I J) = ms_G 48 24 L (.ref (ms_ad 47 0) :: S) (ms_Z q w I J) := mz_getf (c := (2, 47)) rfl (by decide) rfl (by decide) rfl
theorem mi_48_24 : ms_G 48 24 L S σ = ms_G 48 25 L (.int (nI 3) :: S) σ := (ms_G_at rfl _ _ _).trans rfl
theorem mi_48_25 : ms_G 48 25 [l0, .int x, l2, l3, l4, l5, l6, l7, l8, l9] S σ = ms_G 48 26 [l0, .int x, l2, l3, l4, l5, l6, l7, l8, l9] (.int x :: S) σ := (ms_G_at rfl _ _ _).trans rfl
theorem mi_48_26 : ms_G 48 26 L (.int y :: .int x :: S) σ = ms_G 48 27 L (.int (x * y) :: S) σ := (ms_G_at rfl _ _ _).trans rfl
theorem mi_48_27 : ms_G 48 27 L S σ = ms_G 48 28 L (.int (nI 1) :: S) σ := (ms_G_at rfl _ _ _).trans rfl
theorem mi_48_28 : ms_G 48 28 L (.int y :: .int x :: S) σ = ms_G 48 29 L (.int (x + y) :: S) σ := (ms_G_at rfl _ _ _).trans rfl
theorem mi_48_29 : ms_G 48 29 L (.int (nI i) :: .ref (ms_ad r u) :: S) (ms_Z q w I J) = cond (mo_0 q.1 r u i) (ms_G 48 30 L (.int (I r u i) :: S) (ms_Z q w I J)) (ms_raw 48 29 L (.int (nI i) :: .ref (ms_ad r u) :: S) (ms_Z q w I J)) := mz_iald rfl
theorem mi_48_30 : ms_G 48 30 [l0, l1, l2, .int x, l4, l5, l6, l7, l8, l9] S σ = ms_G 48 31 [l0, l1, l2, .int x, l4, l5, l6, l7, l8, l9] (.int x :: S) σ := (ms_G_at rfl _ _ _).trans rfl
theorem mi_48_31 : ms_G 48 31 L [.int x1, .int x0] (ms_Z q w I J) = mo_cl 48 31 34 (ms_G 42 0 [.int x0, .int x1] [] (ms_Z q false I J)) w L [] := (mz_call rfl rfl (mz_can0 rfl rfl rfl rfl rfl)).trans rfl
theorem mi_48_34 : ms_G 48 34 L (.int x :: S) σ = if x = nI 0 then ms_G 48 37 L S σ else ms_G 48 40 L S σ := mz_bra rfl rfl rfl
theorem mi_48_37 : ms_G 48 37 L S σ = ms_G 48 380 L S σ := (ms_G_at rfl _ _ _).trans rfl
theorem mi_48_40 : ms_G 48 40 [.ref a, l1, l2, l3, l4, l5, l6, l7, l8, l9] S σ = ms_G 48 41 [.ref a, l1, l2, l3, l4, l5, l6, l7, l8, l9] (.ref a :: S) σ := (ms_G_at rfl _ _ _).trans rfl
theorem mi_48_41 : ms_G 48 41 L (.ref (ms_ad 40 0) :: S) (ms_Z q w I J) = ms_G 48 44 L (.ref (ms_ad 47 0) :: S) (ms_Z q w I J) := mz_getf (c := (2, 47)) rfl (by decide) rfl (by decide) rfl
theorem mi_48_44 : ms_G 48 44 L S σ = ms_G 48 45 L (.int (nI 3) :: S) σ := (ms_G_at rfl _ _ _).trans rfl
theorem mi_48_45 : ms_G 48 45 [l0, .int x, l2, l3, l4, l5, l6, l7, l8, l9] S σ = ms_G 48 46 [l0, .int x, l2, l3, l4, l5, l6, l7, l8, l9] (.int x :: S) σ := (ms_G_at rfl _ _ _).trans rfl
theorem mi_48_46 : ms_G 48 46 L (.int y :: .int x :: S) σ = ms_G 48 47 L (.int (x * y) :: S) σ := (ms_G_at rfl _ _ _).trans rfl
theorem mi_48_47 : ms_G 48 47 L S σ = ms_G 48 48 L (.int (nI 2) :: S) σ := (ms_G_at rfl _ _ _).trans rfl
theorem mi_48_48 : ms_G 48 48 L (.int y :: .int x :: S) σ = ms_G 48 49 L (.int (x + y) :: S) σ := (ms_G_at rfl _ _ _).trans rfl
theorem mi_48_49 : ms_G 48 49 L (.int (nI i) :: .ref (ms_ad r u) :: S) (ms_Z q w I J) = cond (mo_0 q.1 r u i) (ms_G 48 50 L (.int (I r u i) :: S) (ms_Z q w I J)) (ms_raw 48 49 L (.int (nI i) :: .ref (ms_ad r u) :: S) (ms_Z q w I J)) := mz_iald rfl
theorem mi_48_50 : ms_G 48 50 [l0, l1, l2, .int x, l4, l5, l6, l7, l8, l9] S σ = ms_G 48 51 [l0, l1, l2, .int x, l4, l5, l6, l7, l8, l9] (.int x :: S) σ := (ms_G_at rfl _ _ _).trans rfl
theorem mi_48_51 : ms_G 48 51 L [.int x1, .int x0] (ms_Z q w I J) = mo_cl 48 51 54 (ms_G 42 0 [.int x0, .int x1] [] (ms_Z q false I J)) w L [] := (mz_call rfl rfl (mz_can0 rfl rfl rfl rfl rfl)).trans rfl
theorem mi_48_54 : ms_G 48 54 [l0, l1, l2, .int y, l4, l5, l6, l7, l8, l9] (.int x :: S) σ = ms_G 48 56 [l0, l1, l2, .int y, .int x, l5, l6, l7, l8, l9] S σ := (ms_G_at rfl _ _ _).trans rfl
theorem mi_48_56 : ms_G 48 56 [l0, l1, l2, .int x, l4, l5, l6, l7, l8, l9] S σ = ms_G 48 57 [l0, l1, l2, .int x, l4, l5, l6, l7, l8, l9] (.int x :: S) σ := (ms_G_at rfl _ _ _).trans rfl
theorem mi_48_57 : ms_G 48 57 [l0, .int x, l2, l3, l4, l5, l6, l7, l8, l9] S σ = ms_G 48 58 [l0, .int x, l2, l3, l4, l5, l6, l7, l8, l9] (.int x :: S) σ := (ms_G_at rfl _ _ _).trans rfl
theorem mi_48_58 : ms_G 48 58 L (.int y :: .int x :: S) σ = if x = y then ms_G 48 61 L S σ else ms_G 48 91 L S σ := mz_bra rfl rfl rfl
theorem mi_48_61 : ms_G 48 61 [.ref a, l1, l2, l3, l4, l5, l6, l7, l8, l9] S σ = ms_G 48 62 [.ref a, l1, l2, l3, l4, l5, l6, l7, l8, l9] (.ref a :: S) σ := (ms_G_at rfl _ _ _).trans rfl
theorem mi_48_62 : ms_G 48 62 [l0, l1, .int x, l3, l4, l5, l6, l7, l8, l9] S σ = ms_G 48 63 [l0, l1, .int x, l3, l4, l5, l6, l7, l8, l9] (.int x :: S) σ := (ms_G_at rfl _ _ _).trans rfl
theorem mi_48_63 : ms_G 48 63 L S σ = ms_G 48 64 L (.int (nI 1) :: S) σ := (ms_G_at rfl _ _ _).trans rfl
theorem mi_48_64 : ms_G 48 64 L (.int y :: .int x :: S) σ = ms_G 48 65 L (.int (x + y) :: S) σ := (ms_G_at rfl _ _ _).trans rfl
theorem mi_48_65 : ms_G 48 65 L S σ = ms_G 48 66 L (.int (nI 2) :: S) σ := (ms_G_at rfl _ _ _).trans rfl
theorem mi_48_66 : ms_G 48 66 [l0, l1, l2, .int x, l4, l5, l6, l7, l8, l9] S σ = ms_G 48 67 [l0, l1, l2, .int x, l4, l5, l6, l7, l8, l9] (.int x :: S) σ := (ms_G_at rfl _ _ _).trans rfl
theorem mi_48_67 : ms_G 48 67 L (.int y :: .int x :: S) σ = ms_G 48 68 L (.int (x * y) :: S) σ := (ms_G_at rfl _ _ _).trans rfl
theorem mi_48_68 : ms_G 48 68 L (.int y :: .int x :: S) σ = ms_G 48 69 L (.int (x + y) :: S) σ := (ms_G_at rfl _ _ _).trans rfl
theorem mi_48_69 : ms_G 48 69 [.ref a, l1, l2, l3, l4, l5, l6, l7, l8, l9] S σ = ms_G 48 70 [.ref a, l1, l2, l3, l4, l5, l6, l7, l8, l9] (.ref a :: S) σ := (ms_G_at rfl _ _ _).trans rfl
theorem mi_48_70 : ms_G 48 70 [l0, .int x, l2, l3, l4, l5, l6, l7, l8, l9] S σ = ms_G 48 71 [l0, .int x, l2, l3, l4, l5, l6, l7, l8, l9] (.int x :: S) σ := (ms_G_at rfl _ _ _).trans rfl
theorem mi_48_71 : ms_G 48 71 [l0, l1, l2, l3, .int x, l5, l6, l7, l8, l9] S σ = ms_G 48 73 [l0, l1, l2, l3, .int x, l5, l6, l7, l8, l9] (.int x :: S) σ := (ms_G_at rfl _ _ _).trans rfl
theorem mi_48_73 : ms_G 48 73 L (.int x :: S) σ = if x = nI 0 then ms_G 48 80 L S σ else ms_G 48 76 L S σ := mz_bra rfl rfl rfl
theorem mi_48_76 : ms_G 48 76 L S σ = ms_G 48 77 L (.int (nI 1) :: S) σ := (ms_G_at rfl _ _ _).trans rfl
theorem mi_48_77 : ms_G 48 77 L S σ = ms_G 48 81 L S σ := (ms_G_at rfl _ _ _).trans rfl
theorem mi_48_80 : ms_G 48 80 L S σ = ms_G 48 81 L (.int (nI 0) :: S) σ := (ms_G_at rfl _ _ _).trans rfl
theorem mi_48_81 : ms_G 48 81 [l0, .int x, l2, l3, l4, l5, l6, l7, l8, l9] S σ = ms_G 48 82 [l0, .int x, l2, l3, l4, l5, l6, l7, l8, l9] (.int x :: S) σ := (ms_G_at rfl _ _ _).trans rfl
theorem mi_48_82 : ms_G 48 82 L (.int x2 :: .int x1 :: .int x0 :: .ref (ms_ad 40 0) :: [.int e0, .ref g1]) (ms_Z q w I J) = mo_cl 48 82 85 (ms_G 34 0 [.ref (ms_ad 40 0), .int x0, .int x1, .int x2, .null, .null, .null, .null, .null, .null, .null, .null, .null, .null, .null] [] (ms_Z q false I J)) w L [.int e0, .ref g1] := (mz_call rfl rfl (mz_can1 rfl rfl rfl rfl rfl (by decide) rfl (by decide))).trans rfl
theorem mi_48_85 : ms_G 48 85 L [.long X1, .int x0, .ref (ms_ad 40 0)] (ms_Z q w I J) = mo_cl 48 85 88 (ms_G 44 0 [.ref (ms_ad 40 0), .int x0, .long X1, .null] [] (ms_Z q false I J)) w L [] := (mz_call rfl rfl (mz_can1 rfl rfl rfl rfl rfl (by decide) rfl (by decide))).trans rfl
theorem mi_48_88 : ms_G 48 88 L S σ = ms_G 48 336 L S σ := (ms_G_at rfl _ _ _).trans rfl
theorem mi_48_91 : ms_G 48 91 L S σ = ms_G 48 93 L (.int (nI 64) :: S) σ := (ms_G_at rfl _ _ _).trans rfl
theorem mi_48_93 : ms_G 48 93 [l0, .int x, l2, l3, l4, l5, l6, l7, l8, l9] S σ = ms_G 48 94 [l0, .int x, l2, l3, l4, l5, l6, l7, l8, l9] (.int x :: S) σ := (ms_G_at rfl _ _ _).trans rfl
theorem mi_48_94 : ms_G 48 94 L (.int y :: .int x :: S) σ = ms_G 48 95 L (.int (x * y) :: S) σ := (ms_G_at rfl _ _ _).trans rfl
theorem mi_48_95 : ms_G 48 95 L S σ = ms_G 48 97 L (.int (nI 8) :: S) σ := (ms_G_at rfl _ _ _).trans rfl
theorem mi_48_97 : ms_G 48 97 [l0, l1, l2, .int x, l4, l5, l6, l7, l8, l9] S σ = ms_G 48 98 [l0, l1, l2, .int x, l4, l5, l6, l7, l8, l9] (.int x :: S) σ := (ms_G_at rfl _ _ _).trans rfl
theorem mi_48_98 : ms_G 48 98 L (.int y :: .int x :: S) σ = ms_G 48 99 L (.int (x * y) :: S) σ := (ms_G_at rfl _ _ _).trans rfl
theorem mi_48_99 : ms_G 48 99 L (.int y :: .int x :: S) σ = ms_G 48 100 L (.int (x + y) :: S) σ := (ms_G_at rfl _ _ _).trans rfl
theorem mi_48_100 : ms_G 48 100 [l0, l1, l2, l3, .int y, l5, l6, l7, l8, l9] (.int x :: S) σ = ms_G 48 102 [l0, l1, l2, l3, .int y, .int x, l6, l7, l8, l9] S σ := (ms_G_at rfl _ _ _).trans rfl
theorem mi_48_102 : ms_G 48 102 [.ref a, l1, l2, l3, l4, l5, l6, l7, l8, l9] S σ = ms_G 48 103 [.ref a, l1, l2, l3, l4, l5, l6, l7, l8, l9] (.ref a :: S) σ := (ms_G_at rfl _ _ _).trans rfl
theorem mi_48_103 : ms_G 48 103 [.ref a, l1, l2, l3, l4, l5, l6, l7, l8, l9] S σ = ms_G 48 104 [.ref a, l1, l2, l3, l4, l5, l6, l7, l8, l9] (.ref a :: S) σ := (ms_G_at rfl _ _ _).trans rfl
theorem mi_48_104 : ms_G 48 104 L (.ref (ms_ad 40 0) :: S) (ms_Z q w I J) = ms_G 48 107 L (.ref (ms_ad 48 0) :: S) (ms_Z q w I J) := mz_getf (c := (2, 48)) rfl (by decide) rfl (by decide) rfl
theorem mi_48_107 : ms_G 48 107 L S σ = ms_G 48 109 L (.int (nI 32) :: S) σ := (ms_G_at rfl _ _ _).trans rfl
theorem mi_48_109 : ms_G 48 109 [l0, .int x, l2, l3, l4, l5, l6, l7, l8, l9] S σ = ms_G 48 110 [l0, .int x, l2, l3, l4, l5, l6, l7, l8, l9] (.int x :: S) σ := (ms_G_at rfl _ _ _).trans rfl
theorem mi_48_110 : ms_G 48 110 L (.int y :: .int x :: S) σ = ms_G 48 111 L (.int (x * y) :: S) σ := (ms_G_at rfl _ _ _).trans rfl
theorem mi_48_111 : ms_G 48 111 L S σ = ms_G 48 112 L (.int (nI 4) :: S) σ := (ms_G_at rfl _ _ _).trans rfl
theorem mi_48_112 : ms_G 48 112 [l0, l1, l2, .int x, l4, l5, l6, l7, l8, l9] S σ = ms_G 48 113 [l0, l1, l2, .int x, l4, l5, l6, l7, l8, l9] (.int x :: S) σ := (ms_G_at rfl _ _ _).trans rfl
theorem mi_48_113 : ms_G 48 113 L (.int y :: .int x :: S) σ = ms_G 48 114 L (.int (x * y) :: S) σ := (ms_G_at rfl _ _ _).trans rfl
theorem mi_48_114 : ms_G 48 114 L (.int y :: .int x :: S) σ = ms_G 48 115 L (.int (x + y) :: S) σ := (ms_G_at rfl _ _ _).trans rfl
theorem mi_48_115 : ms_G 48 115 L S σ = ms_G 48 116 L (.int (nI 2) :: S) σ := (ms_G_at rfl _ _ _).trans rfl
theorem mi_48_116 : ms_G 48 116 L (.int y :: .int x :: S) σ = ms_G 48 117 L (.int (x + y) :: S) σ := (ms_G_at rfl _ _ _).trans rfl
theorem mi_48_117 : ms_G 48 117 L (.int (nI i) :: .ref (ms_ad r u) :: S) (ms_Z q w I J) = cond (mo_0 q.1 r u i) (ms_G 48 118 L (.int (I r u i) :: S) (ms_Z q w I J)) (ms_raw 48 117 L (.int (nI i) :: .ref (ms_ad r u) :: S) (ms_Z q w I J)) := mz_iald rfl
theorem mi_48_118 : ms_G 48 118 [.ref a, l1, l2, l3, l4, l5, l6, l7, l8, l9] S σ = ms_G 48 119 [.ref a, l1, l2, l3, l4, l5, l6, l7, l8, l9] (.ref a :: S) σ := (ms_G_at rfl _ _ _).trans rfl
theorem mi_48_119 : ms_G 48 119 L (.ref (ms_ad 40 0) :: S) (ms_Z q w I J) = ms_G 48 122 L (.ref (ms_ad 48 0) :: S) (ms_Z q w I J) := mz_getf (c := (2, 48)) rfl (by decide) rfl (by decide) rfl
theorem mi_48_122 : ms_G 48 122 L S σ = ms_G 48 124 L (.int (nI 32) :: S) σ := (ms_G_at rfl _ _ _).trans rfl
theorem mi_48_124 : ms_G 48 124 [l0, .int x, l2, l3, l4, l5, l6, l7, l8, l9] S σ = ms_G 48 125 [l0, .int x, l2, l3, l4, l5, l6, l7, l8, l9] (.int x :: S) σ := (ms_G_at rfl _ _ _).trans rfl
theorem mi_48_125 : ms_G 48 125 L (.int y :: .int x :: S) σ = ms_G 48 126 L (.int (x * y) :: S) σ := (ms_G_at rfl _ _ _).trans rfl
theorem mi_48_126 : ms_G 48 126 L S σ = ms_G 48 127 L (.int (nI 4) :: S) σ := (ms_G_at rfl _ _ _).trans rfl
theorem mi_48_127 : ms_G 48 127 [l0, l1, l2, .int x, l4, l5, l6, l7, l8, l9] S σ = ms_G 48 128 [l0, l1, l2, .int x, l4, l5, l6, l7, l8, l9] (.int x :: S) σ := (ms_G_at rfl _ _ _).trans rfl
theorem mi_48_128 : ms_G 48 128 L (.int y :: .int x :: S) σ = ms_G 48 129 L (.int (x * y) :: S) σ := (ms_G_at rfl _ _ _).trans rfl
theorem mi_48_129 : ms_G 48 129 L (.int y :: .int x :: S) σ = ms_G 48 130 L (.int (x + y) :: S) σ := (ms_G_at rfl _ _ _).trans rfl
theorem mi_48_130 : ms_G 48 130 L S σ = ms_G 48 131 L (.int (nI 3) :: S) σ := (ms_G_at rfl _ _ _).trans rfl
theorem mi_48_131 : ms_G 48 131 L (.int y :: .int x :: S) σ = ms_G 48 132 L (.int (x + y) :: S) σ := (ms_G_at rfl _ _ _).trans rfl
theorem mi_48_132 : ms_G 48 132 L (.int (nI i) :: .ref (ms_ad r u) :: S) (ms_Z q w I J) = cond (mo_0 q.1 r u i) (ms_G 48 133 L (.int (I r u i) :: S) (ms_Z q w I J)) (ms_raw 48 132 L (.int (nI i) :: .ref (ms_ad r u) :: S) (ms_Z q w I J)) := mz_iald rfl
theorem mi_48_133 : ms_G 48 133 [.ref a, l1, l2, l3, l4, l5, l6, l7, l8, l9] S σ = ms_G 48 134 [.ref a, l1, l2, l3, l4, l5, l6, l7, l8, l9] (.ref a :: S) σ := (ms_G_at rfl _ _ _).trans rfl
theorem mi_48_134 : ms_G 48 134 L (.ref (ms_ad 40 0) :: S) (ms_Z q w I J) = ms_G 48 137 L (.ref (ms_ad 41 0) :: S) (ms_Z q w I J) := mz_getf (c := (2, 41)) rfl (by decide) rfl (by decide) rfl
theorem mi_48_137 : ms_G 48 137 L S σ = ms_G 48 138 L (.int (nI 3) :: S) σ := (ms_G_at rfl _ _ _).trans rfl
theorem mi_48_138 : ms_G 48 138 [l0, .int x, l2, l3, l4, l5, l6, l7, l8, l9] S σ = ms_G 48 139 [l0, .int x, l2, l3, l4, l5, l6, l7, l8, l9] (.int x :: S) σ := (ms_G_at rfl _ _ _).trans rfl
theorem mi_48_139 : ms_G 48 139 L (.int y :: .int x :: S) σ = ms_G 48 140 L (.int (x * y) :: S) σ := (ms_G_at rfl _ _ _).trans rfl
theorem mi_48_140 : ms_G 48 140 L S σ = ms_G 48 141 L (.int (nI 1) :: S) σ := (ms_G_at rfl _ _ _).trans rfl
theorem mi_48_141 : ms_G 48 141 L (.int y :: .int x :: S) σ = ms_G 48 142 L (.int (x + y) :: S) σ := (ms_G_at rfl _ _ _).trans rfl
theorem mi_48_142 : ms_G 48 142 L (.int (nI i) :: .ref (ms_ad r u) :: S) (ms_Z q w I J) = cond (mo_1 q.1 r u i) (ms_G 48 143 L (.long (J r u i) :: S) (ms_Z q w I J)) (ms_raw 48 142 L (.int (nI i) :: .ref (ms_ad r u) :: S) (ms_Z q w I J)) := mz_lald rfl
theorem mi_48_143 : ms_G 48 143 L [.long X2, .int x1, .int x0, .ref (ms_ad 40 0)] (ms_Z q w I J) = mo_cl 48 143 146 (ms_G 33 0 [.ref (ms_ad 40 0), .int x0, .int x1, .long X2, .null] [] (ms_Z q false I J)) w L [] := (mz_call rfl rfl (mz_can1 rfl rfl rfl rfl rfl (by decide) rfl (by decide))).trans rfl
theorem mi_48_146 : ms_G 48 146 [l0, l1, l2, l3, l4, .int y, l6, l7, l8, l9] (.long X :: S) σ = ms_G 48 148 [l0, l1, l2, l3, l4, .int y, .long X, .null, l8, l9] S σ := (ms_G_at rfl _ _ _).trans rfl
theorem mi_48_148 : ms_G 48 148 [.ref a, l1, l2, l3, l4, l5, l6, l7, l8, l9] S σ = ms_G 48 149 [.ref a, l1, l2, l3, l4, l5, l6, l7, l8, l9] (.ref a :: S) σ := (ms_G_at rfl _ _ _).trans rfl
theorem mi_48_149 : ms_G 48 149 [l0, l1, l2, l3, l4, l5, .long X, l7, l8, l9] S σ = ms_G 48 151 [l0, l1, l2, l3, l4, l5, .long X, l7, l8, l9] (.long X :: S) σ := (ms_G_at rfl _ _ _).trans rfl
theorem mi_48_151 : ms_G 48 151 [l0, l1, l2, .int x, l4, l5, l6, l7, l8, l9] S σ = ms_G 48 152 [l0, l1, l2, .int x, l4, l5, l6, l7, l8, l9] (.int x :: S) σ := (ms_G_at rfl _ _ _).trans rfl
theorem mi_48_152 : ms_G 48 152 [l0, .int x, l2, l3, l4, l5, l6, l7, l8, l9] S σ = ms_G 48 153 [l0, .int x, l2, l3, l4, l5, l6, l7, l8, l9] (.int x :: S) σ := (ms_G_at rfl _ _ _).trans rfl
theorem mi_48_153 : ms_G 48 153 [.ref a, l1, l2, l3, l4, l5, l6, l7, l8, l9] S σ = ms_G 48 154 [.ref a, l1, l2, l3, l4, l5, l6, l7, l8, l9] (.ref a :: S) σ := (ms_G_at rfl _ _ _).trans rfl
theorem mi_48_154 : ms_G 48 154 L (.ref (ms_ad 40 0) :: S) (ms_Z q w I J) = ms_G 48 157 L (.ref (ms_ad 49 0) :: S) (ms_Z q w I J) := mz_getf (c := (2, 49)) rfl (by decide) rfl (by decide) rfl
theorem mi_48_157 : ms_G 48 157 [l0, l1, l2, l3, l4, .int x, l6, l7, l8, l9] S σ = ms_G 48 159 [l0, l1, l2, l3, l4, .int x, l6, l7, l8, l9] (.int x :: S) σ := (ms_G_at rfl _ _ _).trans rfl
theorem mi_48_159 : ms_G 48 159 L (.int (nI i) :: .ref (ms_ad r u) :: S) (ms_Z q w I J) = cond (mo_0 q.1 r u i) (ms_G 48 160 L (.int (I r u i) :: S) (ms_Z q w I J)) (ms_raw 48 159 L (.int (nI i) :: .ref (ms_ad r u) :: S) (ms_Z q w I J)) := mz_iald rfl
theorem mi_48_160 : ms_G 48 160 [.ref a, l1, l2, l3, l4, l5, l6, l7, l8, l9] S σ = ms_G 48 161 [.ref a, l1, l2, l3, l4, l5, l6, l7, l8, l9] (.ref a :: S) σ := (ms_G_at rfl _ _ _).trans rfl
theorem mi_48_161 : ms_G 48 161 L (.ref (ms_ad 40 0) :: S) (ms_Z q w I J) = ms_G 48 164 L (.ref (ms_ad 49 0) :: S) (ms_Z q w I J) := mz_getf (c := (2, 49)) rfl (by decide) rfl (by decide) rfl
theorem mi_48_164 : ms_G 48 164 [l0, l1, l2, l3, l4, .int x, l6, l7, l8, l9] S σ = ms_G 48 166 [l0, l1, l2, l3, l4, .int x, l6, l7, l8, l9] (.int x :: S) σ := (ms_G_at rfl _ _ _).trans rfl
theorem mi_48_166 : ms_G 48 166 L S σ = ms_G 48 167 L (.int (nI 1) :: S) σ := (ms_G_at rfl _ _ _).trans rfl
theorem mi_48_167 : ms_G 48 167 L (.int y :: .int x :: S) σ = ms_G 48 168 L (.int (x + y) :: S) σ := (ms_G_at rfl _ _ _).trans rfl
theorem mi_48_168 : ms_G 48 168 L (.int (nI i) :: .ref (ms_ad r u) :: S) (ms_Z q w I J) = cond (mo_0 q.1 r u i) (ms_G 48 169 L (.int (I r u i) :: S) (ms_Z q w I J)) (ms_raw 48 168 L (.int (nI i) :: .ref (ms_ad r u) :: S) (ms_Z q w I J)) := mz_iald rfl
theorem mi_48_169 : ms_G 48 169 [.ref a, l1, l2, l3, l4, l5, l6, l7, l8, l9] S σ = ms_G 48 170 [.ref a, l1, l2, l3, l4, l5, l6, l7, l8, l9] (.ref a :: S) σ := (ms_G_at rfl _ _ _).trans rfl
theorem mi_48_170 : ms_G 48 170 L (.ref (ms_ad 40 0) :: S) (ms_Z q w I J) = ms_G 48 173 L (.ref (ms_ad 49 0) :: S) (ms_Z q w I J) := mz_getf (c := (2, 49)) rfl (by decide) rfl (by decide) rfl
theorem mi_48_173 : ms_G 48 173 [l0, l1, l2, l3, l4, .int x, l6, l7, l8, l9] S σ = ms_G 48 175 [l0, l1, l2, l3, l4, .int x, l6, l7, l8, l9] (.int x :: S) σ := (ms_G_at rfl _ _ _).trans rfl
theorem mi_48_175 : ms_G 48 175 L S σ = ms_G 48 176 L (.int (nI 2) :: S) σ := (ms_G_at rfl _ _ _).trans rfl
theorem mi_48_176 : ms_G 48 176 L (.int y :: .int x :: S) σ = ms_G 48 177 L (.int (x + y) :: S) σ := (ms_G_at rfl _ _ _).trans rfl
theorem mi_48_177 : ms_G 48 177 L (.int (nI i) :: .ref (ms_ad r u) :: S) (ms_Z q w I J) = cond (mo_0 q.1 r u i) (ms_G 48 178 L (.int (I r u i) :: S) (ms_Z q w I J)) (ms_raw 48 177 L (.int (nI i) :: .ref (ms_ad r u) :: S) (ms_Z q w I J)) := mz_iald rfl
theorem mi_48_178 : ms_G 48 178 [.ref a, l1, l2, l3, l4, l5, l6, l7, l8, l9] S σ = ms_G 48 179 [.ref a, l1, l2, l3, l4, l5, l6, l7, l8, l9] (.ref a :: S) σ := (ms_G_at rfl _ _ _).trans rfl
theorem mi_48_179 : ms_G 48 179 L (.ref (ms_ad 40 0) :: S) (ms_Z q w I J) = ms_G 48 182 L (.ref (ms_ad 49 0) :: S) (ms_Z q w I J) := mz_getf (c := (2, 49)) rfl (by decide) rfl (by decide) rfl
theorem mi_48_182 : ms_G 48 182 [l0, l1, l2, l3, l4, .int x, l6, l7, l8, l9] S σ = ms_G 48 184 [l0, l1, l2, l3, l4, .int x, l6, l7, l8, l9] (.int x :: S) σ := (ms_G_at rfl _ _ _).trans rfl
theorem mi_48_184 : ms_G 48 184 L S σ = ms_G 48 185 L (.int (nI 3) :: S) σ := (ms_G_at rfl _ _ _).trans rfl
theorem mi_48_185 : ms_G 48 185 L (.int y :: .int x :: S) σ = ms_G 48 186 L (.int (x + y) :: S) σ := (ms_G_at rfl _ _ _).trans rfl
theorem mi_48_186 : ms_G 48 186 L (.int (nI i) :: .ref (ms_ad r u) :: S) (ms_Z q w I J) = cond (mo_0 q.1 r u i) (ms_G 48 187 L (.int (I r u i) :: S) (ms_Z q w I J)) (ms_raw 48 186 L (.int (nI i) :: .ref (ms_ad r u) :: S) (ms_Z q w I J)) := mz_iald rfl
theorem mi_48_187 : ms_G 48 187 L [.int x6, .int x5, .int x4, .int x3, .int x2, .int x1, .long X0, .ref (ms_ad 40 0)] (ms_Z q w I J) = mo_cl 48 187 190 (ms_G 31 0 [.ref (ms_ad 40 0), .long X0, .null, .int x1, .int x2, .int x3, .int x4, .int x5, .int x6, .null, .null, .null, .null, .null, .null, .null, .null, .null] [] (ms_Z q false I J)) w L [] := (mz_call rfl rfl (mz_can1 rfl rfl rfl rfl rfl (by decide) rfl (by decide))).trans rfl
theorem mi_48_190 : ms_G 48 190 L S σ = ms_G 48 191 L (.int (nI 1) :: S) σ := (ms_G_at rfl _ _ _).trans rfl
theorem mi_48_191 : ms_G 48 191 [l0, l1, l2, l3, l4, l5, l6, .null, l8, l9] (.int x :: S) σ = ms_G 48 193 [l0, l1, l2, l3, l4, l5, l6, .null, .int x, l9] S σ := (ms_G_at rfl _ _ _).trans rfl
theorem mi_48_193 : ms_G 48 193 L S σ = ms_G 48 194 L (.int (nI 0) :: S) σ := (ms_G_at rfl _ _ _).trans rfl
theorem mi_48_194 : ms_G 48 194 [l0, l1, l2, l3, l4, l5, l6, l7, .int y, l9] (.int x :: S) σ = ms_G 48 196 [l0, l1, l2, l3, l4, l5, l6, l7, .int y, .int x] S σ := (ms_G_at rfl _ _ _).trans rfl
theorem mi_48_196 : ms_G 48 196 [l0, l1, l2, l3, l4, l5, l6, l7, l8, .int x] S σ = ms_G 48 198 [l0, l1, l2, l3, l4, l5, l6, l7, l8, .int x] (.int x :: S) σ := (ms_G_at rfl _ _ _).trans rfl
theorem mi_48_198 : ms_G 48 198 L S σ = ms_G 48 199 L (.int (nI 4) :: S) σ := (ms_G_at rfl _ _ _).trans rfl
theorem mi_48_199 : ms_G 48 199 L (.int y :: .int x :: S) σ = if y ≤ x then ms_G 48 242 L S σ else ms_G 48 202 L S σ := mz_bra rfl rfl rfl
theorem mi_48_202 : ms_G 48 202 [l0, l1, l2, l3, l4, l5, l6, l7, .int x, l9] S σ = ms_G 48 204 [l0, l1, l2, l3, l4, l5, l6, l7, .int x, l9] (.int x :: S) σ := (ms_G_at rfl _ _ _).trans rfl
theorem mi_48_204 : ms_G 48 204 L (.int x :: S) σ = if x = nI 0 then ms_G 48 233 L S σ else ms_G 48 207 L S σ := mz_bra rfl rfl rfl
theorem mi_48_207 : ms_G 48 207 [.ref a, l1, l2, l3, l4, l5, l6, l7, l8, l9] S σ = ms_G 48 208 [.ref a, l1, l2, l3, l4, l5, l6, l7, l8, l9] (.ref a :: S) σ := (ms_G_at rfl _ _ _).trans rfl
theorem mi_48_208 : ms_G 48 208 L (.ref (ms_ad 40 0) :: S) (ms_Z q w I J) = ms_G 48 211 L (.ref (ms_ad 64 0) :: S) (ms_Z q w I J) := mz_getf (c := (2, 64)) rfl (by decide) rfl (by decide) rfl
theorem mi_48_211 : ms_G 48 211 [l0, l1, l2, l3, l4, l5, l6, l7, l8, .int x] S σ = ms_G 48 213 [l0, l1, l2, l3, l4, l5, l6, l7, l8, .int x] (.int x :: S) σ := (ms_G_at rfl _ _ _).trans rfl
theorem mi_48_213 : ms_G 48 213 L (.int (nI i) :: .ref (ms_ad r u) :: S) (ms_Z q w I J) = cond (mo_0 q.1 r u i) (ms_G 48 214 L (.int (I r u i) :: S) (ms_Z q w I J)) (ms_raw 48 213 L (.int (nI i) :: .ref (ms_ad r u) :: S) (ms_Z q w I J)) := mz_iald rfl
theorem mi_48_214 : ms_G 48 214 [.ref a, l1, l2, l3, l4, l5, l6, l7, l8, l9] S σ = ms_G 48 215 [.ref a, l1, l2, l3, l4, l5, l6, l7, l8, l9] (.ref a :: S) σ := (ms_G_at rfl _ _ _).trans rfl
theorem mi_48_215 : ms_G 48 215 L (.ref (ms_ad 40 0) :: S) (ms_Z q w I J) = ms_G 48 218 L (.ref (ms_ad 49 0) :: S) (ms_Z q w I J) := mz_getf (c := (2, 49)) rfl (by decide) rfl (by decide) rfl
theorem mi_48_218 : ms_G 48 218 [l0, l1, l2, l3, l4, .int x, l6, l7, l8, l9] S σ = ms_G 48 220 [l0, l1, l2, l3, l4, .int x, l6, l7, l8, l9] (.int x :: S) σ := (ms_G_at rfl _ _ _).trans rfl
theorem mi_48_220 : ms_G 48 220 L S σ = ms_G 48 221 L (.int (nI 4) :: S) σ := (ms_G_at rfl _ _ _).trans rfl
theorem mi_48_221 : ms_G 48 221 L (.int y :: .int x :: S) σ = ms_G 48 222 L (.int (x + y) :: S) σ := (ms_G_at rfl _ _ _).trans rfl
theorem mi_48_222 : ms_G 48 222 [l0, l1, l2, l3, l4, l5, l6, l7, l8, .int x] S σ = ms_G 48 224 [l0, l1, l2, l3, l4, l5, l6, l7, l8, .int x] (.int x :: S) σ := (ms_G_at rfl _ _ _).trans rfl
theorem mi_48_224 : ms_G 48 224 L (.int y :: .int x :: S) σ = ms_G 48 225 L (.int (x + y) :: S) σ := (ms_G_at rfl _ _ _).trans rfl
theorem mi_48_225 : ms_G 48 225 L (.int (nI i) :: .ref (ms_ad r u) :: S) (ms_Z q w I J) = cond (mo_0 q.1 r u i) (ms_G 48 226 L (.int (I r u i) :: S) (ms_Z q w I J)) (ms_raw 48 225 L (.int (nI i) :: .ref (ms_ad r u) :: S) (ms_Z q w I J)) := mz_iald rfl
theorem mi_48_226 : ms_G 48 226 L (.int y :: .int x :: S) σ = if x = y then ms_G 48 229 L S σ else ms_G 48 233 L S σ := mz_bra rfl rfl rfl
theorem mi_48_229 : ms_G 48 229 L S σ = ms_G 48 230 L (.int (nI 1) :: S) σ := (ms_G_at rfl _ _ _).trans rfl
theorem mi_48_230 : ms_G 48 230 L S σ = ms_G 48 234 L S σ := (ms_G_at rfl _ _ _).trans rfl
theorem mi_48_233 : ms_G 48 233 L S σ = ms_G 48 234 L (.int (nI 0) :: S) σ := (ms_G_at rfl _ _ _).trans rfl
theorem mi_48_234 : ms_G 48 234 [l0, l1, l2, l3, l4, l5, l6, .null, l8, l9] (.int x :: S) σ = ms_G 48 236 [l0, l1, l2, l3, l4, l5, l6, .null, .int x, l9] S σ := (ms_G_at rfl _ _ _).trans rfl
theorem mi_48_236 : ms_G 48 236 [l0, l1, l2, l3, l4, l5, l6, l7, .int y, .int x] S σ = ms_G 48 239 [l0, l1, l2, l3, l4, l5, l6, l7, .int y, .int (x + nI 1)] S σ := (ms_G_at rfl _ _ _).trans rfl
theorem mi_48_239 : ms_G 48 239 L S σ = ms_G 48 196 L S σ := (ms_G_at rfl _ _ _).trans rfl
theorem mi_48_242 : ms_G 48 242 [l0, l1, l2, l3, l4, l5, l6, l7, .int x, l9] S σ = ms_G 48 244 [l0, l1, l2, l3, l4, l5, l6, l7, .int x, l9] (.int x :: S) σ := (ms_G_at rfl _ _ _).trans rfl
theorem mi_48_244 : ms_G 48 244 L (.int x :: S) σ = if x = nI 0 then ms_G 48 247 L S σ else ms_G 48 250 L S σ := mz_bra rfl rfl rfl
theorem mi_48_247 : ms_G 48 247 L S σ = ms_G 48 380 L S σ := (ms_G_at rfl _ _ _).trans rfl
theorem mi_48_250 : ms_G 48 250 [.ref a, l1, l2, l3, l4, l5, l6, l7, l8, l9] S σ = ms_G 48 251 [.ref a, l1, l2, l3, l4, l5, l6, l7, l8, l9] (.ref a :: S) σ := (ms_G_at rfl _ _ _).trans rfl
theorem mi_48_251 : ms_G 48 251 [l0, l1, l2, l3, l4, l5, .long X, l7, l8, l9] S σ = ms_G 48 253 [l0, l1, l2, l3, l4, l5, .long X, l7, l8, l9] (.long X :: S) σ := (ms_G_at rfl _ _ _).trans rfl
theorem mi_48_253 : ms_G 48 253 [l0, l1, l2, .int x, l4, l5, l6, l7, l8, l9] S σ = ms_G 48 254 [l0, l1, l2, .int x, l4, l5, l6, l7, l8, l9] (.int x :: S) σ := (ms_G_at rfl _ _ _).trans rfl
theorem mi_48_254 : ms_G 48 254 [l0, .int x, l2, l3, l4, l5, l6, l7, l8, l9] S σ = ms_G 48 255 [l0, .int x, l2, l3, l4, l5, l6, l7, l8, l9] (.int x :: S) σ := (ms_G_at rfl _ _ _).trans rfl
theorem mi_48_255 : ms_G 48 255 L S σ = ms_G 48 256 L (.int (nI 1) :: S) σ := (ms_G_at rfl _ _ _).trans rfl
theorem mi_48_256 : ms_G 48 256 L S σ = ms_G 48 257 L (.int (nI 1) :: S) σ := (ms_G_at rfl _ _ _).trans rfl
theorem mi_48_257 : ms_G 48 257 L [.int x4, .int x3, .int x2, .int x1, .long X0, .ref (ms_ad 40 0)] (ms_Z q w I J) = mo_cl 48 257 260 (ms_G 26 0 [.ref (ms_ad 40 0), .long X0, .null, .int x1, .int x2, .int x3, .int x4, .null, .null] [] (ms_Z q false I J)) w L [] := (mz_call rfl rfl (mz_can1 rfl rfl rfl rfl rfl (by decide) rfl (by decide))).trans rfl
theorem mi_48_260 : ms_G 48 260 [l0, l1, l2, l3, .int x, l5, l6, l7, l8, l9] S σ = ms_G 48 262 [l0, l1, l2, l3, .int x, l5, l6, l7, l8, l9] (.int x :: S) σ := (ms_G_at rfl _ _ _).trans rfl
theorem mi_48_262 : ms_G 48 262 L (.int x :: S) σ = if x = nI 0 then ms_G 48 269 L S σ else ms_G 48 265 L S σ := mz_bra rfl rfl rfl
theorem mi_48_265 : ms_G 48 265 L S σ = ms_G 48 266 L (.int (nI 0) :: S) σ := (ms_G_at rfl _ _ _).trans rfl
theorem mi_48_266 : ms_G 48 266 L S σ = ms_G 48 270 L S σ := (ms_G_at rfl _ _ _).trans rfl
theorem mi_48_269 : ms_G 48 269 L S σ = ms_G 48 270 L (.int (nI 2) :: S) σ := (ms_G_at rfl _ _ _).trans rfl
theorem mi_48_270 : ms_G 48 270 [l0, l1, l2, l3, l4, l5, l6, l7, .int y, l9] (.int x :: S) σ = ms_G 48 272 [l0, l1, l2, l3, l4, l5, l6, l7, .int y, .int x] S σ := (ms_G_at rfl _ _ _).trans rfl
theorem mi_48_272 : ms_G 48 272 [.ref a, l1, l2, l3, l4, l5, l6, l7, l8, l9] S σ = ms_G 48 273 [.ref a, l1, l2, l3, l4, l5, l6, l7, l8, l9] (.ref a :: S) σ := (ms_G_at rfl _ _ _).trans rfl
theorem mi_48_273 : ms_G 48 273 L (.ref (ms_ad 40 0) :: S) (ms_Z q w I J) = ms_G 48 276 L (.ref (ms_ad 56 0) :: S) (ms_Z q w I J) := mz_getf (c := (2, 56)) rfl (by decide) rfl (by decide) rfl
theorem mi_48_276 : ms_G 48 276 [l0, l1, .int x, l3, l4, l5, l6, l7, l8, l9] S σ = ms_G 48 277 [l0, l1, .int x, l3, l4, l5, l6, l7, l8, l9] (.int x :: S) σ := (ms_G_at rfl _ _ _).trans rfl
theorem mi_48_277 : ms_G 48 277 L S σ = ms_G 48 278 L (.int (nI 1) :: S) σ := (ms_G_at rfl _ _ _).trans rfl
theorem mi_48_278 : ms_G 48 278 L (.int y :: .int x :: S) σ = ms_G 48 279 L (.int (x + y) :: S) σ := (ms_G_at rfl _ _ _).trans rfl
theorem mi_48_279 : ms_G 48 279 L S σ = ms_G 48 280 L (.int (nI 2) :: S) σ := (ms_G_at rfl _ _ _).trans rfl
theorem mi_48_280 : ms_G 48 280 [l0, l1, l2, .int x, l4, l5, l6, l7, l8, l9] S σ = ms_G 48 281 [l0, l1, l2, .int x, l4, l5, l6, l7, l8, l9] (.int x :: S) σ := (ms_G_at rfl _ _ _).trans rfl
theorem mi_48_281 : ms_G 48 281 L (.int y :: .int x :: S) σ = ms_G 48 282 L (.int (x * y) :: S) σ := (ms_G_at rfl _ _ _).trans rfl
theorem mi_48_282 : ms_G 48 282 L (.int y :: .int x :: S) σ = ms_G 48 283 L (.int (x + y) :: S) σ := (ms_G_at rfl _ _ _).trans rfl
set_option maxRecDepth 20000 in
theorem mi_48_283 : ms_G 48 283 [.ref a, l1, l2, l3, l4, l5, l6, l7, l8, l9] S σ = ms_G 48 284 [.ref a, l1, l2, l3, l4, l5, l6, l7, l8, l9] (.ref a :: S) σ := (ms_G_at rfl _ _ _).trans rfl
set_option maxRecDepth 20000 in
theorem mi_48_284 : ms_G 48 284 L (.ref (ms_ad 40 0) :: S) (ms_Z q w I J) = ms_G 48 287 L (.ref (ms_ad 49 0) :: S) (ms_Z q w I J) := mz_getf (c := (2, 49)) rfl (by decide) rfl (by decide) rfl
set_option maxRecDepth 20000 in
theorem mi_48_287 : ms_G 48 287 [l0, l1, l2, l3, l4, .int x, l6, l7, l8, l9] S σ = ms_G 48 289 [l0, l1, l2, l3, l4, .int x, l6, l7, l8, l9] (.int x :: S) σ := (ms_G_at rfl _ _ _).trans rfl
set_option maxRecDepth 20000 in
theorem mi_48_289 : ms_G 48 289 [l0, l1, l2, l3, l4, l5, l6, l7, l8, .int x] S σ = ms_G 48 291 [l0, l1, l2, l3, l4, l5, l6, l7, l8, .int x] (.int x :: S) σ := (ms_G_at rfl _ _ _).trans rfl
set_option maxRecDepth 20000 in
theorem mi_48_291 : ms_G 48 291 L (.int y :: .int x :: S) σ = ms_G 48 292 L (.int (x + y) :: S) σ := (ms_G_at rfl _ _ _).trans rfl
set_option maxRecDepth 20000 in
theorem mi_48_292 : ms_G 48 292 L (.int (nI i) :: .ref (ms_ad r u) :: S) (ms_Z q w I J) = cond (mo_0 q.1 r u i) (ms_G 48 293 L (.int (I r u i) :: S) (ms_Z q w I J)) (ms_raw 48 292 L (.int (nI i) :: .ref (ms_ad r u) :: S) (ms_Z q w I J)) := mz_iald rfl
set_option maxRecDepth 20000 in
theorem mi_48_293 : ms_G 48 293 [.ref a, l1, l2, l3, l4, l5, l6, l7, l8, l9] S σ = ms_G 48 294 [.ref a, l1, l2, l3, l4, l5, l6, l7, l8, l9] (.ref a :: S) σ := (ms_G_at rfl _ _ _).trans rfl
set_option maxRecDepth 20000 in
theorem mi_48_294 : ms_G 48 294 L (.ref (ms_ad 40 0) :: S) (ms_Z q w I J) = ms_G 48 297 L (.ref (ms_ad 59 0) :: S) (ms_Z q w I J) := mz_getf (c := (2, 59)) rfl (by decide) rfl (by decide) rfl
set_option maxRecDepth 20000 in
theorem mi_48_297 : ms_G 48 297 [l0, l1, l2, l3, l4, l5, l6, l7, l8, .int x] S σ = ms_G 48 299 [l0, l1, l2, l3, l4, l5, l6, l7, l8, .int x] (.int x :: S) σ := (ms_G_at rfl _ _ _).trans rfl
set_option maxRecDepth 20000 in
theorem mi_48_299 : ms_G 48 299 L (.int (nI i) :: .ref (ms_ad r u) :: S) (ms_Z q w I J) = cond (mo_0 q.1 r u i) (ms_G 48 300 L (.int (I r u i) :: S) (ms_Z q w I J)) (ms_raw 48 299 L (.int (nI i) :: .ref (ms_ad r u) :: S) (ms_Z q w I J)) := mz_iald rfl
set_option maxRecDepth 20000 in
theorem mi_48_300 : ms_G 48 300 L (.int y :: .int x :: S) σ = ms_G 48 301 L (.int (x ^^^ y) :: S) σ := (ms_G_at rfl _ _ _).trans rfl
set_option maxRecDepth 20000 in
theorem mi_48_301 : ms_G 48 301 L (.int x :: .int (nI i) :: .ref (ms_ad r u) :: S) (ms_Z q w I J) = cond (mo_0 q.1 r u i) (ms_G 48 302 L S (ms_Z q true (ms_u I r u (upd (I r u) i x)) J)) (ms_raw 48 301 L (.int x :: .int (nI i) :: .ref (ms_ad r u) :: S) (ms_Z q w I J)) := mz_iast rfl x
set_option maxRecDepth 20000 in
theorem mi_48_302 : ms_G 48 302 [.ref a, l1, l2, l3, l4, l5, l6, l7, l8, l9] S σ = ms_G 48 303 [.ref a, l1, l2, l3, l4, l5, l6, l7, l8, l9] (.ref a :: S) σ := (ms_G_at rfl _ _ _).trans rfl
set_option maxRecDepth 20000 in
theorem mi_48_303 : ms_G 48 303 L (.ref (ms_ad 40 0) :: S) (ms_Z q w I J) = ms_G 48 306 L (.ref (ms_ad 56 0) :: S) (ms_Z q w I J) := mz_getf (c := (2, 56)) rfl (by decide) rfl (by decide) rfl
set_option maxRecDepth 20000 in
theorem mi_48_306 : ms_G 48 306 [l0, l1, .int x, l3, l4, l5, l6, l7, l8, l9] S σ = ms_G 48 307 [l0, l1, .int x, l3, l4, l5, l6, l7, l8, l9] (.int x :: S) σ := (ms_G_at rfl _ _ _).trans rfl
set_option maxRecDepth 20000 in
theorem mi_48_307 : ms_G 48 307 L S σ = ms_G 48 308 L (.int (nI 2) :: S) σ := (ms_G_at rfl _ _ _).trans rfl
set_option maxRecDepth 20000 in
theorem mi_48_308 : ms_G 48 308 L (.int y :: .int x :: S) σ = ms_G 48 309 L (.int (x + y) :: S) σ := (ms_G_at rfl _ _ _).trans rfl
set_option maxRecDepth 20000 in
theorem mi_48_309 : ms_G 48 309 L S σ = ms_G 48 310 L (.int (nI 2) :: S) σ := (ms_G_at rfl _ _ _).trans rfl
set_option maxRecDepth 20000 in
theorem mi_48_310 : ms_G 48 310 [l0, l1, l2, .int x, l4, l5, l6, l7, l8, l9] S σ = ms_G 48 311 [l0, l1, l2, .int x, l4, l5, l6, l7, l8, l9] (.int x :: S) σ := (ms_G_at rfl _ _ _).trans rfl
set_option maxRecDepth 20000 in
theorem mi_48_311 : ms_G 48 311 L (.int y :: .int x :: S) σ = ms_G 48 312 L (.int (x * y) :: S) σ := (ms_G_at rfl _ _ _).trans rfl
set_option maxRecDepth 20000 in
theorem mi_48_312 : ms_G 48 312 L (.int y :: .int x :: S) σ = ms_G 48 313 L (.int (x + y) :: S) σ := (ms_G_at rfl _ _ _).trans rfl
set_option maxRecDepth 20000 in
theorem mi_48_313 : ms_G 48 313 [.ref a, l1, l2, l3, l4, l5, l6, l7, l8, l9] S σ = ms_G 48 314 [.ref a, l1, l2, l3, l4, l5, l6, l7, l8, l9] (.ref a :: S) σ := (ms_G_at rfl _ _ _).trans rfl
set_option maxRecDepth 20000 in
theorem mi_48_314 : ms_G 48 314 L (.ref (ms_ad 40 0) :: S) (ms_Z q w I J) = ms_G 48 317 L (.ref (ms_ad 49 0) :: S) (ms_Z q w I J) := mz_getf (c := (2, 49)) rfl (by decide) rfl (by decide) rfl
set_option maxRecDepth 20000 in
theorem mi_48_317 : ms_G 48 317 [l0, l1, l2, l3, l4, .int x, l6, l7, l8, l9] S σ = ms_G 48 319 [l0, l1, l2, l3, l4, .int x, l6, l7, l8, l9] (.int x :: S) σ := (ms_G_at rfl _ _ _).trans rfl
set_option maxRecDepth 20000 in
theorem mi_48_319 : ms_G 48 319 [l0, l1, l2, l3, l4, l5, l6, l7, l8, .int x] S σ = ms_G 48 321 [l0, l1, l2, l3, l4, l5, l6, l7, l8, .int x] (.int x :: S) σ := (ms_G_at rfl _ _ _).trans rfl
set_option maxRecDepth 20000 in
theorem mi_48_321 : ms_G 48 321 L (.int y :: .int x :: S) σ = ms_G 48 322 L (.int (x + y) :: S) σ := (ms_G_at rfl _ _ _).trans rfl
set_option maxRecDepth 20000 in
theorem mi_48_322 : ms_G 48 322 L S σ = ms_G 48 323 L (.int (nI 1) :: S) σ := (ms_G_at rfl _ _ _).trans rfl
set_option maxRecDepth 20000 in
theorem mi_48_323 : ms_G 48 323 L (.int y :: .int x :: S) σ = ms_G 48 324 L (.int (x + y) :: S) σ := (ms_G_at rfl _ _ _).trans rfl
set_option maxRecDepth 20000 in
theorem mi_48_324 : ms_G 48 324 L (.int (nI i) :: .ref (ms_ad r u) :: S) (ms_Z q w I J) = cond (mo_0 q.1 r u i) (ms_G 48 325 L (.int (I r u i) :: S) (ms_Z q w I J)) (ms_raw 48 324 L (.int (nI i) :: .ref (ms_ad r u) :: S) (ms_Z q w I J)) := mz_iald rfl
set_option maxRecDepth 20000 in
theorem mi_48_325 : ms_G 48 325 [.ref a, l1, l2, l3, l4, l5, l6, l7, l8, l9] S σ = ms_G 48 326 [.ref a, l1, l2, l3, l4, l5, l6, l7, l8, l9] (.ref a :: S) σ := (ms_G_at rfl _ _ _).trans rfl
set_option maxRecDepth 20000 in
theorem mi_48_326 : ms_G 48 326 L (.ref (ms_ad 40 0) :: S) (ms_Z q w I J) = ms_G 48 329 L (.ref (ms_ad 59 0) :: S) (ms_Z q w I J) := mz_getf (c := (2, 59)) rfl (by decide) rfl (by decide) rfl
set_option maxRecDepth 20000 in
theorem mi_48_329 : ms_G 48 329 [l0, l1, l2, l3, l4, l5, l6, l7, l8, .int x] S σ = ms_G 48 331 [l0, l1, l2, l3, l4, l5, l6, l7, l8, .int x] (.int x :: S) σ := (ms_G_at rfl _ _ _).trans rfl
set_option maxRecDepth 20000 in
theorem mi_48_331 : ms_G 48 331 L S σ = ms_G 48 332 L (.int (nI 1) :: S) σ := (ms_G_at rfl _ _ _).trans rfl
set_option maxRecDepth 20000 in
theorem mi_48_332 : ms_G 48 332 L (.int y :: .int x :: S) σ = ms_G 48 333 L (.int (x + y) :: S) σ := (ms_G_at rfl _ _ _).trans rfl
set_option maxRecDepth 20000 in
theorem mi_48_333 : ms_G 48 333 L (.int (nI i) :: .ref (ms_ad r u) :: S) (ms_Z q w I J) = cond (mo_0 q.1 r u i) (ms_G 48 334 L (.int (I r u i) :: S) (ms_Z q w I J)) (ms_raw 48 333 L (.int (nI i) :: .ref (ms_ad r u) :: S) (ms_Z q w I J)) := mz_iald rfl
set_option maxRecDepth 20000 in
theorem mi_48_334 : ms_G 48 334 L (.int y :: .int x :: S) σ = ms_G 48 335 L (.int (x ^^^ y) :: S) σ := (ms_G_at rfl _ _ _).trans rfl
set_option maxRecDepth 20000 in
theorem mi_48_335 : ms_G 48 335 L (.int x :: .int (nI i) :: .ref (ms_ad r u) :: S) (ms_Z q w I J) = cond (mo_0 q.1 r u i) (ms_G 48 336 L S (ms_Z q true (ms_u I r u (upd (I r u) i x)) J)) (ms_raw 48 335 L (.int x :: .int (nI i) :: .ref (ms_ad r u) :: S) (ms_Z q w I J)) := mz_iast rfl x
set_option maxRecDepth 20000 in
theorem mi_48_336 : ms_G 48 336 [.ref a, l1, l2, l3, l4, l5, l6, l7, l8, l9] S σ = ms_G 48 337 [.ref a, l1, l2, l3, l4, l5, l6, l7, l8, l9] (.ref a :: S) σ := (ms_G_at rfl _ _ _).trans rfl
set_option maxRecDepth 20000 in
theorem mi_48_337 : ms_G 48 337 L (.ref (ms_ad 40 0) :: S) (ms_Z q w I J) = ms_G 48 340 L (.ref (ms_ad 56 0) :: S) (ms_Z q w I J) := mz_getf (c := (2, 56)) rfl (by decide) rfl (by decide) rfl
set_option maxRecDepth 20000 in
theorem mi_48_340 : ms_G 48 340 [l0, l1, .int x, l3, l4, l5, l6, l7, l8, l9] S σ = ms_G 48 341 [l0, l1, .int x, l3, l4, l5, l6, l7, l8, l9] (.int x :: S) σ := (ms_G_at rfl _ _ _).trans rfl
set_option maxRecDepth 20000 in
theorem mi_48_341 : ms_G 48 341 L (.int x :: .ref b :: S) σ = ms_G 48 342 L (.int x :: .ref b :: .int x :: .ref b :: S) σ := (ms_G_at rfl _ _ _).trans rfl
set_option maxRecDepth 20000 in
theorem mi_48_342 : ms_G 48 342 L (.int (nI i) :: .ref (ms_ad r u) :: S) (ms_Z q w I J) = cond (mo_0 q.1 r u i) (ms_G 48 343 L (.int (I r u i) :: S) (ms_Z q w I J)) (ms_raw 48 342 L (.int (nI i) :: .ref (ms_ad r u) :: S) (ms_Z q w I J)) := mz_iald rfl
set_option maxRecDepth 20000 in
theorem mi_48_343 : ms_G 48 343 L S σ = ms_G 48 344 L (.int (nI 1) :: S) σ := (ms_G_at rfl _ _ _).trans rfl
set_option maxRecDepth 20000 in
theorem mi_48_344 : ms_G 48 344 [l0, l1, l2, .int x, l4, l5, l6, l7, l8, l9] S σ = ms_G 48 345 [l0, l1, l2, .int x, l4, l5, l6, l7, l8, l9] (.int x :: S) σ := (ms_G_at rfl _ _ _).trans rfl
set_option maxRecDepth 20000 in
theorem mi_48_345 : ms_G 48 345 L (.int y :: .int x :: S) σ = ms_G 48 346 L (.int (x <<< (y &&& 31)) :: S) σ := (ms_G_at rfl _ _ _).trans rfl
set_option maxRecDepth 20000 in
theorem mi_48_346 : ms_G 48 346 L (.int y :: .int x :: S) σ = ms_G 48 347 L (.int (x ||| y) :: S) σ := (ms_G_at rfl _ _ _).trans rfl
set_option maxRecDepth 20000 in
theorem mi_48_347 : ms_G 48 347 L (.int x :: .int (nI i) :: .ref (ms_ad r u) :: S) (ms_Z q w I J) = cond (mo_0 q.1 r u i) (ms_G 48 348 L S (ms_Z q true (ms_u I r u (upd (I r u) i x)) J)) (ms_raw 48 347 L (.int x :: .int (nI i) :: .ref (ms_ad r u) :: S) (ms_Z q w I J)) := mz_iast rfl x
set_option maxRecDepth 20000 in
theorem mi_48_348 : ms_G 48 348 [l0, l1, l2, l3, .int x, l5, l6, l7, l8, l9] S σ = ms_G 48 350 [l0, l1, l2, l3, .int x, l5, l6, l7, l8, l9] (.int x :: S) σ := (ms_G_at rfl _ _ _).trans rfl
set_option maxRecDepth 20000 in
theorem mi_48_350 : ms_G 48 350 L (.int x :: S) σ = if x = nI 0 then ms_G 48 368 L S σ else ms_G 48 353 L S σ := mz_bra rfl rfl rfl
set_option maxRecDepth 20000 in
theorem mi_48_353 : ms_G 48 353 [.ref a, l1, l2, l3, l4, l5, l6, l7, l8, l9] S σ = ms_G 48 354 [.ref a, l1, l2, l3, l4, l5, l6, l7, l8, l9] (.ref a :: S) σ := (ms_G_at rfl _ _ _).trans rfl
set_option maxRecDepth 20000 in
theorem mi_48_354 : ms_G 48 354 L (.ref (ms_ad 40 0) :: S) (ms_Z q w I J) = ms_G 48 357 L (.ref (ms_ad 45 0) :: S) (ms_Z q w I J) := mz_getf (c := (2, 45)) rfl (by decide) rfl (by decide) rfl
set_option maxRecDepth 20000 in
theorem mi_48_357 : ms_G 48 357 [l0, .int x, l2, l3, l4, l5, l6, l7, l8, l9] S σ = ms_G 48 358 [l0, .int x, l2, l3, l4, l5, l6, l7, l8, l9] (.int x :: S) σ := (ms_G_at rfl _ _ _).trans rfl
set_option maxRecDepth 20000 in
theorem mi_48_358 : ms_G 48 358 L (.int x :: .ref b :: S) σ = ms_G 48 359 L (.int x :: .ref b :: .int x :: .ref b :: S) σ := (ms_G_at rfl _ _ _).trans rfl
set_option maxRecDepth 20000 in
theorem mi_48_359 : ms_G 48 359 L (.int (nI i) :: .ref (ms_ad r u) :: S) (ms_Z q w I J) = cond (mo_0 q.1 r u i) (ms_G 48 360 L (.int (I r u i) :: S) (ms_Z q w I J)) (ms_raw 48 359 L (.int (nI i) :: .ref (ms_ad r u) :: S) (ms_Z q w I J)) := mz_iald rfl
set_option maxRecDepth 20000 in
theorem mi_48_360 : ms_G 48 360 L S σ = ms_G 48 361 L (.int (nI 1) :: S) σ := (ms_G_at rfl _ _ _).trans rfl
set_option maxRecDepth 20000 in
theorem mi_48_361 : ms_G 48 361 [l0, l1, l2, .int x, l4, l5, l6, l7, l8, l9] S σ = ms_G 48 362 [l0, l1, l2, .int x, l4, l5, l6, l7, l8, l9] (.int x :: S) σ := (ms_G_at rfl _ _ _).trans rfl
set_option maxRecDepth 20000 in
theorem mi_48_362 : ms_G 48 362 L (.int y :: .int x :: S) σ = ms_G 48 363 L (.int (x <<< (y &&& 31)) :: S) σ := (ms_G_at rfl _ _ _).trans rfl
set_option maxRecDepth 20000 in
theorem mi_48_363 : ms_G 48 363 L (.int y :: .int x :: S) σ = ms_G 48 364 L (.int (x ||| y) :: S) σ := (ms_G_at rfl _ _ _).trans rfl
set_option maxRecDepth 20000 in
theorem mi_48_364 : ms_G 48 364 L (.int x :: .int (nI i) :: .ref (ms_ad r u) :: S) (ms_Z q w I J) = cond (mo_0 q.1 r u i) (ms_G 48 365 L S (ms_Z q true (ms_u I r u (upd (I r u) i x)) J)) (ms_raw 48 364 L (.int x :: .int (nI i) :: .ref (ms_ad r u) :: S) (ms_Z q w I J)) := mz_iast rfl x
set_option maxRecDepth 20000 in
theorem mi_48_365 : ms_G 48 365 L S σ = ms_G 48 380 L S σ := (ms_G_at rfl _ _ _).trans rfl
set_option maxRecDepth 20000 in
theorem mi_48_368 : ms_G 48 368 [.ref a, l1, l2, l3, l4, l5, l6, l7, l8, l9] S σ = ms_G 48 369 [.ref a, l1, l2, l3, l4, l5, l6, l7, l8, l9] (.ref a :: S) σ := (ms_G_at rfl _ _ _).trans rfl
set_option maxRecDepth 20000 in
theorem mi_48_369 : ms_G 48 369 L (.ref (ms_ad 40 0) :: S) (ms_Z q w I J) = ms_G 48 372 L (.ref (ms_ad 46 0) :: S) (ms_Z q w I J) := mz_getf (c := (2, 46)) rfl (by decide) rfl (by decide) rfl
set_option maxRecDepth 20000 in
theorem mi_48_372 : ms_G 48 372 [l0, .int x, l2, l3, l4, l5, l6, l7, l8, l9] S σ = ms_G 48 373 [l0, .int x, l2, l3, l4, l5, l6, l7, l8, l9] (.int x :: S) σ := (ms_G_at rfl _ _ _).trans rfl
set_option maxRecDepth 20000 in
theorem mi_48_373 : ms_G 48 373 L (.int x :: .ref b :: S) σ = ms_G 48 374 L (.int x :: .ref b :: .int x :: .ref b :: S) σ := (ms_G_at rfl _ _ _).trans rfl
set_option maxRecDepth 20000 in
theorem mi_48_374 : ms_G 48 374 L (.int (nI i) :: .ref (ms_ad r u) :: S) (ms_Z q w I J) = cond (mo_0 q.1 r u i) (ms_G 48 375 L (.int (I r u i) :: S) (ms_Z q w I J)) (ms_raw 48 374 L (.int (nI i) :: .ref (ms_ad r u) :: S) (ms_Z q w I J)) := mz_iald rfl
set_option maxRecDepth 20000 in
theorem mi_48_375 : ms_G 48 375 L S σ = ms_G 48 376 L (.int (nI 1) :: S) σ := (ms_G_at rfl _ _ _).trans rfl
set_option maxRecDepth 20000 in
theorem mi_48_376 : ms_G 48 376 [l0, l1, l2, .int x, l4, l5, l6, l7, l8, l9] S σ = ms_G 48 377 [l0, l1, l2, .int x, l4, l5, l6, l7, l8, l9] (.int x :: S) σ := (ms_G_at rfl _ _ _).trans rfl
set_option maxRecDepth 20000 in
theorem mi_48_377 : ms_G 48 377 L (.int y :: .int x :: S) σ = ms_G 48 378 L (.int (x <<< (y &&& 31)) :: S) σ := (ms_G_at rfl _ _ _).trans rfl
set_option maxRecDepth 20000 in
theorem mi_48_378 : ms_G 48 378 L (.int y :: .int x :: S) σ = ms_G 48 379 L (.int (x ||| y) :: S) σ := (ms_G_at rfl _ _ _).trans rfl
set_option maxRecDepth 20000 in
theorem mi_48_379 : ms_G 48 379 L (.int x :: .int (nI i) :: .ref (ms_ad r u) :: S) (ms_Z q w I J) = cond (mo_0 q.1 r u i) (ms_G 48 380 L S (ms_Z q true (ms_u I r u (upd (I r u) i x)) J)) (ms_raw 48 379 L (.int x :: .int (nI i) :: .ref (ms_ad r u) :: S) (ms_Z q w I J)) := mz_iast rfl x
set_option maxRecDepth 20000 in
theorem mi_48_380 : ms_G 48 380 [l0, l1, .int y, .int x, l4, l5, l6, l7, l8, l9] S σ = ms_G 48 383 [l0, l1, .int y, .int (x + nI 1), l4, l5, l6, l7, l8, l9] S σ := (ms_G_at rfl _ _ _).trans rfl
set_option maxRecDepth 20000 in
theorem mi_48_383 : ms_G 48 383 L S σ = ms_G 48 12 L S σ := (ms_G_at rfl _ _ _).trans rfl
set_option maxRecDepth 20000 in
theorem mi_48_386 : ms_G 48 386 L [] σ = some (.inl none, σ) := (ms_G_at rfl _ _ _).trans rfl
-- MaskedSumModel.step(I)Z
theorem mi_49_0 : ms_G 49 0 [.ref a, l1] S σ = ms_G 49 1 [.ref a, l1] (.ref a :: S) σ := (ms_G_at rfl _ _ _).trans rfl
theorem mi_49_1 : ms_G 49 1 [.ref a, l1] S σ = ms_G 49 2 [.ref a, l1] (.ref a :: S) σ := (ms_G_at rfl _ _ _).trans rfl
theorem mi_49_2 : ms_G 49 2 [l0, .int x] S σ = ms_G 49 3 [l0, .int x] (.int x :: S) σ := (ms_G_at rfl _ _ _).trans rfl
theorem mi_49_3 : ms_G 49 3 L (.int x0 :: .ref (ms_ad 40 0) :: [.ref g0]) (ms_Z q w I J) = mo_cl 49 3 6 (ms_G 37 0 [.ref (ms_ad 40 0), .int x0] [] (ms_Z q false I J)) w L [.ref g0] := (mz_call rfl rfl (mz_can1 rfl rfl rfl rfl rfl (by decide) rfl (by decide))).trans rfl
theorem mi_49_6 : ms_G 49 6 L (.int x :: S) σ = if x = nI 0 then ms_G 49 9 L S σ else ms_G 49 13 L S σ := mz_bra rfl rfl rfl
theorem mi_49_9 : ms_G 49 9 L S σ = ms_G 49 10 L (.int (nI 1) :: S) σ := (ms_G_at rfl _ _ _).trans rfl
theorem mi_49_10 : ms_G 49 10 L S σ = ms_G 49 25 L S σ := (ms_G_at rfl _ _ _).trans rfl
theorem mi_49_13 : ms_G 49 13 [.ref a, l1] S σ = ms_G 49 14 [.ref a, l1] (.ref a :: S) σ := (ms_G_at rfl _ _ _).trans rfl
theorem mi_49_14 : ms_G 49 14 L (.ref (ms_ad 40 0) :: [.ref g0]) (ms_Z q w I J) = mo_cl 49 14 17 (ms_G 36 0 [.ref (ms_ad 40 0)] [] (ms_Z q false I J)) w L [.ref g0] := (mz_call rfl rfl (mz_can1 rfl rfl rfl rfl rfl (by decide) rfl (by decide))).trans rfl
theorem mi_49_17 : ms_G 49 17 L (.int x :: S) σ = if x = nI 0 then ms_G 49 20 L S σ else ms_G 49 24 L S σ := mz_bra rfl rfl rfl
theorem mi_49_20 : ms_G 49 20 L S σ = ms_G 49 21 L (.int (nI 2) :: S) σ := (ms_G_at rfl _ _ _).trans rfl
theorem mi_49_21 : ms_G 49 21 L S σ = ms_G 49 25 L S σ := (ms_G_at rfl _ _ _).trans rfl
theorem mi_49_24 : ms_G 49 24 L S σ = ms_G 49 25 L (.int (nI 0) :: S) σ := (ms_G_at rfl _ _ _).trans rfl
theorem mi_49_25 : ms_G 49 25 L (.int x :: .ref (ms_ad 40 0) :: S) (ms_Z q w I J) = ms_G 49 28 L S (ms_Z q true (ms_u I 40 0 (upd (I 40 0) 0 x)) J) := mz_putf rfl (by decide) rfl (by decide) rfl rfl
theorem mi_49_28 : ms_G 49 28 [.ref a, l1] S σ = ms_G 49 29 [.ref a, l1] (.ref a :: S) σ := (ms_G_at rfl _ _ _).trans rfl
theorem mi_49_29 : ms_G 49 29 L (.ref (ms_ad 40 0) :: S) (ms_Z q w I J) = ms_G 49 32 L (.int (I 40 0 0) :: S) (ms_Z q w I J) := mz_getf (c := (0, 0)) rfl (by decide) rfl (by decide) rfl
theorem mi_49_32 : ms_G 49 32 L (.int x :: S) σ = if nI 0 < x then ms_G 49 60 L S σ else ms_G 49 35 L S σ := mz_bra rfl rfl rfl
theorem mi_49_35 : ms_G 49 35 [.ref a, l1] S σ = ms_G 49 36 [.ref a, l1] (.ref a :: S) σ := (ms_G_at rfl _ _ _).trans rfl
theorem mi_49_36 : ms_G 49 36 L (.ref (ms_ad 40 0) :: S) (ms_Z q w I J) = ms_G 49 39 L (.ref (ms_ad 43 0) :: S) (ms_Z q w I J) := mz_getf (c := (2, 43)) rfl (by decide) rfl (by decide) rfl
theorem mi_49_39 : ms_G 49 39 [l0, .int x] S σ = ms_G 49 40 [l0, .int x] (.int x :: S) σ := (ms_G_at rfl _ _ _).trans rfl
theorem mi_49_40 : ms_G 49 40 L (.int (nI i) :: .ref (ms_ad r u) :: S) (ms_Z q w I J) = cond (mo_0 q.1 r u i) (ms_G 49 41 L (.int (I r u i) :: S) (ms_Z q w I J)) (ms_raw 49 40 L (.int (nI i) :: .ref (ms_ad r u) :: S) (ms_Z q w I J)) := mz_iald rfl
theorem mi_49_41 : ms_G 49 41 L S σ = ms_G 49 42 L (.int (nI 3) :: S) σ := (ms_G_at rfl _ _ _).trans rfl
theorem mi_49_42 : ms_G 49 42 L (.int y :: .int x :: S) σ = if y < x then ms_G 49 60 L S σ else ms_G 49 45 L S σ := mz_bra rfl rfl rfl
theorem mi_49_45 : ms_G 49 45 [.ref a, l1] S σ = ms_G 49 46 [.ref a, l1] (.ref a :: S) σ := (ms_G_at rfl _ _ _).trans rfl
theorem mi_49_46 : ms_G 49 46 L (.ref (ms_ad 40 0) :: S) (ms_Z q w I J) = ms_G 49 49 L (.ref (ms_ad 44 0) :: S) (ms_Z q w I J) := mz_getf (c := (2, 44)) rfl (by decide) rfl (by decide) rfl
theorem mi_49_49 : ms_G 49 49 [l0, .int x] S σ = ms_G 49 50 [l0, .int x] (.int x :: S) σ := (ms_G_at rfl _ _ _).trans rfl
theorem mi_49_50 : ms_G 49 50 L (.int (nI i) :: .ref (ms_ad r u) :: S) (ms_Z q w I J) = cond (mo_0 q.1 r u i) (ms_G 49 51 L (.int (I r u i) :: S) (ms_Z q w I J)) (ms_raw 49 50 L (.int (nI i) :: .ref (ms_ad r u) :: S) (ms_Z q w I J)) := mz_iald rfl
theorem mi_49_51 : ms_G 49 51 [.ref a, l1] S σ = ms_G 49 52 [.ref a, l1] (.ref a :: S) σ := (ms_G_at rfl _ _ _).trans rfl
theorem mi_49_52 : ms_G 49 52 L (.ref (ms_ad 40 0) :: S) (ms_Z q w I J) = ms_G 49 55 L (.ref (ms_ad 43 0) :: S) (ms_Z q w I J) := mz_getf (c := (2, 43)) rfl (by decide) rfl (by decide) rfl
theorem mi_49_55 : ms_G 49 55 [l0, .int x] S σ = ms_G 49 56 [l0, .int x] (.int x :: S) σ := (ms_G_at rfl _ _ _).trans rfl
theorem mi_49_56 : ms_G 49 56 L (.int (nI i) :: .ref (ms_ad r u) :: S) (ms_Z q w I J) = cond (mo_0 q.1 r u i) (ms_G 49 57 L (.int (I r u i) :: S) (ms_Z q w I J)) (ms_raw 49 56 L (.int (nI i) :: .ref (ms_ad r u) :: S) (ms_Z q w I J)) := mz_iald rfl
theorem mi_49_57 : ms_G 49 57 L (.int y :: .int x :: S) σ = if y ≤ x then ms_G 49 62 L S σ else ms_G 49 60 L S σ := mz_bra rfl rfl rfl
theorem mi_49_60 : ms_G 49 60 L S σ = ms_G 49 61 L (.int (nI 0) :: S) σ := (ms_G_at rfl _ _ _).trans rfl
theorem mi_49_61 : ms_G 49 61 L [.int (nI 0)] σ = some (.inl (some (.int (nI 0))), σ) := (ms_G_at rfl _ _ _).trans rfl
theorem mi_49_61_1 : ms_G 49 61 L [.int (nI 1)] σ = some (.inl (some (.int (nI 1))), σ) := (ms_G_at rfl _ _ _).trans rfl
theorem mi_49_61_b (B : Bool) : ms_G 49 61 L [.int (ms_b B)] σ = some (.inl (some (.int (ms_b B))), σ) := by cases B <;> exact (ms_G_at rfl _ _ _).trans rfl
theorem mi_49_62 : ms_G 49 62 [.ref a, l1] S σ = ms_G 49 63 [.ref a, l1] (.ref a :: S) σ := (ms_G_at rfl _ _ _).trans rfl
theorem mi_49_63 : ms_G 49 63 L (.ref (ms_ad 40 0) :: S) (ms_Z q w I J) = ms_G 49 66 L (.ref (ms_ad 43 0) :: S) (ms_Z q w I J) := mz_getf (c := (2, 43)) rfl (by decide) rfl (by decide) rfl
theorem mi_49_66 : ms_G 49 66 [l0, .int x] S σ = ms_G 49 67 [l0, .int x] (.int x :: S) σ := (ms_G_at rfl _ _ _).trans rfl
theorem mi_49_67 : ms_G 49 67 L (.int (nI i) :: .ref (ms_ad r u) :: S) (ms_Z q w I J) = cond (mo_0 q.1 r u i) (ms_G 49 68 L (.int (I r u i) :: S) (ms_Z q w I J)) (ms_raw 49 67 L (.int (nI i) :: .ref (ms_ad r u) :: S) (ms_Z q w I J)) := mz_iald rfl
theorem mi_49_68 : ms_G 49 68 L (.int x :: S) σ = if x = nI 0 then ms_G 49 71 L S σ else ms_G 49 79 L S σ := mz_bra rfl rfl rfl
theorem mi_49_71 : ms_G 49 71 [.ref a, l1] S σ = ms_G 49 72 [.ref a, l1] (.ref a :: S) σ := (ms_G_at rfl _ _ _).trans rfl
theorem mi_49_72 : ms_G 49 72 [l0, .int x] S σ = ms_G 49 73 [l0, .int x] (.int x :: S) σ := (ms_G_at rfl _ _ _).trans rfl
theorem mi_49_73 : ms_G 49 73 L [.int x0, .ref (ms_ad 40 0)] (ms_Z q w I J) = mo_cl 49 73 76 (ms_G 45 0 [.ref (ms_ad 40 0), .int x0, .null] [] (ms_Z q false I J)) w L [] := (mz_call rfl rfl (mz_can1 rfl rfl rfl rfl rfl (by decide) rfl (by decide))).trans rfl
theorem mi_49_76 : ms_G 49 76 L S σ = ms_G 49 120 L S σ := (ms_G_at rfl _ _ _).trans rfl
theorem mi_49_79 : ms_G 49 79 [.ref a, l1] S σ = ms_G 49 80 [.ref a, l1] (.ref a :: S) σ := (ms_G_at rfl _ _ _).trans rfl
theorem mi_49_80 : ms_G 49 80 L (.ref (ms_ad 40 0) :: S) (ms_Z q w I J) = ms_G 49 83 L (.ref (ms_ad 43 0) :: S) (ms_Z q w I J) := mz_getf (c := (2, 43)) rfl (by decide) rfl (by decide) rfl
theorem mi_49_83 : ms_G 49 83 [l0, .int x] S σ = ms_G 49 84 [l0, .int x] (.int x :: S) σ := (ms_G_at rfl _ _ _).trans rfl
theorem mi_49_84 : ms_G 49 84 L (.int (nI i) :: .ref (ms_ad r u) :: S) (ms_Z q w I J) = cond (mo_0 q.1 r u i) (ms_G 49 85 L (.int (I r u i) :: S) (ms_Z q w I J)) (ms_raw 49 84 L (.int (nI i) :: .ref (ms_ad r u) :: S) (ms_Z q w I J)) := mz_iald rfl
theorem mi_49_85 : ms_G 49 85 L S σ = ms_G 49 86 L (.int (nI 1) :: S) σ := (ms_G_at rfl _ _ _).trans rfl
theorem mi_49_86 : ms_G 49 86 L (.int y :: .int x :: S) σ = if x = y then ms_G 49 89 L S σ else ms_G 49 97 L S σ := mz_bra rfl rfl rfl
theorem mi_49_89 : ms_G 49 89 [.ref a, l1] S σ = ms_G 49 90 [.ref a, l1] (.ref a :: S) σ := (ms_G_at rfl _ _ _).trans rfl
theorem mi_49_90 : ms_G 49 90 [l0, .int x] S σ = ms_G 49 91 [l0, .int x] (.int x :: S) σ := (ms_G_at rfl _ _ _).trans rfl
theorem mi_49_91 : ms_G 49 91 L [.int x0, .ref (ms_ad 40 0)] (ms_Z q w I J) = mo_cl 49 91 94 (ms_G 46 0 [.ref (ms_ad 40 0), .int x0, .null, .null, .null, .null, .null, .null, .null, .null, .null, .null, .null, .null, .null] [] (ms_Z q false I J)) w L [] := (mz_call rfl rfl (mz_can1 rfl rfl rfl rfl rfl (by decide) rfl (by decide))).trans rfl
theorem mi_49_94 : ms_G 49 94 L S σ = ms_G 49 120 L S σ := (ms_G_at rfl _ _ _).trans rfl
theorem mi_49_97 : ms_G 49 97 [.ref a, l1] S σ = ms_G 49 98 [.ref a, l1] (.ref a :: S) σ := (ms_G_at rfl _ _ _).trans rfl
theorem mi_49_98 : ms_G 49 98 L (.ref (ms_ad 40 0) :: S) (ms_Z q w I J) = ms_G 49 101 L (.ref (ms_ad 43 0) :: S) (ms_Z q w I J) := mz_getf (c := (2, 43)) rfl (by decide) rfl (by decide) rfl
theorem mi_49_101 : ms_G 49 101 [l0, .int x] S σ = ms_G 49 102 [l0, .int x] (.int x :: S) σ := (ms_G_at rfl _ _ _).trans rfl
theorem mi_49_102 : ms_G 49 102 L (.int (nI i) :: .ref (ms_ad r u) :: S) (ms_Z q w I J) = cond (mo_0 q.1 r u i) (ms_G 49 103 L (.int (I r u i) :: S) (ms_Z q w I J)) (ms_raw 49 102 L (.int (nI i) :: .ref (ms_ad r u) :: S) (ms_Z q w I J)) := mz_iald rfl
theorem mi_49_103 : ms_G 49 103 L S σ = ms_G 49 104 L (.int (nI 2) :: S) σ := (ms_G_at rfl _ _ _).trans rfl
theorem mi_49_104 : ms_G 49 104 L (.int y :: .int x :: S) σ = if x = y then ms_G 49 107 L S σ else ms_G 49 115 L S σ := mz_bra rfl rfl rfl
theorem mi_49_107 : ms_G 49 107 [.ref a, l1] S σ = ms_G 49 108 [.ref a, l1] (.ref a :: S) σ := (ms_G_at rfl _ _ _).trans rfl
theorem mi_49_108 : ms_G 49 108 [l0, .int x] S σ = ms_G 49 109 [l0, .int x] (.int x :: S) σ := (ms_G_at rfl _ _ _).trans rfl
theorem mi_49_109 : ms_G 49 109 L [.int x0, .ref (ms_ad 40 0)] (ms_Z q w I J) = mo_cl 49 109 112 (ms_G 47 0 [.ref (ms_ad 40 0), .int x0, .null, .null, .null, .null, .null, .null] [] (ms_Z q false I J)) w L [] := (mz_call rfl rfl (mz_can1 rfl rfl rfl rfl rfl (by decide) rfl (by decide))).trans rfl
theorem mi_49_112 : ms_G 49 112 L S σ = ms_G 49 120 L S σ := (ms_G_at rfl _ _ _).trans rfl
theorem mi_49_115 : ms_G 49 115 [.ref a, l1] S σ = ms_G 49 116 [.ref a, l1] (.ref a :: S) σ := (ms_G_at rfl _ _ _).trans rfl
theorem mi_49_116 : ms_G 49 116 [l0, .int x] S σ = ms_G 49 117 [l0, .int x] (.int x :: S) σ := (ms_G_at rfl _ _ _).trans rfl
theorem mi_49_117 : ms_G 49 117 L [.int x0, .ref (ms_ad 40 0)] (ms_Z q w I J) = mo_cl 49 117 120 (ms_G 48 0 [.ref (ms_ad 40 0), .int x0, .null, .null, .null, .null, .null, .null, .null, .null] [] (ms_Z q false I J)) w L [] := (mz_call rfl rfl (mz_can1 rfl rfl rfl rfl rfl (by decide) rfl (by decide))).trans rfl
theorem mi_49_120 : ms_G 49 120 [.ref a, l1] S σ = ms_G 49 121 [.ref a, l1] (.ref a :: S) σ := (ms_G_at rfl _ _ _).trans rfl
theorem mi_49_121 : ms_G 49 121 L (.ref (ms_ad 40 0) :: S) (ms_Z q w I J) = ms_G 49 124 L (.ref (ms_ad 43 0) :: S) (ms_Z q w I J) := mz_getf (c := (2, 43)) rfl (by decide) rfl (by decide) rfl
theorem mi_49_124 : ms_G 49 124 [l0, .int x] S σ = ms_G 49 125 [l0, .int x] (.int x :: S) σ := (ms_G_at rfl _ _ _).trans rfl
theorem mi_49_125 : ms_G 49 125 L (.int x :: .ref b :: S) σ = ms_G 49 126 L (.int x :: .ref b :: .int x :: .ref b :: S) σ := (ms_G_at rfl _ _ _).trans rfl
theorem mi_49_126 : ms_G 49 126 L (.int (nI i) :: .ref (ms_ad r u) :: S) (ms_Z q w I J) = cond (mo_0 q.1 r u i) (ms_G 49 127 L (.int (I r u i) :: S) (ms_Z q w I J)) (ms_raw 49 126 L (.int (nI i) :: .ref (ms_ad r u) :: S) (ms_Z q w I J)) := mz_iald rfl
theorem mi_49_127 : ms_G 49 127 L S σ = ms_G 49 128 L (.int (nI 1) :: S) σ := (ms_G_at rfl _ _ _).trans rfl
theorem mi_49_128 : ms_G 49 128 L (.int y :: .int x :: S) σ = ms_G 49 129 L (.int (x + y) :: S) σ := (ms_G_at rfl _ _ _).trans rfl
theorem mi_49_129 : ms_G 49 129 L (.int x :: .int (nI i) :: .ref (ms_ad r u) :: S) (ms_Z q w I J) = cond (mo_0 q.1 r u i) (ms_G 49 130 L S (ms_Z q true (ms_u I r u (upd (I r u) i x)) J)) (ms_raw 49 129 L (.int x :: .int (nI i) :: .ref (ms_ad r u) :: S) (ms_Z q w I J)) := mz_iast rfl x
theorem mi_49_130 : ms_G 49 130 L S σ = ms_G 49 131 L (.int (nI 1) :: S) σ := (ms_G_at rfl _ _ _).trans rfl
theorem mi_49_131 : ms_G 49 131 L [.int (nI 0)] σ = some (.inl (some (.int (nI 0))), σ) := (ms_G_at rfl _ _ _).trans rfl
theorem mi_49_131_1 : ms_G 49 131 L [.int (nI 1)] σ = some (.inl (some (.int (nI 1))), σ) := (ms_G_at rfl _ _ _).trans rfl
theorem mi_49_131_b (B : Bool) : ms_G 49 131 L [.int (ms_b B)] σ = some (.inl (some (.int (ms_b B))), σ) := by cases B <;> exact (ms_G_at rfl _ _ _).trans rfl
-- MaskedSumModel.answered(I)Z
theorem mi_50_0 : ms_G 50 0 [.ref a, l1, l2, l3, l4, l5, l6] S σ = ms_G 50 1 [.ref a, l1, l2, l3, l4, l5, l6] (.ref a :: S) σ := (ms_G_at rfl _ _ _).trans rfl
theorem mi_50_1 : ms_G 50 1 L (.ref (ms_ad 40 0) :: S) (ms_Z q w I J) = ms_G 50 4 L (.ref (ms_ad 56 0) :: S) (ms_Z q w I J) := mz_getf (c := (2, 56)) rfl (by decide) rfl (by decide) rfl
theorem mi_50_4 : ms_G 50 4 [l0, .int x, l2, l3, l4, l5, l6] S σ = ms_G 50 5 [l0, .int x, l2, l3, l4, l5, l6] (.int x :: S) σ := (ms_G_at rfl _ _ _).trans rfl
theorem mi_50_5 : ms_G 50 5 L (.int (nI i) :: .ref (ms_ad r u) :: S) (ms_Z q w I J) = cond (mo_0 q.1 r u i) (ms_G 50 6 L (.int (I r u i) :: S) (ms_Z q w I J)) (ms_raw 50 5 L (.int (nI i) :: .ref (ms_ad r u) :: S) (ms_Z q w I J)) := mz_iald rfl
theorem mi_50_6 : ms_G 50 6 [l0, .int y, l2, l3, l4, l5, l6] (.int x :: S) σ = ms_G 50 7 [l0, .int y, .int x, l3, l4, l5, l6] S σ := (ms_G_at rfl _ _ _).trans rfl
theorem mi_50_7 : ms_G 50 7 [.ref a, l1, l2, l3, l4, l5, l6] S σ = ms_G 50 8 [.ref a, l1, l2, l3, l4, l5, l6] (.ref a :: S) σ := (ms_G_at rfl _ _ _).trans rfl
theorem mi_50_8 : ms_G 50 8 L (.ref (ms_ad 40 0) :: S) (ms_Z q w I J) = ms_G 50 11 L (.ref (ms_ad 56 0) :: S) (ms_Z q w I J) := mz_getf (c := (2, 56)) rfl (by decide) rfl (by decide) rfl
theorem mi_50_11 : ms_G 50 11 [l0, .int x, l2, l3, l4, l5, l6] S σ = ms_G 50 12 [l0, .int x, l2, l3, l4, l5, l6] (.int x :: S) σ := (ms_G_at rfl _ _ _).trans rfl
theorem mi_50_12 : ms_G 50 12 L S σ = ms_G 50 13 L (.int (nI 1) :: S) σ := (ms_G_at rfl _ _ _).trans rfl
theorem mi_50_13 : ms_G 50 13 L (.int y :: .int x :: S) σ = ms_G 50 14 L (.int (x + y) :: S) σ := (ms_G_at rfl _ _ _).trans rfl
theorem mi_50_14 : ms_G 50 14 L (.int (nI i) :: .ref (ms_ad r u) :: S) (ms_Z q w I J) = cond (mo_0 q.1 r u i) (ms_G 50 15 L (.int (I r u i) :: S) (ms_Z q w I J)) (ms_raw 50 14 L (.int (nI i) :: .ref (ms_ad r u) :: S) (ms_Z q w I J)) := mz_iald rfl
theorem mi_50_15 : ms_G 50 15 [l0, l1, .int y, l3, l4, l5, l6] (.int x :: S) σ = ms_G 50 16 [l0, l1, .int y, .int x, l4, l5, l6] S σ := (ms_G_at rfl _ _ _).trans rfl
theorem mi_50_16 : ms_G 50 16 [.ref a, l1, l2, l3, l4, l5, l6] S σ = ms_G 50 17 [.ref a, l1, l2, l3, l4, l5, l6] (.ref a :: S) σ := (ms_G_at rfl _ _ _).trans rfl
theorem mi_50_17 : ms_G 50 17 L (.ref (ms_ad 40 0) :: S) (ms_Z q w I J) = ms_G 50 20 L (.ref (ms_ad 56 0) :: S) (ms_Z q w I J) := mz_getf (c := (2, 56)) rfl (by decide) rfl (by decide) rfl
theorem mi_50_20 : ms_G 50 20 [l0, .int x, l2, l3, l4, l5, l6] S σ = ms_G 50 21 [l0, .int x, l2, l3, l4, l5, l6] (.int x :: S) σ := (ms_G_at rfl _ _ _).trans rfl
theorem mi_50_21 : ms_G 50 21 L S σ = ms_G 50 22 L (.int (nI 4) :: S) σ := (ms_G_at rfl _ _ _).trans rfl
theorem mi_50_22 : ms_G 50 22 L (.int y :: .int x :: S) σ = ms_G 50 23 L (.int (x + y) :: S) σ := (ms_G_at rfl _ _ _).trans rfl
theorem mi_50_23 : ms_G 50 23 L (.int (nI i) :: .ref (ms_ad r u) :: S) (ms_Z q w I J) = cond (mo_0 q.1 r u i) (ms_G 50 24 L (.int (I r u i) :: S) (ms_Z q w I J)) (ms_raw 50 23 L (.int (nI i) :: .ref (ms_ad r u) :: S) (ms_Z q w I J)) := mz_iald rfl
theorem mi_50_24 : ms_G 50 24 [l0, l1, l2, .int y, l4, l5, l6] (.int x :: S) σ = ms_G 50 26 [l0, l1, l2, .int y, .int x, l5, l6] S σ := (ms_G_at rfl _ _ _).trans rfl
theorem mi_50_26 : ms_G 50 26 [.ref a, l1, l2, l3, l4, l5, l6] S σ = ms_G 50 27 [.ref a, l1, l2, l3, l4, l5, l6] (.ref a :: S) σ := (ms_G_at rfl _ _ _).trans rfl
theorem mi_50_27 : ms_G 50 27 L (.ref (ms_ad 40 0) :: S) (ms_Z q w I J) = ms_G 50 30 L (.ref (ms_ad 43 0) :: S) (ms_Z q w I J) := mz_getf (c := (2, 43)) rfl (by decide) rfl (by decide) rfl
theorem mi_50_30 : ms_G 50 30 [l0, l1, l2, .int x, l4, l5, l6] S σ = ms_G 50 31 [l0, l1, l2, .int x, l4, l5, l6] (.int x :: S) σ := (ms_G_at rfl _ _ _).trans rfl
theorem mi_50_31 : ms_G 50 31 L (.int (nI i) :: .ref (ms_ad r u) :: S) (ms_Z q w I J) = cond (mo_0 q.1 r u i) (ms_G 50 32 L (.int (I r u i) :: S) (ms_Z q w I J)) (ms_raw 50 31 L (.int (nI i) :: .ref (ms_ad r u) :: S) (ms_Z q w I J)) := mz_iald rfl
theorem mi_50_32 : ms_G 50 32 [l0, l1, .int x, l3, l4, l5, l6] S σ = ms_G 50 33 [l0, l1, .int x, l3, l4, l5, l6] (.int x :: S) σ := (ms_G_at rfl _ _ _).trans rfl
theorem mi_50_33 : ms_G 50 33 L S σ = ms_G 50 34 L (.int (nI 1) :: S) σ := (ms_G_at rfl _ _ _).trans rfl
theorem mi_50_34 : ms_G 50 34 L (.int y :: .int x :: S) σ = ms_G 50 35 L (.int (x + y) :: S) σ := (ms_G_at rfl _ _ _).trans rfl
theorem mi_50_35 : ms_G 50 35 L (.int y :: .int x :: S) σ = if x = y then ms_G 50 38 L S σ else ms_G 50 88 L S σ := mz_bra rfl rfl rfl
theorem mi_50_38 : ms_G 50 38 [.ref a, l1, l2, l3, l4, l5, l6] S σ = ms_G 50 39 [.ref a, l1, l2, l3, l4, l5, l6] (.ref a :: S) σ := (ms_G_at rfl _ _ _).trans rfl
theorem mi_50_39 : ms_G 50 39 L (.ref (ms_ad 40 0) :: S) (ms_Z q w I J) = ms_G 50 42 L (.ref (ms_ad 44 0) :: S) (ms_Z q w I J) := mz_getf (c := (2, 44)) rfl (by decide) rfl (by decide) rfl
theorem mi_50_42 : ms_G 50 42 [l0, l1, l2, .int x, l4, l5, l6] S σ = ms_G 50 43 [l0, l1, l2, .int x, l4, l5, l6] (.int x :: S) σ := (ms_G_at rfl _ _ _).trans rfl
theorem mi_50_43 : ms_G 50 43 L (.int (nI i) :: .ref (ms_ad r u) :: S) (ms_Z q w I J) = cond (mo_0 q.1 r u i) (ms_G 50 44 L (.int (I r u i) :: S) (ms_Z q w I J)) (ms_raw 50 43 L (.int (nI i) :: .ref (ms_ad r u) :: S) (ms_Z q w I J)) := mz_iald rfl
theorem mi_50_44 : ms_G 50 44 [l0, l1, .int x, l3, l4, l5, l6] S σ = ms_G 50 45 [l0, l1, .int x, l3, l4, l5, l6] (.int x :: S) σ := (ms_G_at rfl _ _ _).trans rfl
theorem mi_50_45 : ms_G 50 45 L (.int y :: .int x :: S) σ = if x = y then ms_G 50 48 L S σ else ms_G 50 88 L S σ := mz_bra rfl rfl rfl
theorem mi_50_48 : ms_G 50 48 [l0, l1, l2, l3, .int x, l5, l6] S σ = ms_G 50 50 [l0, l1, l2, l3, .int x, l5, l6] (.int x :: S) σ := (ms_G_at rfl _ _ _).trans rfl
theorem mi_50_50 : ms_G 50 50 [.ref a, l1, l2, l3, l4, l5, l6] S σ = ms_G 50 51 [.ref a, l1, l2, l3, l4, l5, l6] (.ref a :: S) σ := (ms_G_at rfl _ _ _).trans rfl
theorem mi_50_51 : ms_G 50 51 L (.ref (ms_ad 40 0) :: S) (ms_Z q w I J) = ms_G 50 54 L (.int (I 40 0 1) :: S) (ms_Z q w I J) := mz_getf (c := (0, 1)) rfl (by decide) rfl (by decide) rfl
theorem mi_50_54 : ms_G 50 54 L (.int y :: .int x :: S) σ = ms_G 50 55 L (.int (x >>> (y &&& 31)) :: S) σ := (ms_G_at rfl _ _ _).trans rfl
theorem mi_50_55 : ms_G 50 55 L (.int x :: S) σ = if x = nI 0 then ms_G 50 58 L S σ else ms_G 50 88 L S σ := mz_bra rfl rfl rfl
theorem mi_50_58 : ms_G 50 58 [l0, l1, l2, l3, .int x, l5, l6] S σ = ms_G 50 60 [l0, l1, l2, l3, .int x, l5, l6] (.int x :: S) σ := (ms_G_at rfl _ _ _).trans rfl
theorem mi_50_60 : ms_G 50 60 L [.int x0] (ms_Z q w I J) = mo_cl 50 60 63 (ms_G 43 0 [.int x0, .null, .null] [] (ms_Z q false I J)) w L [] := (mz_call rfl rfl (mz_can0 rfl rfl rfl rfl rfl)).trans rfl
theorem mi_50_63 : ms_G 50 63 [.ref a, l1, l2, l3, l4, l5, l6] S σ = ms_G 50 64 [.ref a, l1, l2, l3, l4, l5, l6] (.ref a :: S) σ := (ms_G_at rfl _ _ _).trans rfl
theorem mi_50_64 : ms_G 50 64 L (.ref (ms_ad 40 0) :: S) (ms_Z q w I J) = ms_G 50 67 L (.int (I 40 0 2) :: S) (ms_Z q w I J) := mz_getf (c := (0, 2)) rfl (by decide) rfl (by decide) rfl
theorem mi_50_67 : ms_G 50 67 L (.int y :: .int x :: S) σ = if x < y then ms_G 50 88 L S σ else ms_G 50 70 L S σ := mz_bra rfl rfl rfl
theorem mi_50_70 : ms_G 50 70 [l0, l1, .int x, l3, l4, l5, l6] S σ = ms_G 50 71 [l0, l1, .int x, l3, l4, l5, l6] (.int x :: S) σ := (ms_G_at rfl _ _ _).trans rfl
theorem mi_50_71 : ms_G 50 71 L S σ = ms_G 50 72 L (.int (nI 2) :: S) σ := (ms_G_at rfl _ _ _).trans rfl
theorem mi_50_72 : ms_G 50 72 L (.int y :: .int x :: S) σ = if x = y then ms_G 50 84 L S σ else ms_G 50 75 L S σ := mz_bra rfl rfl rfl
theorem mi_50_75 : ms_G 50 75 [l0, l1, l2, l3, .int x, l5, l6] S σ = ms_G 50 77 [l0, l1, l2, l3, .int x, l5, l6] (.int x :: S) σ := (ms_G_at rfl _ _ _).trans rfl
theorem mi_50_77 : ms_G 50 77 [l0, l1, l2, .int x, l4, l5, l6] S σ = ms_G 50 78 [l0, l1, l2, .int x, l4, l5, l6] (.int x :: S) σ := (ms_G_at rfl _ _ _).trans rfl
theorem mi_50_78 : ms_G 50 78 L [.int x1, .int x0] (ms_Z q w I J) = mo_cl 50 78 81 (ms_G 42 0 [.int x0, .int x1] [] (ms_Z q false I J)) w L [] := (mz_call rfl rfl (mz_can0 rfl rfl rfl rfl rfl)).trans rfl
theorem mi_50_81 : ms_G 50 81 L (.int x :: S) σ = if x = nI 0 then ms_G 50 88 L S σ else ms_G 50 84 L S σ := mz_bra rfl rfl rfl
theorem mi_50_84 : ms_G 50 84 L S σ = ms_G 50 85 L (.int (nI 1) :: S) σ := (ms_G_at rfl _ _ _).trans rfl
theorem mi_50_85 : ms_G 50 85 L S σ = ms_G 50 89 L S σ := (ms_G_at rfl _ _ _).trans rfl
theorem mi_50_88 : ms_G 50 88 L S σ = ms_G 50 89 L (.int (nI 0) :: S) σ := (ms_G_at rfl _ _ _).trans rfl
theorem mi_50_89 : ms_G 50 89 [l0, l1, l2, l3, .int y, l5, l6] (.int x :: S) σ = ms_G 50 91 [l0, l1, l2, l3, .int y, .int x, l6] S σ := (ms_G_at rfl _ _ _).trans rfl
theorem mi_50_91 : ms_G 50 91 [l0, l1, l2, l3, l4, .int x, l6] S σ = ms_G 50 93 [l0, l1, l2, l3, l4, .int x, l6] (.int x :: S) σ := (ms_G_at rfl _ _ _).trans rfl
theorem mi_50_93 : ms_G 50 93 L (.int x :: S) σ = if x = nI 0 then ms_G 50 127 L S σ else ms_G 50 96 L S σ := mz_bra rfl rfl rfl
theorem mi_50_96 : ms_G 50 96 [l0, l1, .int x, l3, l4, l5, l6] S σ = ms_G 50 97 [l0, l1, .int x, l3, l4, l5, l6] (.int x :: S) σ := (ms_G_at rfl _ _ _).trans rfl
theorem mi_50_97 : ms_G 50 97 L (.int x :: S) σ = if x ≤ nI 0 then ms_G 50 127 L S σ else ms_G 50 100 L S σ := mz_bra rfl rfl rfl
theorem mi_50_100 : ms_G 50 100 [l0, l1, l2, l3, .int x, l5, l6] S σ = ms_G 50 102 [l0, l1, l2, l3, .int x, l5, l6] (.int x :: S) σ := (ms_G_at rfl _ _ _).trans rfl
theorem mi_50_102 : ms_G 50 102 [.ref a, l1, l2, l3, l4, l5, l6] S σ = ms_G 50 103 [.ref a, l1, l2, l3, l4, l5, l6] (.ref a :: S) σ := (ms_G_at rfl _ _ _).trans rfl
theorem mi_50_103 : ms_G 50 103 L (.ref (ms_ad 40 0) :: S) (ms_Z q w I J) = ms_G 50 106 L (.ref (ms_ad 47 0) :: S) (ms_Z q w I J) := mz_getf (c := (2, 47)) rfl (by decide) rfl (by decide) rfl
theorem mi_50_106 : ms_G 50 106 L S σ = ms_G 50 107 L (.int (nI 3) :: S) σ := (ms_G_at rfl _ _ _).trans rfl
theorem mi_50_107 : ms_G 50 107 [l0, l1, l2, .int x, l4, l5, l6] S σ = ms_G 50 108 [l0, l1, l2, .int x, l4, l5, l6] (.int x :: S) σ := (ms_G_at rfl _ _ _).trans rfl
theorem mi_50_108 : ms_G 50 108 L (.int y :: .int x :: S) σ = ms_G 50 109 L (.int (x * y) :: S) σ := (ms_G_at rfl _ _ _).trans rfl
theorem mi_50_109 : ms_G 50 109 [l0, l1, .int x, l3, l4, l5, l6] S σ = ms_G 50 110 [l0, l1, .int x, l3, l4, l5, l6] (.int x :: S) σ := (ms_G_at rfl _ _ _).trans rfl
theorem mi_50_110 : ms_G 50 110 L (.int y :: .int x :: S) σ = ms_G 50 111 L (.int (x + y) :: S) σ := (ms_G_at rfl _ _ _).trans rfl
theorem mi_50_111 : ms_G 50 111 L S σ = ms_G 50 112 L (.int (nI 1) :: S) σ := (ms_G_at rfl _ _ _).trans rfl
theorem mi_50_112 : ms_G 50 112 L (.int y :: .int x :: S) σ = ms_G 50 113 L (.int (x - y) :: S) σ := (ms_G_at rfl _ _ _).trans rfl
theorem mi_50_113 : ms_G 50 113 L (.int (nI i) :: .ref (ms_ad r u) :: S) (ms_Z q w I J) = cond (mo_0 q.1 r u i) (ms_G 50 114 L (.int (I r u i) :: S) (ms_Z q w I J)) (ms_raw 50 113 L (.int (nI i) :: .ref (ms_ad r u) :: S) (ms_Z q w I J)) := mz_iald rfl
theorem mi_50_114 : ms_G 50 114 L S σ = ms_G 50 115 L (.int (-1) :: S) σ := (ms_G_at rfl _ _ _).trans rfl
theorem mi_50_115 : ms_G 50 115 L (.int y :: .int x :: S) σ = ms_G 50 116 L (.int (x ^^^ y) :: S) σ := (ms_G_at rfl _ _ _).trans rfl
theorem mi_50_116 : ms_G 50 116 L (.int y :: .int x :: S) σ = ms_G 50 117 L (.int (x &&& y) :: S) σ := (ms_G_at rfl _ _ _).trans rfl
theorem mi_50_117 : ms_G 50 117 L (.int x :: S) σ = if x = nI 0 then ms_G 50 120 L S σ else ms_G 50 124 L S σ := mz_bra rfl rfl rfl
theorem mi_50_120 : ms_G 50 120 L S σ = ms_G 50 121 L (.int (nI 1) :: S) σ := (ms_G_at rfl _ _ _).trans rfl
theorem mi_50_121 : ms_G 50 121 L S σ = ms_G 50 125 L S σ := (ms_G_at rfl _ _ _).trans rfl
theorem mi_50_124 : ms_G 50 124 L S σ = ms_G 50 125 L (.int (nI 0) :: S) σ := (ms_G_at rfl _ _ _).trans rfl
theorem mi_50_125 : ms_G 50 125 [l0, l1, l2, l3, .int y, l5, l6] (.int x :: S) σ = ms_G 50 127 [l0, l1, l2, l3, .int y, .int x, l6] S σ := (ms_G_at rfl _ _ _).trans rfl
theorem mi_50_127 : ms_G 50 127 [l0, l1, l2, l3, l4, .int x, l6] S σ = ms_G 50 129 [l0, l1, l2, l3, l4, .int x, l6] (.int x :: S) σ := (ms_G_at rfl _ _ _).trans rfl
theorem mi_50_129 : ms_G 50 129 L (.int x :: S) σ = if x = nI 0 then ms_G 50 132 L S σ else ms_G 50 134 L S σ := mz_bra rfl rfl rfl
theorem mi_50_132 : ms_G 50 132 L S σ = ms_G 50 133 L (.int (nI 0) :: S) σ := (ms_G_at rfl _ _ _).trans rfl
theorem mi_50_133 : ms_G 50 133 L [.int (nI 0)] σ = some (.inl (some (.int (nI 0))), σ) := (ms_G_at rfl _ _ _).trans rfl
theorem mi_50_133_1 : ms_G 50 133 L [.int (nI 1)] σ = some (.inl (some (.int (nI 1))), σ) := (ms_G_at rfl _ _ _).trans rfl
theorem mi_50_133_b (B : Bool) : ms_G 50 133 L [.int (ms_b B)] σ = some (.inl (some (.int (ms_b B))), σ) := by cases B <;> exact (ms_G_at rfl _ _ _).trans rfl
theorem mi_50_134 : ms_G 50 134 [.ref a, l1, l2, l3, l4, l5, l6] S σ = ms_G 50 135 [.ref a, l1, l2, l3, l4, l5, l6] (.ref a :: S) σ := (ms_G_at rfl _ _ _).trans rfl
theorem mi_50_135 : ms_G 50 135 L (.ref (ms_ad 40 0) :: S) (ms_Z q w I J) = ms_G 50 138 L (.ref (ms_ad 44 0) :: S) (ms_Z q w I J) := mz_getf (c := (2, 44)) rfl (by decide) rfl (by decide) rfl
theorem mi_50_138 : ms_G 50 138 [l0, l1, l2, .int x, l4, l5, l6] S σ = ms_G 50 139 [l0, l1, l2, .int x, l4, l5, l6] (.int x :: S) σ := (ms_G_at rfl _ _ _).trans rfl
theorem mi_50_139 : ms_G 50 139 L (.int x :: .ref b :: S) σ = ms_G 50 140 L (.int x :: .ref b :: .int x :: .ref b :: S) σ := (ms_G_at rfl _ _ _).trans rfl
theorem mi_50_140 : ms_G 50 140 L (.int (nI i) :: .ref (ms_ad r u) :: S) (ms_Z q w I J) = cond (mo_0 q.1 r u i) (ms_G 50 141 L (.int (I r u i) :: S) (ms_Z q w I J)) (ms_raw 50 140 L (.int (nI i) :: .ref (ms_ad r u) :: S) (ms_Z q w I J)) := mz_iald rfl
theorem mi_50_141 : ms_G 50 141 L S σ = ms_G 50 142 L (.int (nI 1) :: S) σ := (ms_G_at rfl _ _ _).trans rfl
theorem mi_50_142 : ms_G 50 142 L (.int y :: .int x :: S) σ = ms_G 50 143 L (.int (x + y) :: S) σ := (ms_G_at rfl _ _ _).trans rfl
theorem mi_50_143 : ms_G 50 143 L (.int x :: .int (nI i) :: .ref (ms_ad r u) :: S) (ms_Z q w I J) = cond (mo_0 q.1 r u i) (ms_G 50 144 L S (ms_Z q true (ms_u I r u (upd (I r u) i x)) J)) (ms_raw 50 143 L (.int x :: .int (nI i) :: .ref (ms_ad r u) :: S) (ms_Z q w I J)) := mz_iast rfl x
theorem mi_50_144 : ms_G 50 144 [.ref a, l1, l2, l3, l4, l5, l6] S σ = ms_G 50 145 [.ref a, l1, l2, l3, l4, l5, l6] (.ref a :: S) σ := (ms_G_at rfl _ _ _).trans rfl
theorem mi_50_145 : ms_G 50 145 L (.ref (ms_ad 40 0) :: S) (ms_Z q w I J) = ms_G 50 148 L (.ref (ms_ad 47 0) :: S) (ms_Z q w I J) := mz_getf (c := (2, 47)) rfl (by decide) rfl (by decide) rfl
theorem mi_50_148 : ms_G 50 148 L S σ = ms_G 50 149 L (.int (nI 3) :: S) σ := (ms_G_at rfl _ _ _).trans rfl
theorem mi_50_149 : ms_G 50 149 [l0, l1, l2, .int x, l4, l5, l6] S σ = ms_G 50 150 [l0, l1, l2, .int x, l4, l5, l6] (.int x :: S) σ := (ms_G_at rfl _ _ _).trans rfl
theorem mi_50_150 : ms_G 50 150 L (.int y :: .int x :: S) σ = ms_G 50 151 L (.int (x * y) :: S) σ := (ms_G_at rfl _ _ _).trans rfl
theorem mi_50_151 : ms_G 50 151 [l0, l1, .int x, l3, l4, l5, l6] S σ = ms_G 50 152 [l0, l1, .int x, l3, l4, l5, l6] (.int x :: S) σ := (ms_G_at rfl _ _ _).trans rfl
theorem mi_50_152 : ms_G 50 152 L (.int y :: .int x :: S) σ = ms_G 50 153 L (.int (x + y) :: S) σ := (ms_G_at rfl _ _ _).trans rfl
theorem mi_50_153 : ms_G 50 153 [l0, l1, l2, l3, .int x, l5, l6] S σ = ms_G 50 155 [l0, l1, l2, l3, .int x, l5, l6] (.int x :: S) σ := (ms_G_at rfl _ _ _).trans rfl
theorem mi_50_155 : ms_G 50 155 L (.int x :: .int (nI i) :: .ref (ms_ad r u) :: S) (ms_Z q w I J) = cond (mo_0 q.1 r u i) (ms_G 50 156 L S (ms_Z q true (ms_u I r u (upd (I r u) i x)) J)) (ms_raw 50 155 L (.int x :: .int (nI i) :: .ref (ms_ad r u) :: S) (ms_Z q w I J)) := mz_iast rfl x
theorem mi_50_156 : ms_G 50 156 L S σ = ms_G 50 157 L (.int (nI 0) :: S) σ := (ms_G_at rfl _ _ _).trans rfl
theorem mi_50_157 : ms_G 50 157 [l0, l1, l2, l3, l4, .int y, l6] (.int x :: S) σ = ms_G 50 159 [l0, l1, l2, l3, l4, .int y, .int x] S σ := (ms_G_at rfl _ _ _).trans rfl
theorem mi_50_159 : ms_G 50 159 [l0, l1, l2, l3, l4, l5, .int x] S σ = ms_G 50 161 [l0, l1, l2, l3, l4, l5, .int x] (.int x :: S) σ := (ms_G_at rfl _ _ _).trans rfl
theorem mi_50_161 : ms_G 50 161 L S σ = ms_G 50 163 L (.int (nI 32) :: S) σ := (ms_G_at rfl _ _ _).trans rfl
theorem mi_50_163 : ms_G 50 163 L (.int y :: .int x :: S) σ = if y ≤ x then ms_G 50 199 L S σ else ms_G 50 166 L S σ := mz_bra rfl rfl rfl
theorem mi_50_166 : ms_G 50 166 [l0, l1, .int x, l3, l4, l5, l6] S σ = ms_G 50 167 [l0, l1, .int x, l3, l4, l5, l6] (.int x :: S) σ := (ms_G_at rfl _ _ _).trans rfl
theorem mi_50_167 : ms_G 50 167 L (.int x :: S) σ = if x = nI 0 then ms_G 50 170 L S σ else ms_G 50 199 L S σ := mz_bra rfl rfl rfl
theorem mi_50_170 : ms_G 50 170 [.ref a, l1, l2, l3, l4, l5, l6] S σ = ms_G 50 171 [.ref a, l1, l2, l3, l4, l5, l6] (.ref a :: S) σ := (ms_G_at rfl _ _ _).trans rfl
theorem mi_50_171 : ms_G 50 171 L (.ref (ms_ad 40 0) :: S) (ms_Z q w I J) = ms_G 50 174 L (.ref (ms_ad 48 0) :: S) (ms_Z q w I J) := mz_getf (c := (2, 48)) rfl (by decide) rfl (by decide) rfl
theorem mi_50_174 : ms_G 50 174 L S σ = ms_G 50 176 L (.int (nI 32) :: S) σ := (ms_G_at rfl _ _ _).trans rfl
theorem mi_50_176 : ms_G 50 176 [l0, l1, l2, .int x, l4, l5, l6] S σ = ms_G 50 177 [l0, l1, l2, .int x, l4, l5, l6] (.int x :: S) σ := (ms_G_at rfl _ _ _).trans rfl
theorem mi_50_177 : ms_G 50 177 L (.int y :: .int x :: S) σ = ms_G 50 178 L (.int (x * y) :: S) σ := (ms_G_at rfl _ _ _).trans rfl
theorem mi_50_178 : ms_G 50 178 [l0, l1, l2, l3, l4, l5, .int x] S σ = ms_G 50 180 [l0, l1, l2, l3, l4, l5, .int x] (.int x :: S) σ := (ms_G_at rfl _ _ _).trans rfl
theorem mi_50_180 : ms_G 50 180 L (.int y :: .int x :: S) σ = ms_G 50 181 L (.int (x + y) :: S) σ := (ms_G_at rfl _ _ _).trans rfl
theorem mi_50_181 : ms_G 50 181 [.ref a, l1, l2, l3, l4, l5, l6] S σ = ms_G 50 182 [.ref a, l1, l2, l3, l4, l5, l6] (.ref a :: S) σ := (ms_G_at rfl _ _ _).trans rfl
theorem mi_50_182 : ms_G 50 182 L (.ref (ms_ad 40 0) :: S) (ms_Z q w I J) = ms_G 50 185 L (.ref (ms_ad 56 0) :: S) (ms_Z q w I J) := mz_getf (c := (2, 56)) rfl (by decide) rfl (by decide) rfl
theorem mi_50_185 : ms_G 50 185 [l0, .int x, l2, l3, l4, l5, l6] S σ = ms_G 50 186 [l0, .int x, l2, l3, l4, l5, l6] (.int x :: S) σ := (ms_G_at rfl _ _ _).trans rfl
theorem mi_50_186 : ms_G 50 186 L S σ = ms_G 50 187 L (.int (nI 5) :: S) σ := (ms_G_at rfl _ _ _).trans rfl
theorem mi_50_187 : ms_G 50 187 L (.int y :: .int x :: S) σ = ms_G 50 188 L (.int (x + y) :: S) σ := (ms_G_at rfl _ _ _).trans rfl
theorem mi_50_188 : ms_G 50 188 [l0, l1, l2, l3, l4, l5, .int x] S σ = ms_G 50 190 [l0, l1, l2, l3, l4, l5, .int x] (.int x :: S) σ := (ms_G_at rfl _ _ _).trans rfl
theorem mi_50_190 : ms_G 50 190 L (.int y :: .int x :: S) σ = ms_G 50 191 L (.int (x + y) :: S) σ := (ms_G_at rfl _ _ _).trans rfl
theorem mi_50_191 : ms_G 50 191 L (.int (nI i) :: .ref (ms_ad r u) :: S) (ms_Z q w I J) = cond (mo_0 q.1 r u i) (ms_G 50 192 L (.int (I r u i) :: S) (ms_Z q w I J)) (ms_raw 50 191 L (.int (nI i) :: .ref (ms_ad r u) :: S) (ms_Z q w I J)) := mz_iald rfl
theorem mi_50_192 : ms_G 50 192 L (.int x :: .int (nI i) :: .ref (ms_ad r u) :: S) (ms_Z q w I J) = cond (mo_0 q.1 r u i) (ms_G 50 193 L S (ms_Z q true (ms_u I r u (upd (I r u) i x)) J)) (ms_raw 50 192 L (.int x :: .int (nI i) :: .ref (ms_ad r u) :: S) (ms_Z q w I J)) := mz_iast rfl x
theorem mi_50_193 : ms_G 50 193 [l0, l1, l2, l3, l4, .int y, .int x] S σ = ms_G 50 196 [l0, l1, l2, l3, l4, .int y, .int (x + nI 1)] S σ := (ms_G_at rfl _ _ _).trans rfl
theorem mi_50_196 : ms_G 50 196 L S σ = ms_G 50 159 L S σ := (ms_G_at rfl _ _ _).trans rfl
theorem mi_50_199 : ms_G 50 199 L S σ = ms_G 50 200 L (.int (nI 0) :: S) σ := (ms_G_at rfl _ _ _).trans rfl
theorem mi_50_200 : ms_G 50 200 [l0, l1, l2, l3, l4, .int y, l6] (.int x :: S) σ = ms_G 50 202 [l0, l1, l2, l3, l4, .int y, .int x] S σ := (ms_G_at rfl _ _ _).trans rfl
theorem mi_50_202 : ms_G 50 202 [l0, l1, l2, l3, l4, l5, .int x] S σ = ms_G 50 204 [l0, l1, l2, l3, l4, l5, .int x] (.int x :: S) σ := (ms_G_at rfl _ _ _).trans rfl
theorem mi_50_204 : ms_G 50 204 L S σ = ms_G 50 206 L (.int (nI 64) :: S) σ := (ms_G_at rfl _ _ _).trans rfl
theorem mi_50_206 : ms_G 50 206 L (.int y :: .int x :: S) σ = if y ≤ x then ms_G 50 243 L S σ else ms_G 50 209 L S σ := mz_bra rfl rfl rfl
theorem mi_50_209 : ms_G 50 209 [l0, l1, .int x, l3, l4, l5, l6] S σ = ms_G 50 210 [l0, l1, .int x, l3, l4, l5, l6] (.int x :: S) σ := (ms_G_at rfl _ _ _).trans rfl
theorem mi_50_210 : ms_G 50 210 L S σ = ms_G 50 211 L (.int (nI 1) :: S) σ := (ms_G_at rfl _ _ _).trans rfl
theorem mi_50_211 : ms_G 50 211 L (.int y :: .int x :: S) σ = if x = y then ms_G 50 214 L S σ else ms_G 50 243 L S σ := mz_bra rfl rfl rfl
theorem mi_50_214 : ms_G 50 214 [.ref a, l1, l2, l3, l4, l5, l6] S σ = ms_G 50 215 [.ref a, l1, l2, l3, l4, l5, l6] (.ref a :: S) σ := (ms_G_at rfl _ _ _).trans rfl
theorem mi_50_215 : ms_G 50 215 L (.ref (ms_ad 40 0) :: S) (ms_Z q w I J) = ms_G 50 218 L (.ref (ms_ad 49 0) :: S) (ms_Z q w I J) := mz_getf (c := (2, 49)) rfl (by decide) rfl (by decide) rfl
theorem mi_50_218 : ms_G 50 218 L S σ = ms_G 50 220 L (.int (nI 64) :: S) σ := (ms_G_at rfl _ _ _).trans rfl
theorem mi_50_220 : ms_G 50 220 [l0, l1, l2, .int x, l4, l5, l6] S σ = ms_G 50 221 [l0, l1, l2, .int x, l4, l5, l6] (.int x :: S) σ := (ms_G_at rfl _ _ _).trans rfl
theorem mi_50_221 : ms_G 50 221 L (.int y :: .int x :: S) σ = ms_G 50 222 L (.int (x * y) :: S) σ := (ms_G_at rfl _ _ _).trans rfl
theorem mi_50_222 : ms_G 50 222 [l0, l1, l2, l3, l4, l5, .int x] S σ = ms_G 50 224 [l0, l1, l2, l3, l4, l5, .int x] (.int x :: S) σ := (ms_G_at rfl _ _ _).trans rfl
theorem mi_50_224 : ms_G 50 224 L (.int y :: .int x :: S) σ = ms_G 50 225 L (.int (x + y) :: S) σ := (ms_G_at rfl _ _ _).trans rfl
theorem mi_50_225 : ms_G 50 225 [.ref a, l1, l2, l3, l4, l5, l6] S σ = ms_G 50 226 [.ref a, l1, l2, l3, l4, l5, l6] (.ref a :: S) σ := (ms_G_at rfl _ _ _).trans rfl
theorem mi_50_226 : ms_G 50 226 L (.ref (ms_ad 40 0) :: S) (ms_Z q w I J) = ms_G 50 229 L (.ref (ms_ad 56 0) :: S) (ms_Z q w I J) := mz_getf (c := (2, 56)) rfl (by decide) rfl (by decide) rfl
theorem mi_50_229 : ms_G 50 229 [l0, .int x, l2, l3, l4, l5, l6] S σ = ms_G 50 230 [l0, .int x, l2, l3, l4, l5, l6] (.int x :: S) σ := (ms_G_at rfl _ _ _).trans rfl
theorem mi_50_230 : ms_G 50 230 L S σ = ms_G 50 231 L (.int (nI 5) :: S) σ := (ms_G_at rfl _ _ _).trans rfl
theorem mi_50_231 : ms_G 50 231 L (.int y :: .int x :: S) σ = ms_G 50 232 L (.int (x + y) :: S) σ := (ms_G_at rfl _ _ _).trans rfl
theorem mi_50_232 : ms_G 50 232 [l0, l1, l2, l3, l4, l5, .int x] S σ = ms_G 50 234 [l0, l1, l2, l3, l4, l5, .int x] (.int x :: S) σ := (ms_G_at rfl _ _ _).trans rfl
theorem mi_50_234 : ms_G 50 234 L (.int y :: .int x :: S) σ = ms_G 50 235 L (.int (x + y) :: S) σ := (ms_G_at rfl _ _ _).trans rfl
theorem mi_50_235 : ms_G 50 235 L (.int (nI i) :: .ref (ms_ad r u) :: S) (ms_Z q w I J) = cond (mo_0 q.1 r u i) (ms_G 50 236 L (.int (I r u i) :: S) (ms_Z q w I J)) (ms_raw 50 235 L (.int (nI i) :: .ref (ms_ad r u) :: S) (ms_Z q w I J)) := mz_iald rfl
theorem mi_50_236 : ms_G 50 236 L (.int x :: .int (nI i) :: .ref (ms_ad r u) :: S) (ms_Z q w I J) = cond (mo_0 q.1 r u i) (ms_G 50 237 L S (ms_Z q true (ms_u I r u (upd (I r u) i x)) J)) (ms_raw 50 236 L (.int x :: .int (nI i) :: .ref (ms_ad r u) :: S) (ms_Z q w I J)) := mz_iast rfl x
theorem mi_50_237 : ms_G 50 237 [l0, l1, l2, l3, l4, .int y, .int x] S σ = ms_G 50 240 [l0, l1, l2, l3, l4, .int y, .int (x + nI 1)] S σ := (ms_G_at rfl _ _ _).trans rfl
theorem mi_50_240 : ms_G 50 240 L S σ = ms_G 50 202 L S σ := (ms_G_at rfl _ _ _).trans rfl
theorem mi_50_243 : ms_G 50 243 L S σ = ms_G 50 244 L (.int (nI 1) :: S) σ := (ms_G_at rfl _ _ _).trans rfl
theorem mi_50_244 : ms_G 50 244 L [.int (nI 0)] σ = some (.inl (some (.int (nI 0))), σ) := (ms_G_at rfl _ _ _).trans rfl
theorem mi_50_244_1 : ms_G 50 244 L [.int (nI 1)] σ = some (.inl (some (.int (nI 1))), σ) := (ms_G_at rfl _ _ _).trans rfl
theorem mi_50_244_b (B : Bool) : ms_G 50 244 L [.int (ms_b B)] σ = some (.inl (some (.int (ms_b B))), σ) := by cases B <;> exact (ms_G_at rfl _ _ _).trans rfl
-- MaskedSumModel.heard(I)Z
theorem mi_51_0 : ms_G 51 0 [.ref a, l1, l2, l3, l4, l5] S σ = ms_G 51 1 [.ref a, l1, l2, l3, l4, l5] (.ref a :: S) σ := (ms_G_at rfl _ _ _).trans rfl
theorem mi_51_1 : ms_G 51 1 L (.ref (ms_ad 40 0) :: S) (ms_Z q w I J) = ms_G 51 4 L (.ref (ms_ad 56 0) :: S) (ms_Z q w I J) := mz_getf (c := (2, 56)) rfl (by decide) rfl (by decide) rfl
theorem mi_51_4 : ms_G 51 4 [l0, .int x, l2, l3, l4, l5] S σ = ms_G 51 5 [l0, .int x, l2, l3, l4, l5] (.int x :: S) σ := (ms_G_at rfl _ _ _).trans rfl
theorem mi_51_5 : ms_G 51 5 L (.int (nI i) :: .ref (ms_ad r u) :: S) (ms_Z q w I J) = cond (mo_0 q.1 r u i) (ms_G 51 6 L (.int (I r u i) :: S) (ms_Z q w I J)) (ms_raw 51 5 L (.int (nI i) :: .ref (ms_ad r u) :: S) (ms_Z q w I J)) := mz_iald rfl
theorem mi_51_6 : ms_G 51 6 [l0, .int y, l2, l3, l4, l5] (.int x :: S) σ = ms_G 51 7 [l0, .int y, .int x, l3, l4, l5] S σ := (ms_G_at rfl _ _ _).trans rfl
theorem mi_51_7 : ms_G 51 7 [.ref a, l1, l2, l3, l4, l5] S σ = ms_G 51 8 [.ref a, l1, l2, l3, l4, l5] (.ref a :: S) σ := (ms_G_at rfl _ _ _).trans rfl
theorem mi_51_8 : ms_G 51 8 L (.ref (ms_ad 40 0) :: S) (ms_Z q w I J) = ms_G 51 11 L (.ref (ms_ad 56 0) :: S) (ms_Z q w I J) := mz_getf (c := (2, 56)) rfl (by decide) rfl (by decide) rfl
theorem mi_51_11 : ms_G 51 11 [l0, .int x, l2, l3, l4, l5] S σ = ms_G 51 12 [l0, .int x, l2, l3, l4, l5] (.int x :: S) σ := (ms_G_at rfl _ _ _).trans rfl
theorem mi_51_12 : ms_G 51 12 L S σ = ms_G 51 13 L (.int (nI 1) :: S) σ := (ms_G_at rfl _ _ _).trans rfl
theorem mi_51_13 : ms_G 51 13 L (.int y :: .int x :: S) σ = ms_G 51 14 L (.int (x + y) :: S) σ := (ms_G_at rfl _ _ _).trans rfl
theorem mi_51_14 : ms_G 51 14 L (.int (nI i) :: .ref (ms_ad r u) :: S) (ms_Z q w I J) = cond (mo_0 q.1 r u i) (ms_G 51 15 L (.int (I r u i) :: S) (ms_Z q w I J)) (ms_raw 51 14 L (.int (nI i) :: .ref (ms_ad r u) :: S) (ms_Z q w I J)) := mz_iald rfl
theorem mi_51_15 : ms_G 51 15 [l0, l1, .int y, l3, l4, l5] (.int x :: S) σ = ms_G 51 16 [l0, l1, .int y, .int x, l4, l5] S σ := (ms_G_at rfl _ _ _).trans rfl
theorem mi_51_16 : ms_G 51 16 [l0, l1, .int x, l3, l4, l5] S σ = ms_G 51 17 [l0, l1, .int x, l3, l4, l5] (.int x :: S) σ := (ms_G_at rfl _ _ _).trans rfl
theorem mi_51_17 : ms_G 51 17 [.ref a, l1, l2, l3, l4, l5] S σ = ms_G 51 18 [.ref a, l1, l2, l3, l4, l5] (.ref a :: S) σ := (ms_G_at rfl _ _ _).trans rfl
theorem mi_51_18 : ms_G 51 18 L (.ref (ms_ad 40 0) :: S) (ms_Z q w I J) = ms_G 51 21 L (.int (I 40 0 3) :: S) (ms_Z q w I J) := mz_getf (c := (0, 3)) rfl (by decide) rfl (by decide) rfl
theorem mi_51_21 : ms_G 51 21 L (.int y :: .int x :: S) σ = if x = y then ms_G 51 24 L S σ else ms_G 51 65 L S σ := mz_bra rfl rfl rfl
theorem mi_51_24 : ms_G 51 24 [.ref a, l1, l2, l3, l4, l5] S σ = ms_G 51 25 [.ref a, l1, l2, l3, l4, l5] (.ref a :: S) σ := (ms_G_at rfl _ _ _).trans rfl
theorem mi_51_25 : ms_G 51 25 L (.ref (ms_ad 40 0) :: S) (ms_Z q w I J) = ms_G 51 28 L (.ref (ms_ad 51 0) :: S) (ms_Z q w I J) := mz_getf (c := (2, 51)) rfl (by decide) rfl (by decide) rfl
theorem mi_51_28 : ms_G 51 28 [l0, l1, .int x, l3, l4, l5] S σ = ms_G 51 29 [l0, l1, .int x, l3, l4, l5] (.int x :: S) σ := (ms_G_at rfl _ _ _).trans rfl
theorem mi_51_29 : ms_G 51 29 L (.int (nI i) :: .ref (ms_ad r u) :: S) (ms_Z q w I J) = cond (mo_0 q.1 r u i) (ms_G 51 30 L (.int (I r u i) :: S) (ms_Z q w I J)) (ms_raw 51 29 L (.int (nI i) :: .ref (ms_ad r u) :: S) (ms_Z q w I J)) := mz_iald rfl
theorem mi_51_30 : ms_G 51 30 [l0, l1, l2, .int x, l4, l5] S σ = ms_G 51 31 [l0, l1, l2, .int x, l4, l5] (.int x :: S) σ := (ms_G_at rfl _ _ _).trans rfl
theorem mi_51_31 : ms_G 51 31 L [.int x1, .int x0] (ms_Z q w I J) = mo_cl 51 31 34 (ms_G 42 0 [.int x0, .int x1] [] (ms_Z q false I J)) w L [] := (mz_call rfl rfl (mz_can0 rfl rfl rfl rfl rfl)).trans rfl
theorem mi_51_34 : ms_G 51 34 L (.int x :: S) σ = if x = nI 0 then ms_G 51 37 L S σ else ms_G 51 65 L S σ := mz_bra rfl rfl rfl
theorem mi_51_37 : ms_G 51 37 [l0, l1, .int x, l3, l4, l5] S σ = ms_G 51 38 [l0, l1, .int x, l3, l4, l5] (.int x :: S) σ := (ms_G_at rfl _ _ _).trans rfl
theorem mi_51_38 : ms_G 51 38 L (.int x :: S) σ = if x ≤ nI 0 then ms_G 51 67 L S σ else ms_G 51 41 L S σ := mz_bra rfl rfl rfl
theorem mi_51_41 : ms_G 51 41 [.ref a, l1, l2, l3, l4, l5] S σ = ms_G 51 42 [.ref a, l1, l2, l3, l4, l5] (.ref a :: S) σ := (ms_G_at rfl _ _ _).trans rfl
theorem mi_51_42 : ms_G 51 42 L (.ref (ms_ad 40 0) :: S) (ms_Z q w I J) = ms_G 51 45 L (.ref (ms_ad 50 0) :: S) (ms_Z q w I J) := mz_getf (c := (2, 50)) rfl (by decide) rfl (by decide) rfl
theorem mi_51_45 : ms_G 51 45 [l0, l1, .int x, l3, l4, l5] S σ = ms_G 51 46 [l0, l1, .int x, l3, l4, l5] (.int x :: S) σ := (ms_G_at rfl _ _ _).trans rfl
theorem mi_51_46 : ms_G 51 46 L S σ = ms_G 51 47 L (.int (nI 3) :: S) σ := (ms_G_at rfl _ _ _).trans rfl
theorem mi_51_47 : ms_G 51 47 L (.int y :: .int x :: S) σ = if x = y then ms_G 51 50 L S σ else ms_G 51 54 L S σ := mz_bra rfl rfl rfl
theorem mi_51_50 : ms_G 51 50 L S σ = ms_G 51 51 L (.int (nI 1) :: S) σ := (ms_G_at rfl _ _ _).trans rfl
theorem mi_51_51 : ms_G 51 51 L S σ = ms_G 51 57 L S σ := (ms_G_at rfl _ _ _).trans rfl
theorem mi_51_54 : ms_G 51 54 [l0, l1, .int x, l3, l4, l5] S σ = ms_G 51 55 [l0, l1, .int x, l3, l4, l5] (.int x :: S) σ := (ms_G_at rfl _ _ _).trans rfl
theorem mi_51_55 : ms_G 51 55 L S σ = ms_G 51 56 L (.int (nI 1) :: S) σ := (ms_G_at rfl _ _ _).trans rfl
theorem mi_51_56 : ms_G 51 56 L (.int y :: .int x :: S) σ = ms_G 51 57 L (.int (x - y) :: S) σ := (ms_G_at rfl _ _ _).trans rfl
theorem mi_51_57 : ms_G 51 57 L (.int (nI i) :: .ref (ms_ad r u) :: S) (ms_Z q w I J) = cond (mo_0 q.1 r u i) (ms_G 51 58 L (.int (I r u i) :: S) (ms_Z q w I J)) (ms_raw 51 57 L (.int (nI i) :: .ref (ms_ad r u) :: S) (ms_Z q w I J)) := mz_iald rfl
theorem mi_51_58 : ms_G 51 58 [l0, l1, l2, .int x, l4, l5] S σ = ms_G 51 59 [l0, l1, l2, .int x, l4, l5] (.int x :: S) σ := (ms_G_at rfl _ _ _).trans rfl
theorem mi_51_59 : ms_G 51 59 L [.int x1, .int x0] (ms_Z q w I J) = mo_cl 51 59 62 (ms_G 42 0 [.int x0, .int x1] [] (ms_Z q false I J)) w L [] := (mz_call rfl rfl (mz_can0 rfl rfl rfl rfl rfl)).trans rfl
theorem mi_51_62 : ms_G 51 62 L (.int x :: S) σ = if x = nI 0 then ms_G 51 65 L S σ else ms_G 51 67 L S σ := mz_bra rfl rfl rfl
theorem mi_51_65 : ms_G 51 65 L S σ = ms_G 51 66 L (.int (nI 0) :: S) σ := (ms_G_at rfl _ _ _).trans rfl
theorem mi_51_66 : ms_G 51 66 L [.int (nI 0)] σ = some (.inl (some (.int (nI 0))), σ) := (ms_G_at rfl _ _ _).trans rfl
theorem mi_51_66_1 : ms_G 51 66 L [.int (nI 1)] σ = some (.inl (some (.int (nI 1))), σ) := (ms_G_at rfl _ _ _).trans rfl
theorem mi_51_66_b (B : Bool) : ms_G 51 66 L [.int (ms_b B)] σ = some (.inl (some (.int (ms_b B))), σ) := by cases B <;> exact (ms_G_at rfl _ _ _).trans rfl
theorem mi_51_67 : ms_G 51 67 [.ref a, l1, l2, l3, l4, l5] S σ = ms_G 51 68 [.ref a, l1, l2, l3, l4, l5] (.ref a :: S) σ := (ms_G_at rfl _ _ _).trans rfl
theorem mi_51_68 : ms_G 51 68 L (.ref (ms_ad 40 0) :: S) (ms_Z q w I J) = ms_G 51 71 L (.ref (ms_ad 51 0) :: S) (ms_Z q w I J) := mz_getf (c := (2, 51)) rfl (by decide) rfl (by decide) rfl
theorem mi_51_71 : ms_G 51 71 [l0, l1, .int x, l3, l4, l5] S σ = ms_G 51 72 [l0, l1, .int x, l3, l4, l5] (.int x :: S) σ := (ms_G_at rfl _ _ _).trans rfl
theorem mi_51_72 : ms_G 51 72 L (.int x :: .ref b :: S) σ = ms_G 51 73 L (.int x :: .ref b :: .int x :: .ref b :: S) σ := (ms_G_at rfl _ _ _).trans rfl
theorem mi_51_73 : ms_G 51 73 L (.int (nI i) :: .ref (ms_ad r u) :: S) (ms_Z q w I J) = cond (mo_0 q.1 r u i) (ms_G 51 74 L (.int (I r u i) :: S) (ms_Z q w I J)) (ms_raw 51 73 L (.int (nI i) :: .ref (ms_ad r u) :: S) (ms_Z q w I J)) := mz_iald rfl
theorem mi_51_74 : ms_G 51 74 L S σ = ms_G 51 75 L (.int (nI 1) :: S) σ := (ms_G_at rfl _ _ _).trans rfl
theorem mi_51_75 : ms_G 51 75 [l0, l1, l2, .int x, l4, l5] S σ = ms_G 51 76 [l0, l1, l2, .int x, l4, l5] (.int x :: S) σ := (ms_G_at rfl _ _ _).trans rfl
theorem mi_51_76 : ms_G 51 76 L (.int y :: .int x :: S) σ = ms_G 51 77 L (.int (x <<< (y &&& 31)) :: S) σ := (ms_G_at rfl _ _ _).trans rfl
theorem mi_51_77 : ms_G 51 77 L (.int y :: .int x :: S) σ = ms_G 51 78 L (.int (x ||| y) :: S) σ := (ms_G_at rfl _ _ _).trans rfl
theorem mi_51_78 : ms_G 51 78 L (.int x :: .int (nI i) :: .ref (ms_ad r u) :: S) (ms_Z q w I J) = cond (mo_0 q.1 r u i) (ms_G 51 79 L S (ms_Z q true (ms_u I r u (upd (I r u) i x)) J)) (ms_raw 51 78 L (.int x :: .int (nI i) :: .ref (ms_ad r u) :: S) (ms_Z q w I J)) := mz_iast rfl x
theorem mi_51_79 : ms_G 51 79 L S σ = ms_G 51 80 L (.int (nI 0) :: S) σ := (ms_G_at rfl _ _ _).trans rfl
theorem mi_51_80 : ms_G 51 80 [l0, l1, l2, .int y, l4, l5] (.int x :: S) σ = ms_G 51 82 [l0, l1, l2, .int y, .int x, l5] S σ := (ms_G_at rfl _ _ _).trans rfl
theorem mi_51_82 : ms_G 51 82 [l0, l1, l2, l3, .int x, l5] S σ = ms_G 51 84 [l0, l1, l2, l3, .int x, l5] (.int x :: S) σ := (ms_G_at rfl _ _ _).trans rfl
theorem mi_51_84 : ms_G 51 84 [.ref a, l1, l2, l3, l4, l5] S σ = ms_G 51 85 [.ref a, l1, l2, l3, l4, l5] (.ref a :: S) σ := (ms_G_at rfl _ _ _).trans rfl
theorem mi_51_85 : ms_G 51 85 L (.ref (ms_ad 40 0) :: S) (ms_Z q w I J) = ms_G 51 88 L (.ref (ms_ad 56 0) :: S) (ms_Z q w I J) := mz_getf (c := (2, 56)) rfl (by decide) rfl (by decide) rfl
theorem mi_51_88 : ms_G 51 88 [l0, .int x, l2, l3, l4, l5] S σ = ms_G 51 89 [l0, .int x, l2, l3, l4, l5] (.int x :: S) σ := (ms_G_at rfl _ _ _).trans rfl
theorem mi_51_89 : ms_G 51 89 L S σ = ms_G 51 90 L (.int (nI 3) :: S) σ := (ms_G_at rfl _ _ _).trans rfl
theorem mi_51_90 : ms_G 51 90 L (.int y :: .int x :: S) σ = ms_G 51 91 L (.int (x + y) :: S) σ := (ms_G_at rfl _ _ _).trans rfl
theorem mi_51_91 : ms_G 51 91 L (.int (nI i) :: .ref (ms_ad r u) :: S) (ms_Z q w I J) = cond (mo_0 q.1 r u i) (ms_G 51 92 L (.int (I r u i) :: S) (ms_Z q w I J)) (ms_raw 51 91 L (.int (nI i) :: .ref (ms_ad r u) :: S) (ms_Z q w I J)) := mz_iald rfl
theorem mi_51_92 : ms_G 51 92 L (.int y :: .int x :: S) σ = if y ≤ x then ms_G 51 191 L S σ else ms_G 51 95 L S σ := mz_bra rfl rfl rfl
theorem mi_51_95 : ms_G 51 95 [.ref a, l1, l2, l3, l4, l5] S σ = ms_G 51 96 [.ref a, l1, l2, l3, l4, l5] (.ref a :: S) σ := (ms_G_at rfl _ _ _).trans rfl
theorem mi_51_96 : ms_G 51 96 L (.ref (ms_ad 40 0) :: S) (ms_Z q w I J) = ms_G 51 99 L (.ref (ms_ad 56 0) :: S) (ms_Z q w I J) := mz_getf (c := (2, 56)) rfl (by decide) rfl (by decide) rfl
theorem mi_51_99 : ms_G 51 99 [l0, .int x, l2, l3, l4, l5] S σ = ms_G 51 100 [l0, .int x, l2, l3, l4, l5] (.int x :: S) σ := (ms_G_at rfl _ _ _).trans rfl
theorem mi_51_100 : ms_G 51 100 L S σ = ms_G 51 101 L (.int (nI 4) :: S) σ := (ms_G_at rfl _ _ _).trans rfl
theorem mi_51_101 : ms_G 51 101 L (.int y :: .int x :: S) σ = ms_G 51 102 L (.int (x + y) :: S) σ := (ms_G_at rfl _ _ _).trans rfl
theorem mi_51_102 : ms_G 51 102 [l0, l1, l2, l3, .int x, l5] S σ = ms_G 51 104 [l0, l1, l2, l3, .int x, l5] (.int x :: S) σ := (ms_G_at rfl _ _ _).trans rfl
theorem mi_51_104 : ms_G 51 104 L (.int y :: .int x :: S) σ = ms_G 51 105 L (.int (x + y) :: S) σ := (ms_G_at rfl _ _ _).trans rfl
theorem mi_51_105 : ms_G 51 105 L (.int (nI i) :: .ref (ms_ad r u) :: S) (ms_Z q w I J) = cond (mo_0 q.1 r u i) (ms_G 51 106 L (.int (I r u i) :: S) (ms_Z q w I J)) (ms_raw 51 105 L (.int (nI i) :: .ref (ms_ad r u) :: S) (ms_Z q w I J)) := mz_iald rfl
theorem mi_51_106 : ms_G 51 106 [l0, l1, l2, l3, .int y, l5] (.int x :: S) σ = ms_G 51 108 [l0, l1, l2, l3, .int y, .int x] S σ := (ms_G_at rfl _ _ _).trans rfl
theorem mi_51_108 : ms_G 51 108 [l0, l1, .int x, l3, l4, l5] S σ = ms_G 51 109 [l0, l1, .int x, l3, l4, l5] (.int x :: S) σ := (ms_G_at rfl _ _ _).trans rfl
theorem mi_51_109 : ms_G 51 109 L (.int x :: S) σ = if x = nI 0 then ms_G 51 112 L S σ else ms_G 51 128 L S σ := mz_bra rfl rfl rfl
theorem mi_51_112 : ms_G 51 112 [.ref a, l1, l2, l3, l4, l5] S σ = ms_G 51 113 [.ref a, l1, l2, l3, l4, l5] (.ref a :: S) σ := (ms_G_at rfl _ _ _).trans rfl
theorem mi_51_113 : ms_G 51 113 L (.ref (ms_ad 40 0) :: S) (ms_Z q w I J) = ms_G 51 116 L (.ref (ms_ad 52 0) :: S) (ms_Z q w I J) := mz_getf (c := (2, 52)) rfl (by decide) rfl (by decide) rfl
theorem mi_51_116 : ms_G 51 116 L S σ = ms_G 51 117 L (.int (nI 4) :: S) σ := (ms_G_at rfl _ _ _).trans rfl
theorem mi_51_117 : ms_G 51 117 [l0, l1, l2, .int x, l4, l5] S σ = ms_G 51 118 [l0, l1, l2, .int x, l4, l5] (.int x :: S) σ := (ms_G_at rfl _ _ _).trans rfl
theorem mi_51_118 : ms_G 51 118 L (.int y :: .int x :: S) σ = ms_G 51 119 L (.int (x * y) :: S) σ := (ms_G_at rfl _ _ _).trans rfl
theorem mi_51_119 : ms_G 51 119 [l0, l1, l2, l3, .int x, l5] S σ = ms_G 51 121 [l0, l1, l2, l3, .int x, l5] (.int x :: S) σ := (ms_G_at rfl _ _ _).trans rfl
theorem mi_51_121 : ms_G 51 121 L (.int y :: .int x :: S) σ = ms_G 51 122 L (.int (x + y) :: S) σ := (ms_G_at rfl _ _ _).trans rfl
theorem mi_51_122 : ms_G 51 122 [l0, l1, l2, l3, l4, .int x] S σ = ms_G 51 124 [l0, l1, l2, l3, l4, .int x] (.int x :: S) σ := (ms_G_at rfl _ _ _).trans rfl
theorem mi_51_124 : ms_G 51 124 L (.int x :: .int (nI i) :: .ref (ms_ad r u) :: S) (ms_Z q w I J) = cond (mo_0 q.1 r u i) (ms_G 51 125 L S (ms_Z q true (ms_u I r u (upd (I r u) i x)) J)) (ms_raw 51 124 L (.int x :: .int (nI i) :: .ref (ms_ad r u) :: S) (ms_Z q w I J)) := mz_iast rfl x
theorem mi_51_125 : ms_G 51 125 L S σ = ms_G 51 185 L S σ := (ms_G_at rfl _ _ _).trans rfl
theorem mi_51_128 : ms_G 51 128 [l0, l1, .int x, l3, l4, l5] S σ = ms_G 51 129 [l0, l1, .int x, l3, l4, l5] (.int x :: S) σ := (ms_G_at rfl _ _ _).trans rfl
theorem mi_51_129 : ms_G 51 129 L S σ = ms_G 51 130 L (.int (nI 1) :: S) σ := (ms_G_at rfl _ _ _).trans rfl
theorem mi_51_130 : ms_G 51 130 L (.int y :: .int x :: S) σ = if x = y then ms_G 51 133 L S σ else ms_G 51 150 L S σ := mz_bra rfl rfl rfl
theorem mi_51_133 : ms_G 51 133 [.ref a, l1, l2, l3, l4, l5] S σ = ms_G 51 134 [.ref a, l1, l2, l3, l4, l5] (.ref a :: S) σ := (ms_G_at rfl _ _ _).trans rfl
theorem mi_51_134 : ms_G 51 134 L (.ref (ms_ad 40 0) :: S) (ms_Z q w I J) = ms_G 51 137 L (.ref (ms_ad 53 0) :: S) (ms_Z q w I J) := mz_getf (c := (2, 53)) rfl (by decide) rfl (by decide) rfl
theorem mi_51_137 : ms_G 51 137 L S σ = ms_G 51 139 L (.int (nI 64) :: S) σ := (ms_G_at rfl _ _ _).trans rfl
theorem mi_51_139 : ms_G 51 139 [l0, l1, l2, .int x, l4, l5] S σ = ms_G 51 140 [l0, l1, l2, .int x, l4, l5] (.int x :: S) σ := (ms_G_at rfl _ _ _).trans rfl
theorem mi_51_140 : ms_G 51 140 L (.int y :: .int x :: S) σ = ms_G 51 141 L (.int (x * y) :: S) σ := (ms_G_at rfl _ _ _).trans rfl
theorem mi_51_141 : ms_G 51 141 [l0, l1, l2, l3, .int x, l5] S σ = ms_G 51 143 [l0, l1, l2, l3, .int x, l5] (.int x :: S) σ := (ms_G_at rfl _ _ _).trans rfl
theorem mi_51_143 : ms_G 51 143 L (.int y :: .int x :: S) σ = ms_G 51 144 L (.int (x + y) :: S) σ := (ms_G_at rfl _ _ _).trans rfl
theorem mi_51_144 : ms_G 51 144 [l0, l1, l2, l3, l4, .int x] S σ = ms_G 51 146 [l0, l1, l2, l3, l4, .int x] (.int x :: S) σ := (ms_G_at rfl _ _ _).trans rfl
theorem mi_51_146 : ms_G 51 146 L (.int x :: .int (nI i) :: .ref (ms_ad r u) :: S) (ms_Z q w I J) = cond (mo_0 q.1 r u i) (ms_G 51 147 L S (ms_Z q true (ms_u I r u (upd (I r u) i x)) J)) (ms_raw 51 146 L (.int x :: .int (nI i) :: .ref (ms_ad r u) :: S) (ms_Z q w I J)) := mz_iast rfl x
theorem mi_51_147 : ms_G 51 147 L S σ = ms_G 51 185 L S σ := (ms_G_at rfl _ _ _).trans rfl
theorem mi_51_150 : ms_G 51 150 [l0, l1, .int x, l3, l4, l5] S σ = ms_G 51 151 [l0, l1, .int x, l3, l4, l5] (.int x :: S) σ := (ms_G_at rfl _ _ _).trans rfl
theorem mi_51_151 : ms_G 51 151 L S σ = ms_G 51 152 L (.int (nI 2) :: S) σ := (ms_G_at rfl _ _ _).trans rfl
theorem mi_51_152 : ms_G 51 152 L (.int y :: .int x :: S) σ = if x = y then ms_G 51 155 L S σ else ms_G 51 171 L S σ := mz_bra rfl rfl rfl
theorem mi_51_155 : ms_G 51 155 [.ref a, l1, l2, l3, l4, l5] S σ = ms_G 51 156 [.ref a, l1, l2, l3, l4, l5] (.ref a :: S) σ := (ms_G_at rfl _ _ _).trans rfl
theorem mi_51_156 : ms_G 51 156 L (.ref (ms_ad 40 0) :: S) (ms_Z q w I J) = ms_G 51 159 L (.ref (ms_ad 54 0) :: S) (ms_Z q w I J) := mz_getf (c := (2, 54)) rfl (by decide) rfl (by decide) rfl
theorem mi_51_159 : ms_G 51 159 L S σ = ms_G 51 160 L (.int (nI 4) :: S) σ := (ms_G_at rfl _ _ _).trans rfl
theorem mi_51_160 : ms_G 51 160 [l0, l1, l2, .int x, l4, l5] S σ = ms_G 51 161 [l0, l1, l2, .int x, l4, l5] (.int x :: S) σ := (ms_G_at rfl _ _ _).trans rfl
theorem mi_51_161 : ms_G 51 161 L (.int y :: .int x :: S) σ = ms_G 51 162 L (.int (x * y) :: S) σ := (ms_G_at rfl _ _ _).trans rfl
theorem mi_51_162 : ms_G 51 162 [l0, l1, l2, l3, .int x, l5] S σ = ms_G 51 164 [l0, l1, l2, l3, .int x, l5] (.int x :: S) σ := (ms_G_at rfl _ _ _).trans rfl
theorem mi_51_164 : ms_G 51 164 L (.int y :: .int x :: S) σ = ms_G 51 165 L (.int (x + y) :: S) σ := (ms_G_at rfl _ _ _).trans rfl
theorem mi_51_165 : ms_G 51 165 [l0, l1, l2, l3, l4, .int x] S σ = ms_G 51 167 [l0, l1, l2, l3, l4, .int x] (.int x :: S) σ := (ms_G_at rfl _ _ _).trans rfl
theorem mi_51_167 : ms_G 51 167 L (.int x :: .int (nI i) :: .ref (ms_ad r u) :: S) (ms_Z q w I J) = cond (mo_0 q.1 r u i) (ms_G 51 168 L S (ms_Z q true (ms_u I r u (upd (I r u) i x)) J)) (ms_raw 51 167 L (.int x :: .int (nI i) :: .ref (ms_ad r u) :: S) (ms_Z q w I J)) := mz_iast rfl x
theorem mi_51_168 : ms_G 51 168 L S σ = ms_G 51 185 L S σ := (ms_G_at rfl _ _ _).trans rfl
theorem mi_51_171 : ms_G 51 171 [.ref a, l1, l2, l3, l4, l5] S σ = ms_G 51 172 [.ref a, l1, l2, l3, l4, l5] (.ref a :: S) σ := (ms_G_at rfl _ _ _).trans rfl
theorem mi_51_172 : ms_G 51 172 L (.ref (ms_ad 40 0) :: S) (ms_Z q w I J) = ms_G 51 175 L (.ref (ms_ad 55 0) :: S) (ms_Z q w I J) := mz_getf (c := (2, 55)) rfl (by decide) rfl (by decide) rfl
theorem mi_51_175 : ms_G 51 175 L S σ = ms_G 51 177 L (.int (nI 17) :: S) σ := (ms_G_at rfl _ _ _).trans rfl
theorem mi_51_177 : ms_G 51 177 [l0, l1, l2, .int x, l4, l5] S σ = ms_G 51 178 [l0, l1, l2, .int x, l4, l5] (.int x :: S) σ := (ms_G_at rfl _ _ _).trans rfl
theorem mi_51_178 : ms_G 51 178 L (.int y :: .int x :: S) σ = ms_G 51 179 L (.int (x * y) :: S) σ := (ms_G_at rfl _ _ _).trans rfl
theorem mi_51_179 : ms_G 51 179 [l0, l1, l2, l3, .int x, l5] S σ = ms_G 51 181 [l0, l1, l2, l3, .int x, l5] (.int x :: S) σ := (ms_G_at rfl _ _ _).trans rfl
theorem mi_51_181 : ms_G 51 181 L (.int y :: .int x :: S) σ = ms_G 51 182 L (.int (x + y) :: S) σ := (ms_G_at rfl _ _ _).trans rfl
theorem mi_51_182 : ms_G 51 182 [l0, l1, l2, l3, l4, .int x] S σ = ms_G 51 184 [l0, l1, l2, l3, l4, .int x] (.int x :: S) σ := (ms_G_at rfl _ _ _).trans rfl
theorem mi_51_184 : ms_G 51 184 L (.int x :: .int (nI i) :: .ref (ms_ad r u) :: S) (ms_Z q w I J) = cond (mo_0 q.1 r u i) (ms_G 51 185 L S (ms_Z q true (ms_u I r u (upd (I r u) i x)) J)) (ms_raw 51 184 L (.int x :: .int (nI i) :: .ref (ms_ad r u) :: S) (ms_Z q w I J)) := mz_iast rfl x
theorem mi_51_185 : ms_G 51 185 [l0, l1, l2, .int y, .int x, l5] S σ = ms_G 51 188 [l0, l1, l2, .int y, .int (x + nI 1), l5] S σ := (ms_G_at rfl _ _ _).trans rfl
theorem mi_51_188 : ms_G 51 188 L S σ = ms_G 51 82 L S σ := (ms_G_at rfl _ _ _).trans rfl
theorem mi_51_191 : ms_G 51 191 L S σ = ms_G 51 192 L (.int (nI 1) :: S) σ := (ms_G_at rfl _ _ _).trans rfl
theorem mi_51_192 : ms_G 51 192 L [.int (nI 0)] σ = some (.inl (some (.int (nI 0))), σ) := (ms_G_at rfl _ _ _).trans rfl
theorem mi_51_192_1 : ms_G 51 192 L [.int (nI 1)] σ = some (.inl (some (.int (nI 1))), σ) := (ms_G_at rfl _ _ _).trans rfl
theorem mi_51_192_b (B : Bool) : ms_G 51 192 L [.int (ms_b B)] σ = some (.inl (some (.int (ms_b B))), σ) := by cases B <;> exact (ms_G_at rfl _ _ _).trans rfl
-- MaskedSumModel.isMessage(I)Z
theorem mi_52_0 : ms_G 52 0 [.ref a, l1] S σ = ms_G 52 1 [.ref a, l1] (.ref a :: S) σ := (ms_G_at rfl _ _ _).trans rfl
theorem mi_52_1 : ms_G 52 1 [l0, .int x] S σ = ms_G 52 2 [l0, .int x] (.int x :: S) σ := (ms_G_at rfl _ _ _).trans rfl
theorem mi_52_2 : ms_G 52 2 L S σ = ms_G 52 3 L (.int (nI 0) :: S) σ := (ms_G_at rfl _ _ _).trans rfl
theorem mi_52_3 : ms_G 52 3 [.ref a, l1] S σ = ms_G 52 4 [.ref a, l1] (.ref a :: S) σ := (ms_G_at rfl _ _ _).trans rfl
theorem mi_52_4 : ms_G 52 4 L (.ref (ms_ad 40 0) :: S) (ms_Z q w I J) = ms_G 52 7 L (.int (I 40 0 20) :: S) (ms_Z q w I J) := mz_getf (c := (0, 20)) rfl (by decide) rfl (by decide) rfl
theorem mi_52_7 : ms_G 52 7 L S σ = ms_G 52 8 L (.int (nI 1) :: S) σ := (ms_G_at rfl _ _ _).trans rfl
theorem mi_52_8 : ms_G 52 8 L (.int y :: .int x :: S) σ = ms_G 52 9 L (.int (x - y) :: S) σ := (ms_G_at rfl _ _ _).trans rfl
theorem mi_52_9 : ms_G 52 9 L (.int x2 :: .int x1 :: .int x0 :: [.ref g0]) (ms_Z q w I J) = mo_cl 52 9 12 (ms_G 19 0 [.int x0, .int x1, .int x2] [] (ms_Z q false I J)) w L [.ref g0] := (mz_call rfl rfl (mz_can0 rfl rfl rfl rfl rfl)).trans rfl
theorem mi_52_12 : ms_G 52 12 L (.int x :: S) σ = if x = nI 0 then ms_G 52 19 L S σ else ms_G 52 15 L S σ := mz_bra rfl rfl rfl
theorem mi_52_15 : ms_G 52 15 L S σ = ms_G 52 16 L (.int (nI 0) :: S) σ := (ms_G_at rfl _ _ _).trans rfl
theorem mi_52_16 : ms_G 52 16 L S σ = ms_G 52 20 L S σ := (ms_G_at rfl _ _ _).trans rfl
theorem mi_52_19 : ms_G 52 19 L S σ = ms_G 52 20 L (.int (nI 1) :: S) σ := (ms_G_at rfl _ _ _).trans rfl
theorem mi_52_20 : ms_G 52 20 L (.int x :: .ref (ms_ad 40 0) :: S) (ms_Z q w I J) = ms_G 52 23 L S (ms_Z q true (ms_u I 40 0 (upd (I 40 0) 0 x)) J) := mz_putf rfl (by decide) rfl (by decide) rfl rfl
theorem mi_52_23 : ms_G 52 23 [.ref a, l1] S σ = ms_G 52 24 [.ref a, l1] (.ref a :: S) σ := (ms_G_at rfl _ _ _).trans rfl
theorem mi_52_24 : ms_G 52 24 L (.ref (ms_ad 40 0) :: S) (ms_Z q w I J) = ms_G 52 27 L (.int (I 40 0 0) :: S) (ms_Z q w I J) := mz_getf (c := (0, 0)) rfl (by decide) rfl (by decide) rfl
theorem mi_52_27 : ms_G 52 27 L (.int x :: S) σ = if x = nI 0 then ms_G 52 30 L S σ else ms_G 52 34 L S σ := mz_bra rfl rfl rfl
theorem mi_52_30 : ms_G 52 30 L S σ = ms_G 52 31 L (.int (nI 1) :: S) σ := (ms_G_at rfl _ _ _).trans rfl
theorem mi_52_31 : ms_G 52 31 L S σ = ms_G 52 35 L S σ := (ms_G_at rfl _ _ _).trans rfl
theorem mi_52_34 : ms_G 52 34 L S σ = ms_G 52 35 L (.int (nI 0) :: S) σ := (ms_G_at rfl _ _ _).trans rfl
theorem mi_52_35 : ms_G 52 35 L [.int (nI 0)] σ = some (.inl (some (.int (nI 0))), σ) := (ms_G_at rfl _ _ _).trans rfl
theorem mi_52_35_1 : ms_G 52 35 L [.int (nI 1)] σ = some (.inl (some (.int (nI 1))), σ) := (ms_G_at rfl _ _ _).trans rfl
theorem mi_52_35_b (B : Bool) : ms_G 52 35 L [.int (ms_b B)] σ = some (.inl (some (.int (ms_b B))), σ) := by cases B <;> exact (ms_G_at rfl _ _ _).trans rfl
-- MaskedSumModel.deliver(I)Z
theorem mi_53_0 : ms_G 53 0 [.ref a, l1, l2, l3] S σ = ms_G 53 1 [.ref a, l1, l2, l3] (.ref a :: S) σ := (ms_G_at rfl _ _ _).trans rfl
theorem mi_53_1 : ms_G 53 1 [l0, .int x, l2, l3] S σ = ms_G 53 2 [l0, .int x, l2, l3] (.int x :: S) σ := (ms_G_at rfl _ _ _).trans rfl
theorem mi_53_2 : ms_G 53 2 L [.int x0, .ref (ms_ad 40 0)] (ms_Z q w I J) = mo_cl 53 2 5 (ms_G 52 0 [.ref (ms_ad 40 0), .int x0] [] (ms_Z q false I J)) w L [] := (mz_call rfl rfl (mz_can1 rfl rfl rfl rfl rfl (by decide) rfl (by decide))).trans rfl
theorem mi_53_5 : ms_G 53 5 L (.int x :: S) σ = if x = nI 0 then ms_G 53 8 L S σ else ms_G 53 10 L S σ := mz_bra rfl rfl rfl
theorem mi_53_8 : ms_G 53 8 L S σ = ms_G 53 9 L (.int (nI 0) :: S) σ := (ms_G_at rfl _ _ _).trans rfl
theorem mi_53_9 : ms_G 53 9 L [.int (nI 0)] σ = some (.inl (some (.int (nI 0))), σ) := (ms_G_at rfl _ _ _).trans rfl
theorem mi_53_9_1 : ms_G 53 9 L [.int (nI 1)] σ = some (.inl (some (.int (nI 1))), σ) := (ms_G_at rfl _ _ _).trans rfl
theorem mi_53_9_b (B : Bool) : ms_G 53 9 L [.int (ms_b B)] σ = some (.inl (some (.int (ms_b B))), σ) := by cases B <;> exact (ms_G_at rfl _ _ _).trans rfl
theorem mi_53_10 : ms_G 53 10 L S σ = ms_G 53 12 L (.int (nI 70) :: S) σ := (ms_G_at rfl _ _ _).trans rfl
theorem mi_53_12 : ms_G 53 12 [l0, .int x, l2, l3] S σ = ms_G 53 13 [l0, .int x, l2, l3] (.int x :: S) σ := (ms_G_at rfl _ _ _).trans rfl
theorem mi_53_13 : ms_G 53 13 L (.int y :: .int x :: S) σ = ms_G 53 14 L (.int (x * y) :: S) σ := (ms_G_at rfl _ _ _).trans rfl
theorem mi_53_14 : ms_G 53 14 [l0, .int y, l2, l3] (.int x :: S) σ = ms_G 53 15 [l0, .int y, .int x, l3] S σ := (ms_G_at rfl _ _ _).trans rfl
theorem mi_53_15 : ms_G 53 15 [.ref a, l1, l2, l3] S σ = ms_G 53 16 [.ref a, l1, l2, l3] (.ref a :: S) σ := (ms_G_at rfl _ _ _).trans rfl
theorem mi_53_16 : ms_G 53 16 L (.ref (ms_ad 40 0) :: S) (ms_Z q w I J) = ms_G 53 19 L (.ref (ms_ad 56 0) :: S) (ms_Z q w I J) := mz_getf (c := (2, 56)) rfl (by decide) rfl (by decide) rfl
theorem mi_53_19 : ms_G 53 19 [l0, l1, .int x, l3] S σ = ms_G 53 20 [l0, l1, .int x, l3] (.int x :: S) σ := (ms_G_at rfl _ _ _).trans rfl
theorem mi_53_20 : ms_G 53 20 L S σ = ms_G 53 21 L (.int (nI 2) :: S) σ := (ms_G_at rfl _ _ _).trans rfl
theorem mi_53_21 : ms_G 53 21 L (.int y :: .int x :: S) σ = ms_G 53 22 L (.int (x + y) :: S) σ := (ms_G_at rfl _ _ _).trans rfl
theorem mi_53_22 : ms_G 53 22 L (.int (nI i) :: .ref (ms_ad r u) :: S) (ms_Z q w I J) = cond (mo_0 q.1 r u i) (ms_G 53 23 L (.int (I r u i) :: S) (ms_Z q w I J)) (ms_raw 53 22 L (.int (nI i) :: .ref (ms_ad r u) :: S) (ms_Z q w I J)) := mz_iald rfl
theorem mi_53_23 : ms_G 53 23 L S σ = ms_G 53 24 L (.int (nI 1) :: S) σ := (ms_G_at rfl _ _ _).trans rfl
theorem mi_53_24 : ms_G 53 24 L (.int y :: .int x :: S) σ = if x = y then ms_G 53 27 L S σ else ms_G 53 35 L S σ := mz_bra rfl rfl rfl
theorem mi_53_27 : ms_G 53 27 [.ref a, l1, l2, l3] S σ = ms_G 53 28 [.ref a, l1, l2, l3] (.ref a :: S) σ := (ms_G_at rfl _ _ _).trans rfl
theorem mi_53_28 : ms_G 53 28 [l0, l1, .int x, l3] S σ = ms_G 53 29 [l0, l1, .int x, l3] (.int x :: S) σ := (ms_G_at rfl _ _ _).trans rfl
theorem mi_53_29 : ms_G 53 29 L [.int x0, .ref (ms_ad 40 0)] (ms_Z q w I J) = mo_cl 53 29 32 (ms_G 50 0 [.ref (ms_ad 40 0), .int x0, .null, .null, .null, .null, .null] [] (ms_Z q false I J)) w L [] := (mz_call rfl rfl (mz_can1 rfl rfl rfl rfl rfl (by decide) rfl (by decide))).trans rfl
theorem mi_53_32 : ms_G 53 32 L S σ = ms_G 53 40 L S σ := (ms_G_at rfl _ _ _).trans rfl
theorem mi_53_35 : ms_G 53 35 [.ref a, l1, l2, l3] S σ = ms_G 53 36 [.ref a, l1, l2, l3] (.ref a :: S) σ := (ms_G_at rfl _ _ _).trans rfl
theorem mi_53_36 : ms_G 53 36 [l0, l1, .int x, l3] S σ = ms_G 53 37 [l0, l1, .int x, l3] (.int x :: S) σ := (ms_G_at rfl _ _ _).trans rfl
theorem mi_53_37 : ms_G 53 37 L [.int x0, .ref (ms_ad 40 0)] (ms_Z q w I J) = mo_cl 53 37 40 (ms_G 51 0 [.ref (ms_ad 40 0), .int x0, .null, .null, .null, .null] [] (ms_Z q false I J)) w L [] := (mz_call rfl rfl (mz_can1 rfl rfl rfl rfl rfl (by decide) rfl (by decide))).trans rfl
theorem mi_53_40 : ms_G 53 40 [l0, l1, .int y, l3] (.int x :: S) σ = ms_G 53 41 [l0, l1, .int y, .int x] S σ := (ms_G_at rfl _ _ _).trans rfl
theorem mi_53_41 : ms_G 53 41 [.ref a, l1, l2, l3] S σ = ms_G 53 42 [.ref a, l1, l2, l3] (.ref a :: S) σ := (ms_G_at rfl _ _ _).trans rfl
theorem mi_53_42 : ms_G 53 42 [l0, .int x, l2, l3] S σ = ms_G 53 43 [l0, .int x, l2, l3] (.int x :: S) σ := (ms_G_at rfl _ _ _).trans rfl
theorem mi_53_43 : ms_G 53 43 L [.int x0, .ref (ms_ad 40 0)] (ms_Z q w I J) = mo_cl 53 43 46 (ms_G 41 0 [.ref (ms_ad 40 0), .int x0, .null] [] (ms_Z q false I J)) w L [] := (mz_call rfl rfl (mz_can1 rfl rfl rfl rfl rfl (by decide) rfl (by decide))).trans rfl
theorem mi_53_46 : ms_G 53 46 [l0, l1, l2, .int x] S σ = ms_G 53 47 [l0, l1, l2, .int x] (.int x :: S) σ := (ms_G_at rfl _ _ _).trans rfl
theorem mi_53_47 : ms_G 53 47 L [.int (nI 0)] σ = some (.inl (some (.int (nI 0))), σ) := (ms_G_at rfl _ _ _).trans rfl
theorem mi_53_47_1 : ms_G 53 47 L [.int (nI 1)] σ = some (.inl (some (.int (nI 1))), σ) := (ms_G_at rfl _ _ _).trans rfl
theorem mi_53_47_b (B : Bool) : ms_G 53 47 L [.int (ms_b B)] σ = some (.inl (some (.int (ms_b B))), σ) := by cases B <;> exact (ms_G_at rfl _ _ _).trans rfl
-- MaskedSumModel.lose(I)V
theorem mi_54_0 : ms_G 54 0 [.ref a, l1] S σ = ms_G 54 1 [.ref a, l1] (.ref a :: S) σ := (ms_G_at rfl _ _ _).trans rfl
theorem mi_54_1 : ms_G 54 1 [l0, .int x] S σ = ms_G 54 2 [l0, .int x] (.int x :: S) σ := (ms_G_at rfl _ _ _).trans rfl
theorem mi_54_2 : ms_G 54 2 L [.int x0, .ref (ms_ad 40 0)] (ms_Z q w I J) = mo_cl 54 2 5 (ms_G 52 0 [.ref (ms_ad 40 0), .int x0] [] (ms_Z q false I J)) w L [] := (mz_call rfl rfl (mz_can1 rfl rfl rfl rfl rfl (by decide) rfl (by decide))).trans rfl
theorem mi_54_5 : ms_G 54 5 L (.int x :: S) σ = if x = nI 0 then ms_G 54 13 L S σ else ms_G 54 8 L S σ := mz_bra rfl rfl rfl
theorem mi_54_8 : ms_G 54 8 [.ref a, l1] S σ = ms_G 54 9 [.ref a, l1] (.ref a :: S) σ := (ms_G_at rfl _ _ _).trans rfl
theorem mi_54_9 : ms_G 54 9 [l0, .int x] S σ = ms_G 54 10 [l0, .int x] (.int x :: S) σ := (ms_G_at rfl _ _ _).trans rfl
theorem mi_54_10 : ms_G 54 10 L [.int x0, .ref (ms_ad 40 0)] (ms_Z q w I J) = mo_cl 54 10 13 (ms_G 41 0 [.ref (ms_ad 40 0), .int x0, .null] [] (ms_Z q false I J)) w L [] := (mz_call rfl rfl (mz_can1 rfl rfl rfl rfl rfl (by decide) rfl (by decide))).trans rfl
theorem mi_54_13 : ms_G 54 13 L [] σ = some (.inl none, σ) := (ms_G_at rfl _ _ _).trans rfl
-- MaskedSumModel.alter(III)V
theorem mi_55_0 : ms_G 55 0 [.ref a, l1, l2, l3] S σ = ms_G 55 1 [.ref a, l1, l2, l3] (.ref a :: S) σ := (ms_G_at rfl _ _ _).trans rfl
theorem mi_55_1 : ms_G 55 1 [l0, .int x, l2, l3] S σ = ms_G 55 2 [l0, .int x, l2, l3] (.int x :: S) σ := (ms_G_at rfl _ _ _).trans rfl
theorem mi_55_2 : ms_G 55 2 L [.int x0, .ref (ms_ad 40 0)] (ms_Z q w I J) = mo_cl 55 2 5 (ms_G 52 0 [.ref (ms_ad 40 0), .int x0] [] (ms_Z q false I J)) w L [] := (mz_call rfl rfl (mz_can1 rfl rfl rfl rfl rfl (by decide) rfl (by decide))).trans rfl
theorem mi_55_5 : ms_G 55 5 L (.int x :: S) σ = if x = nI 0 then ms_G 55 8 L S σ else ms_G 55 9 L S σ := mz_bra rfl rfl rfl
theorem mi_55_8 : ms_G 55 8 L [] σ = some (.inl none, σ) := (ms_G_at rfl _ _ _).trans rfl
theorem mi_55_9 : ms_G 55 9 [.ref a, l1, l2, l3] S σ = ms_G 55 10 [.ref a, l1, l2, l3] (.ref a :: S) σ := (ms_G_at rfl _ _ _).trans rfl
theorem mi_55_10 : ms_G 55 10 [l0, l1, .int x, l3] S σ = ms_G 55 11 [l0, l1, .int x, l3] (.int x :: S) σ := (ms_G_at rfl _ _ _).trans rfl
theorem mi_55_11 : ms_G 55 11 L S σ = ms_G 55 12 L (.int (nI 0) :: S) σ := (ms_G_at rfl _ _ _).trans rfl
theorem mi_55_12 : ms_G 55 12 [.ref a, l1, l2, l3] S σ = ms_G 55 13 [.ref a, l1, l2, l3] (.ref a :: S) σ := (ms_G_at rfl _ _ _).trans rfl
theorem mi_55_13 : ms_G 55 13 L (.ref (ms_ad 40 0) :: S) (ms_Z q w I J) = ms_G 55 16 L (.ref (ms_ad 56 0) :: S) (ms_Z q w I J) := mz_getf (c := (2, 56)) rfl (by decide) rfl (by decide) rfl
theorem mi_55_16 : ms_G 55 16 L S σ = ms_G 55 18 L (.int (nI 70) :: S) σ := (ms_G_at rfl _ _ _).trans rfl
theorem mi_55_18 : ms_G 55 18 [l0, .int x, l2, l3] S σ = ms_G 55 19 [l0, .int x, l2, l3] (.int x :: S) σ := (ms_G_at rfl _ _ _).trans rfl
theorem mi_55_19 : ms_G 55 19 L (.int y :: .int x :: S) σ = ms_G 55 20 L (.int (x * y) :: S) σ := (ms_G_at rfl _ _ _).trans rfl
theorem mi_55_20 : ms_G 55 20 L S σ = ms_G 55 21 L (.int (nI 3) :: S) σ := (ms_G_at rfl _ _ _).trans rfl
theorem mi_55_21 : ms_G 55 21 L (.int y :: .int x :: S) σ = ms_G 55 22 L (.int (x + y) :: S) σ := (ms_G_at rfl _ _ _).trans rfl
theorem mi_55_22 : ms_G 55 22 L (.int (nI i) :: .ref (ms_ad r u) :: S) (ms_Z q w I J) = cond (mo_0 q.1 r u i) (ms_G 55 23 L (.int (I r u i) :: S) (ms_Z q w I J)) (ms_raw 55 22 L (.int (nI i) :: .ref (ms_ad r u) :: S) (ms_Z q w I J)) := mz_iald rfl
theorem mi_55_23 : ms_G 55 23 L S σ = ms_G 55 24 L (.int (nI 1) :: S) σ := (ms_G_at rfl _ _ _).trans rfl
theorem mi_55_24 : ms_G 55 24 L (.int y :: .int x :: S) σ = ms_G 55 25 L (.int (x - y) :: S) σ := (ms_G_at rfl _ _ _).trans rfl
theorem mi_55_25 : ms_G 55 25 L (.int x2 :: .int x1 :: .int x0 :: [.ref g0]) (ms_Z q w I J) = mo_cl 55 25 28 (ms_G 19 0 [.int x0, .int x1, .int x2] [] (ms_Z q false I J)) w L [.ref g0] := (mz_call rfl rfl (mz_can0 rfl rfl rfl rfl rfl)).trans rfl
theorem mi_55_28 : ms_G 55 28 L (.int x :: S) σ = if x = nI 0 then ms_G 55 35 L S σ else ms_G 55 31 L S σ := mz_bra rfl rfl rfl
theorem mi_55_31 : ms_G 55 31 L S σ = ms_G 55 32 L (.int (nI 0) :: S) σ := (ms_G_at rfl _ _ _).trans rfl
theorem mi_55_32 : ms_G 55 32 L S σ = ms_G 55 36 L S σ := (ms_G_at rfl _ _ _).trans rfl
theorem mi_55_35 : ms_G 55 35 L S σ = ms_G 55 36 L (.int (nI 1) :: S) σ := (ms_G_at rfl _ _ _).trans rfl
theorem mi_55_36 : ms_G 55 36 L (.int x :: .ref (ms_ad 40 0) :: S) (ms_Z q w I J) = ms_G 55 39 L S (ms_Z q true (ms_u I 40 0 (upd (I 40 0) 0 x)) J) := mz_putf rfl (by decide) rfl (by decide) rfl rfl
theorem mi_55_39 : ms_G 55 39 [.ref a, l1, l2, l3] S σ = ms_G 55 40 [.ref a, l1, l2, l3] (.ref a :: S) σ := (ms_G_at rfl _ _ _).trans rfl
theorem mi_55_40 : ms_G 55 40 L (.ref (ms_ad 40 0) :: S) (ms_Z q w I J) = ms_G 55 43 L (.int (I 40 0 0) :: S) (ms_Z q w I J) := mz_getf (c := (0, 0)) rfl (by decide) rfl (by decide) rfl
theorem mi_55_43 : ms_G 55 43 L (.int x :: S) σ = if x = nI 0 then ms_G 55 46 L S σ else ms_G 55 63 L S σ := mz_bra rfl rfl rfl
theorem mi_55_46 : ms_G 55 46 [.ref a, l1, l2, l3] S σ = ms_G 55 47 [.ref a, l1, l2, l3] (.ref a :: S) σ := (ms_G_at rfl _ _ _).trans rfl
theorem mi_55_47 : ms_G 55 47 L (.ref (ms_ad 40 0) :: S) (ms_Z q w I J) = ms_G 55 50 L (.ref (ms_ad 56 0) :: S) (ms_Z q w I J) := mz_getf (c := (2, 56)) rfl (by decide) rfl (by decide) rfl
theorem mi_55_50 : ms_G 55 50 L S σ = ms_G 55 52 L (.int (nI 70) :: S) σ := (ms_G_at rfl _ _ _).trans rfl
theorem mi_55_52 : ms_G 55 52 [l0, .int x, l2, l3] S σ = ms_G 55 53 [l0, .int x, l2, l3] (.int x :: S) σ := (ms_G_at rfl _ _ _).trans rfl
theorem mi_55_53 : ms_G 55 53 L (.int y :: .int x :: S) σ = ms_G 55 54 L (.int (x * y) :: S) σ := (ms_G_at rfl _ _ _).trans rfl
theorem mi_55_54 : ms_G 55 54 L S σ = ms_G 55 55 L (.int (nI 4) :: S) σ := (ms_G_at rfl _ _ _).trans rfl
theorem mi_55_55 : ms_G 55 55 L (.int y :: .int x :: S) σ = ms_G 55 56 L (.int (x + y) :: S) σ := (ms_G_at rfl _ _ _).trans rfl
theorem mi_55_56 : ms_G 55 56 [l0, l1, .int x, l3] S σ = ms_G 55 57 [l0, l1, .int x, l3] (.int x :: S) σ := (ms_G_at rfl _ _ _).trans rfl
theorem mi_55_57 : ms_G 55 57 L (.int y :: .int x :: S) σ = ms_G 55 58 L (.int (x + y) :: S) σ := (ms_G_at rfl _ _ _).trans rfl
theorem mi_55_58 : ms_G 55 58 L (.int x :: .ref b :: S) σ = ms_G 55 59 L (.int x :: .ref b :: .int x :: .ref b :: S) σ := (ms_G_at rfl _ _ _).trans rfl
theorem mi_55_59 : ms_G 55 59 L (.int (nI i) :: .ref (ms_ad r u) :: S) (ms_Z q w I J) = cond (mo_0 q.1 r u i) (ms_G 55 60 L (.int (I r u i) :: S) (ms_Z q w I J)) (ms_raw 55 59 L (.int (nI i) :: .ref (ms_ad r u) :: S) (ms_Z q w I J)) := mz_iald rfl
theorem mi_55_60 : ms_G 55 60 [l0, l1, l2, .int x] S σ = ms_G 55 61 [l0, l1, l2, .int x] (.int x :: S) σ := (ms_G_at rfl _ _ _).trans rfl
theorem mi_55_61 : ms_G 55 61 L (.int y :: .int x :: S) σ = ms_G 55 62 L (.int (x ^^^ y) :: S) σ := (ms_G_at rfl _ _ _).trans rfl
theorem mi_55_62 : ms_G 55 62 L (.int x :: .int (nI i) :: .ref (ms_ad r u) :: S) (ms_Z q w I J) = cond (mo_0 q.1 r u i) (ms_G 55 63 L S (ms_Z q true (ms_u I r u (upd (I r u) i x)) J)) (ms_raw 55 62 L (.int x :: .int (nI i) :: .ref (ms_ad r u) :: S) (ms_Z q w I J)) := mz_iast rfl x
theorem mi_55_63 : ms_G 55 63 L [] σ = some (.inl none, σ) := (ms_G_at rfl _ _ _).trans rfl
-- MaskedSumModel.message(II)I
theorem mi_56_0 : ms_G 56 0 [.ref a, l1, l2] S σ = ms_G 56 1 [.ref a, l1, l2] (.ref a :: S) σ := (ms_G_at rfl _ _ _).trans rfl
theorem mi_56_1 : ms_G 56 1 [l0, .int x, l2] S σ = ms_G 56 2 [l0, .int x, l2] (.int x :: S) σ := (ms_G_at rfl _ _ _).trans rfl
theorem mi_56_2 : ms_G 56 2 L [.int x0, .ref (ms_ad 40 0)] (ms_Z q w I J) = mo_cl 56 2 5 (ms_G 52 0 [.ref (ms_ad 40 0), .int x0] [] (ms_Z q false I J)) w L [] := (mz_call rfl rfl (mz_can1 rfl rfl rfl rfl rfl (by decide) rfl (by decide))).trans rfl
theorem mi_56_5 : ms_G 56 5 L (.int x :: S) σ = if x = nI 0 then ms_G 56 8 L S σ else ms_G 56 10 L S σ := mz_bra rfl rfl rfl
theorem mi_56_8 : ms_G 56 8 L S σ = ms_G 56 9 L (.int (nI 0) :: S) σ := (ms_G_at rfl _ _ _).trans rfl
theorem mi_56_9 : ms_G 56 9 L [.int x] σ = some (.inl (some (.int x)), σ) := (ms_G_at rfl _ _ _).trans rfl
theorem mi_56_10 : ms_G 56 10 [.ref a, l1, l2] S σ = ms_G 56 11 [.ref a, l1, l2] (.ref a :: S) σ := (ms_G_at rfl _ _ _).trans rfl
theorem mi_56_11 : ms_G 56 11 [l0, l1, .int x] S σ = ms_G 56 12 [l0, l1, .int x] (.int x :: S) σ := (ms_G_at rfl _ _ _).trans rfl
theorem mi_56_12 : ms_G 56 12 L S σ = ms_G 56 13 L (.int (nI 0) :: S) σ := (ms_G_at rfl _ _ _).trans rfl
theorem mi_56_13 : ms_G 56 13 L S σ = ms_G 56 14 L (.int (nI 3) :: S) σ := (ms_G_at rfl _ _ _).trans rfl
theorem mi_56_14 : ms_G 56 14 [.ref a, l1, l2] S σ = ms_G 56 15 [.ref a, l1, l2] (.ref a :: S) σ := (ms_G_at rfl _ _ _).trans rfl
theorem mi_56_15 : ms_G 56 15 L (.ref (ms_ad 40 0) :: S) (ms_Z q w I J) = ms_G 56 18 L (.ref (ms_ad 56 0) :: S) (ms_Z q w I J) := mz_getf (c := (2, 56)) rfl (by decide) rfl (by decide) rfl
theorem mi_56_18 : ms_G 56 18 L S σ = ms_G 56 20 L (.int (nI 70) :: S) σ := (ms_G_at rfl _ _ _).trans rfl
theorem mi_56_20 : ms_G 56 20 [l0, .int x, l2] S σ = ms_G 56 21 [l0, .int x, l2] (.int x :: S) σ := (ms_G_at rfl _ _ _).trans rfl
theorem mi_56_21 : ms_G 56 21 L (.int y :: .int x :: S) σ = ms_G 56 22 L (.int (x * y) :: S) σ := (ms_G_at rfl _ _ _).trans rfl
theorem mi_56_22 : ms_G 56 22 L S σ = ms_G 56 23 L (.int (nI 3) :: S) σ := (ms_G_at rfl _ _ _).trans rfl
theorem mi_56_23 : ms_G 56 23 L (.int y :: .int x :: S) σ = ms_G 56 24 L (.int (x + y) :: S) σ := (ms_G_at rfl _ _ _).trans rfl
theorem mi_56_24 : ms_G 56 24 L (.int (nI i) :: .ref (ms_ad r u) :: S) (ms_Z q w I J) = cond (mo_0 q.1 r u i) (ms_G 56 25 L (.int (I r u i) :: S) (ms_Z q w I J)) (ms_raw 56 24 L (.int (nI i) :: .ref (ms_ad r u) :: S) (ms_Z q w I J)) := mz_iald rfl
theorem mi_56_25 : ms_G 56 25 L (.int y :: .int x :: S) σ = ms_G 56 26 L (.int (x + y) :: S) σ := (ms_G_at rfl _ _ _).trans rfl
theorem mi_56_26 : ms_G 56 26 L (.int x2 :: .int x1 :: .int x0 :: [.ref g0]) (ms_Z q w I J) = mo_cl 56 26 29 (ms_G 19 0 [.int x0, .int x1, .int x2] [] (ms_Z q false I J)) w L [.ref g0] := (mz_call rfl rfl (mz_can0 rfl rfl rfl rfl rfl)).trans rfl
theorem mi_56_29 : ms_G 56 29 L (.int x :: S) σ = if x = nI 0 then ms_G 56 36 L S σ else ms_G 56 32 L S σ := mz_bra rfl rfl rfl
theorem mi_56_32 : ms_G 56 32 L S σ = ms_G 56 33 L (.int (nI 0) :: S) σ := (ms_G_at rfl _ _ _).trans rfl
theorem mi_56_33 : ms_G 56 33 L S σ = ms_G 56 37 L S σ := (ms_G_at rfl _ _ _).trans rfl
theorem mi_56_36 : ms_G 56 36 L S σ = ms_G 56 37 L (.int (nI 1) :: S) σ := (ms_G_at rfl _ _ _).trans rfl
theorem mi_56_37 : ms_G 56 37 L (.int x :: .ref (ms_ad 40 0) :: S) (ms_Z q w I J) = ms_G 56 40 L S (ms_Z q true (ms_u I 40 0 (upd (I 40 0) 0 x)) J) := mz_putf rfl (by decide) rfl (by decide) rfl rfl
theorem mi_56_40 : ms_G 56 40 [.ref a, l1, l2] S σ = ms_G 56 41 [.ref a, l1, l2] (.ref a :: S) σ := (ms_G_at rfl _ _ _).trans rfl
theorem mi_56_41 : ms_G 56 41 L (.ref (ms_ad 40 0) :: S) (ms_Z q w I J) = ms_G 56 44 L (.int (I 40 0 0) :: S) (ms_Z q w I J) := mz_getf (c := (0, 0)) rfl (by decide) rfl (by decide) rfl
theorem mi_56_44 : ms_G 56 44 L (.int x :: S) σ = if x ≤ nI 0 then ms_G 56 51 L S σ else ms_G 56 47 L S σ := mz_bra rfl rfl rfl
theorem mi_56_47 : ms_G 56 47 L S σ = ms_G 56 48 L (.int (nI 0) :: S) σ := (ms_G_at rfl _ _ _).trans rfl
theorem mi_56_48 : ms_G 56 48 L S σ = ms_G 56 62 L S σ := (ms_G_at rfl _ _ _).trans rfl
theorem mi_56_51 : ms_G 56 51 [.ref a, l1, l2] S σ = ms_G 56 52 [.ref a, l1, l2] (.ref a :: S) σ := (ms_G_at rfl _ _ _).trans rfl
theorem mi_56_52 : ms_G 56 52 L (.ref (ms_ad 40 0) :: S) (ms_Z q w I J) = ms_G 56 55 L (.ref (ms_ad 56 0) :: S) (ms_Z q w I J) := mz_getf (c := (2, 56)) rfl (by decide) rfl (by decide) rfl
theorem mi_56_55 : ms_G 56 55 L S σ = ms_G 56 57 L (.int (nI 70) :: S) σ := (ms_G_at rfl _ _ _).trans rfl
theorem mi_56_57 : ms_G 56 57 [l0, .int x, l2] S σ = ms_G 56 58 [l0, .int x, l2] (.int x :: S) σ := (ms_G_at rfl _ _ _).trans rfl
theorem mi_56_58 : ms_G 56 58 L (.int y :: .int x :: S) σ = ms_G 56 59 L (.int (x * y) :: S) σ := (ms_G_at rfl _ _ _).trans rfl
theorem mi_56_59 : ms_G 56 59 [l0, l1, .int x] S σ = ms_G 56 60 [l0, l1, .int x] (.int x :: S) σ := (ms_G_at rfl _ _ _).trans rfl
theorem mi_56_60 : ms_G 56 60 L (.int y :: .int x :: S) σ = ms_G 56 61 L (.int (x + y) :: S) σ := (ms_G_at rfl _ _ _).trans rfl
theorem mi_56_61 : ms_G 56 61 L (.int (nI i) :: .ref (ms_ad r u) :: S) (ms_Z q w I J) = cond (mo_0 q.1 r u i) (ms_G 56 62 L (.int (I r u i) :: S) (ms_Z q w I J)) (ms_raw 56 61 L (.int (nI i) :: .ref (ms_ad r u) :: S) (ms_Z q w I J)) := mz_iald rfl
theorem mi_56_62 : ms_G 56 62 L [.int x] σ = some (.inl (some (.int x)), σ) := (ms_G_at rfl _ _ _).trans rfl
-- MaskedSumModel.answer(II)V
theorem mi_57_0 : ms_G 57 0 [.ref a, l1, l2, l3, l4, l5] S σ = ms_G 57 1 [.ref a, l1, l2, l3, l4, l5] (.ref a :: S) σ := (ms_G_at rfl _ _ _).trans rfl
theorem mi_57_1 : ms_G 57 1 [l0, .int x, l2, l3, l4, l5] S σ = ms_G 57 2 [l0, .int x, l2, l3, l4, l5] (.int x :: S) σ := (ms_G_at rfl _ _ _).trans rfl
theorem mi_57_2 : ms_G 57 2 [l0, l1, .int x, l3, l4, l5] S σ = ms_G 57 3 [l0, l1, .int x, l3, l4, l5] (.int x :: S) σ := (ms_G_at rfl _ _ _).trans rfl
theorem mi_57_3 : ms_G 57 3 L S σ = ms_G 57 4 L (.int (nI 1) :: S) σ := (ms_G_at rfl _ _ _).trans rfl
theorem mi_57_4 : ms_G 57 4 [l0, .int x, l2, l3, l4, l5] S σ = ms_G 57 5 [l0, .int x, l2, l3, l4, l5] (.int x :: S) σ := (ms_G_at rfl _ _ _).trans rfl
theorem mi_57_5 : ms_G 57 5 L (.int x :: S) σ = if x = nI 0 then ms_G 57 8 L S σ else ms_G 57 13 L S σ := mz_bra rfl rfl rfl
theorem mi_57_8 : ms_G 57 8 L S σ = ms_G 57 10 L (.int (nI 33) :: S) σ := (ms_G_at rfl _ _ _).trans rfl
theorem mi_57_10 : ms_G 57 10 L S σ = ms_G 57 24 L S σ := (ms_G_at rfl _ _ _).trans rfl
theorem mi_57_13 : ms_G 57 13 [l0, .int x, l2, l3, l4, l5] S σ = ms_G 57 14 [l0, .int x, l2, l3, l4, l5] (.int x :: S) σ := (ms_G_at rfl _ _ _).trans rfl
theorem mi_57_14 : ms_G 57 14 L S σ = ms_G 57 15 L (.int (nI 1) :: S) σ := (ms_G_at rfl _ _ _).trans rfl
theorem mi_57_15 : ms_G 57 15 L (.int y :: .int x :: S) σ = if x = y then ms_G 57 18 L S σ else ms_G 57 23 L S σ := mz_bra rfl rfl rfl
theorem mi_57_18 : ms_G 57 18 L S σ = ms_G 57 20 L (.int (nI 65) :: S) σ := (ms_G_at rfl _ _ _).trans rfl
theorem mi_57_20 : ms_G 57 20 L S σ = ms_G 57 24 L S σ := (ms_G_at rfl _ _ _).trans rfl
theorem mi_57_23 : ms_G 57 23 L S σ = ms_G 57 24 L (.int (nI 1) :: S) σ := (ms_G_at rfl _ _ _).trans rfl
theorem mi_57_24 : ms_G 57 24 L [.int x3, .int x2, .int x1, .int x0, .ref (ms_ad 40 0)] (ms_Z q w I J) = mo_cl 57 24 27 (ms_G 40 0 [.ref (ms_ad 40 0), .int x0, .int x1, .int x2, .int x3, .null, .null] [] (ms_Z q false I J)) w L [] := (mz_call rfl rfl (mz_can1 rfl rfl rfl rfl rfl (by decide) rfl (by decide))).trans rfl
theorem mi_57_27 : ms_G 57 27 [l0, l1, .int y, l3, l4, l5] (.int x :: S) σ = ms_G 57 28 [l0, l1, .int y, .int x, l4, l5] S σ := (ms_G_at rfl _ _ _).trans rfl
theorem mi_57_28 : ms_G 57 28 [.ref a, l1, l2, l3, l4, l5] S σ = ms_G 57 29 [.ref a, l1, l2, l3, l4, l5] (.ref a :: S) σ := (ms_G_at rfl _ _ _).trans rfl
theorem mi_57_29 : ms_G 57 29 L (.ref (ms_ad 40 0) :: S) (ms_Z q w I J) = ms_G 57 32 L (.ref (ms_ad 56 0) :: S) (ms_Z q w I J) := mz_getf (c := (2, 56)) rfl (by decide) rfl (by decide) rfl
theorem mi_57_32 : ms_G 57 32 [l0, l1, l2, .int x, l4, l5] S σ = ms_G 57 33 [l0, l1, l2, .int x, l4, l5] (.int x :: S) σ := (ms_G_at rfl _ _ _).trans rfl
theorem mi_57_33 : ms_G 57 33 [.ref a, l1, l2, l3, l4, l5] S σ = ms_G 57 34 [.ref a, l1, l2, l3, l4, l5] (.ref a :: S) σ := (ms_G_at rfl _ _ _).trans rfl
theorem mi_57_34 : ms_G 57 34 L (.ref (ms_ad 40 0) :: S) (ms_Z q w I J) = ms_G 57 37 L (.ref (ms_ad 50 0) :: S) (ms_Z q w I J) := mz_getf (c := (2, 50)) rfl (by decide) rfl (by decide) rfl
theorem mi_57_37 : ms_G 57 37 [l0, .int x, l2, l3, l4, l5] S σ = ms_G 57 38 [l0, .int x, l2, l3, l4, l5] (.int x :: S) σ := (ms_G_at rfl _ _ _).trans rfl
theorem mi_57_38 : ms_G 57 38 L (.int (nI i) :: .ref (ms_ad r u) :: S) (ms_Z q w I J) = cond (mo_0 q.1 r u i) (ms_G 57 39 L (.int (I r u i) :: S) (ms_Z q w I J)) (ms_raw 57 38 L (.int (nI i) :: .ref (ms_ad r u) :: S) (ms_Z q w I J)) := mz_iald rfl
theorem mi_57_39 : ms_G 57 39 L (.int x :: .int (nI i) :: .ref (ms_ad r u) :: S) (ms_Z q w I J) = cond (mo_0 q.1 r u i) (ms_G 57 40 L S (ms_Z q true (ms_u I r u (upd (I r u) i x)) J)) (ms_raw 57 39 L (.int x :: .int (nI i) :: .ref (ms_ad r u) :: S) (ms_Z q w I J)) := mz_iast rfl x
theorem mi_57_40 : ms_G 57 40 L S σ = ms_G 57 41 L (.int (nI 0) :: S) σ := (ms_G_at rfl _ _ _).trans rfl
theorem mi_57_41 : ms_G 57 41 [l0, l1, l2, .int y, l4, l5] (.int x :: S) σ = ms_G 57 43 [l0, l1, l2, .int y, .int x, l5] S σ := (ms_G_at rfl _ _ _).trans rfl
theorem mi_57_43 : ms_G 57 43 [l0, l1, l2, l3, .int x, l5] S σ = ms_G 57 45 [l0, l1, l2, l3, .int x, l5] (.int x :: S) σ := (ms_G_at rfl _ _ _).trans rfl
theorem mi_57_45 : ms_G 57 45 [.ref a, l1, l2, l3, l4, l5] S σ = ms_G 57 46 [.ref a, l1, l2, l3, l4, l5] (.ref a :: S) σ := (ms_G_at rfl _ _ _).trans rfl
theorem mi_57_46 : ms_G 57 46 L (.ref (ms_ad 40 0) :: S) (ms_Z q w I J) = ms_G 57 49 L (.int (I 40 0 1) :: S) (ms_Z q w I J) := mz_getf (c := (0, 1)) rfl (by decide) rfl (by decide) rfl
theorem mi_57_49 : ms_G 57 49 L (.int y :: .int x :: S) σ = if y ≤ x then ms_G 57 184 L S σ else ms_G 57 52 L S σ := mz_bra rfl rfl rfl
theorem mi_57_52 : ms_G 57 52 [.ref a, l1, l2, l3, l4, l5] S σ = ms_G 57 53 [.ref a, l1, l2, l3, l4, l5] (.ref a :: S) σ := (ms_G_at rfl _ _ _).trans rfl
theorem mi_57_53 : ms_G 57 53 L (.ref (ms_ad 40 0) :: S) (ms_Z q w I J) = ms_G 57 56 L (.ref (ms_ad 50 0) :: S) (ms_Z q w I J) := mz_getf (c := (2, 50)) rfl (by decide) rfl (by decide) rfl
theorem mi_57_56 : ms_G 57 56 [l0, .int x, l2, l3, l4, l5] S σ = ms_G 57 57 [l0, .int x, l2, l3, l4, l5] (.int x :: S) σ := (ms_G_at rfl _ _ _).trans rfl
theorem mi_57_57 : ms_G 57 57 L (.int (nI i) :: .ref (ms_ad r u) :: S) (ms_Z q w I J) = cond (mo_0 q.1 r u i) (ms_G 57 58 L (.int (I r u i) :: S) (ms_Z q w I J)) (ms_raw 57 57 L (.int (nI i) :: .ref (ms_ad r u) :: S) (ms_Z q w I J)) := mz_iald rfl
theorem mi_57_58 : ms_G 57 58 [l0, l1, l2, l3, .int x, l5] S σ = ms_G 57 60 [l0, l1, l2, l3, .int x, l5] (.int x :: S) σ := (ms_G_at rfl _ _ _).trans rfl
theorem mi_57_60 : ms_G 57 60 L [.int x1, .int x0] (ms_Z q w I J) = mo_cl 57 60 63 (ms_G 42 0 [.int x0, .int x1] [] (ms_Z q false I J)) w L [] := (mz_call rfl rfl (mz_can0 rfl rfl rfl rfl rfl)).trans rfl
theorem mi_57_63 : ms_G 57 63 L (.int x :: S) σ = if x = nI 0 then ms_G 57 66 L S σ else ms_G 57 69 L S σ := mz_bra rfl rfl rfl
theorem mi_57_66 : ms_G 57 66 L S σ = ms_G 57 178 L S σ := (ms_G_at rfl _ _ _).trans rfl
theorem mi_57_69 : ms_G 57 69 L S σ = ms_G 57 70 L (.int (nI 0) :: S) σ := (ms_G_at rfl _ _ _).trans rfl
theorem mi_57_70 : ms_G 57 70 [l0, l1, l2, l3, .int y, l5] (.int x :: S) σ = ms_G 57 72 [l0, l1, l2, l3, .int y, .int x] S σ := (ms_G_at rfl _ _ _).trans rfl
theorem mi_57_72 : ms_G 57 72 [l0, l1, l2, l3, l4, .int x] S σ = ms_G 57 74 [l0, l1, l2, l3, l4, .int x] (.int x :: S) σ := (ms_G_at rfl _ _ _).trans rfl
theorem mi_57_74 : ms_G 57 74 L S σ = ms_G 57 75 L (.int (nI 4) :: S) σ := (ms_G_at rfl _ _ _).trans rfl
theorem mi_57_75 : ms_G 57 75 L (.int y :: .int x :: S) σ = if y ≤ x then ms_G 57 116 L S σ else ms_G 57 78 L S σ := mz_bra rfl rfl rfl
theorem mi_57_78 : ms_G 57 78 [l0, .int x, l2, l3, l4, l5] S σ = ms_G 57 79 [l0, .int x, l2, l3, l4, l5] (.int x :: S) σ := (ms_G_at rfl _ _ _).trans rfl
theorem mi_57_79 : ms_G 57 79 L (.int x :: S) σ = if x = nI 0 then ms_G 57 82 L S σ else ms_G 57 116 L S σ := mz_bra rfl rfl rfl
theorem mi_57_82 : ms_G 57 82 [.ref a, l1, l2, l3, l4, l5] S σ = ms_G 57 83 [.ref a, l1, l2, l3, l4, l5] (.ref a :: S) σ := (ms_G_at rfl _ _ _).trans rfl
theorem mi_57_83 : ms_G 57 83 L (.ref (ms_ad 40 0) :: S) (ms_Z q w I J) = ms_G 57 86 L (.ref (ms_ad 56 0) :: S) (ms_Z q w I J) := mz_getf (c := (2, 56)) rfl (by decide) rfl (by decide) rfl
theorem mi_57_86 : ms_G 57 86 [l0, l1, l2, .int x, l4, l5] S σ = ms_G 57 87 [l0, l1, l2, .int x, l4, l5] (.int x :: S) σ := (ms_G_at rfl _ _ _).trans rfl
theorem mi_57_87 : ms_G 57 87 L S σ = ms_G 57 88 L (.int (nI 1) :: S) σ := (ms_G_at rfl _ _ _).trans rfl
theorem mi_57_88 : ms_G 57 88 L (.int y :: .int x :: S) σ = ms_G 57 89 L (.int (x + y) :: S) σ := (ms_G_at rfl _ _ _).trans rfl
theorem mi_57_89 : ms_G 57 89 L S σ = ms_G 57 90 L (.int (nI 4) :: S) σ := (ms_G_at rfl _ _ _).trans rfl
theorem mi_57_90 : ms_G 57 90 [l0, l1, l2, l3, .int x, l5] S σ = ms_G 57 92 [l0, l1, l2, l3, .int x, l5] (.int x :: S) σ := (ms_G_at rfl _ _ _).trans rfl
theorem mi_57_92 : ms_G 57 92 L (.int y :: .int x :: S) σ = ms_G 57 93 L (.int (x * y) :: S) σ := (ms_G_at rfl _ _ _).trans rfl
theorem mi_57_93 : ms_G 57 93 L (.int y :: .int x :: S) σ = ms_G 57 94 L (.int (x + y) :: S) σ := (ms_G_at rfl _ _ _).trans rfl
theorem mi_57_94 : ms_G 57 94 [l0, l1, l2, l3, l4, .int x] S σ = ms_G 57 96 [l0, l1, l2, l3, l4, .int x] (.int x :: S) σ := (ms_G_at rfl _ _ _).trans rfl
theorem mi_57_96 : ms_G 57 96 L (.int y :: .int x :: S) σ = ms_G 57 97 L (.int (x + y) :: S) σ := (ms_G_at rfl _ _ _).trans rfl
theorem mi_57_97 : ms_G 57 97 [.ref a, l1, l2, l3, l4, l5] S σ = ms_G 57 98 [.ref a, l1, l2, l3, l4, l5] (.ref a :: S) σ := (ms_G_at rfl _ _ _).trans rfl
theorem mi_57_98 : ms_G 57 98 L (.ref (ms_ad 40 0) :: S) (ms_Z q w I J) = ms_G 57 101 L (.ref (ms_ad 52 0) :: S) (ms_Z q w I J) := mz_getf (c := (2, 52)) rfl (by decide) rfl (by decide) rfl
theorem mi_57_101 : ms_G 57 101 L S σ = ms_G 57 102 L (.int (nI 4) :: S) σ := (ms_G_at rfl _ _ _).trans rfl
theorem mi_57_102 : ms_G 57 102 [l0, l1, l2, l3, .int x, l5] S σ = ms_G 57 104 [l0, l1, l2, l3, .int x, l5] (.int x :: S) σ := (ms_G_at rfl _ _ _).trans rfl
theorem mi_57_104 : ms_G 57 104 L (.int y :: .int x :: S) σ = ms_G 57 105 L (.int (x * y) :: S) σ := (ms_G_at rfl _ _ _).trans rfl
theorem mi_57_105 : ms_G 57 105 [l0, l1, l2, l3, l4, .int x] S σ = ms_G 57 107 [l0, l1, l2, l3, l4, .int x] (.int x :: S) σ := (ms_G_at rfl _ _ _).trans rfl
theorem mi_57_107 : ms_G 57 107 L (.int y :: .int x :: S) σ = ms_G 57 108 L (.int (x + y) :: S) σ := (ms_G_at rfl _ _ _).trans rfl
theorem mi_57_108 : ms_G 57 108 L (.int (nI i) :: .ref (ms_ad r u) :: S) (ms_Z q w I J) = cond (mo_0 q.1 r u i) (ms_G 57 109 L (.int (I r u i) :: S) (ms_Z q w I J)) (ms_raw 57 108 L (.int (nI i) :: .ref (ms_ad r u) :: S) (ms_Z q w I J)) := mz_iald rfl
theorem mi_57_109 : ms_G 57 109 L (.int x :: .int (nI i) :: .ref (ms_ad r u) :: S) (ms_Z q w I J) = cond (mo_0 q.1 r u i) (ms_G 57 110 L S (ms_Z q true (ms_u I r u (upd (I r u) i x)) J)) (ms_raw 57 109 L (.int x :: .int (nI i) :: .ref (ms_ad r u) :: S) (ms_Z q w I J)) := mz_iast rfl x
theorem mi_57_110 : ms_G 57 110 [l0, l1, l2, l3, .int y, .int x] S σ = ms_G 57 113 [l0, l1, l2, l3, .int y, .int (x + nI 1)] S σ := (ms_G_at rfl _ _ _).trans rfl
theorem mi_57_113 : ms_G 57 113 L S σ = ms_G 57 72 L S σ := (ms_G_at rfl _ _ _).trans rfl
theorem mi_57_116 : ms_G 57 116 L S σ = ms_G 57 117 L (.int (nI 0) :: S) σ := (ms_G_at rfl _ _ _).trans rfl
theorem mi_57_117 : ms_G 57 117 [l0, l1, l2, l3, .int y, l5] (.int x :: S) σ = ms_G 57 119 [l0, l1, l2, l3, .int y, .int x] S σ := (ms_G_at rfl _ _ _).trans rfl
theorem mi_57_119 : ms_G 57 119 [l0, l1, l2, l3, l4, .int x] S σ = ms_G 57 121 [l0, l1, l2, l3, l4, .int x] (.int x :: S) σ := (ms_G_at rfl _ _ _).trans rfl
theorem mi_57_121 : ms_G 57 121 L S σ = ms_G 57 123 L (.int (nI 8) :: S) σ := (ms_G_at rfl _ _ _).trans rfl
theorem mi_57_123 : ms_G 57 123 L (.int y :: .int x :: S) σ = if y ≤ x then ms_G 57 178 L S σ else ms_G 57 126 L S σ := mz_bra rfl rfl rfl
theorem mi_57_126 : ms_G 57 126 [l0, .int x, l2, l3, l4, l5] S σ = ms_G 57 127 [l0, .int x, l2, l3, l4, l5] (.int x :: S) σ := (ms_G_at rfl _ _ _).trans rfl
theorem mi_57_127 : ms_G 57 127 L S σ = ms_G 57 128 L (.int (nI 1) :: S) σ := (ms_G_at rfl _ _ _).trans rfl
theorem mi_57_128 : ms_G 57 128 L (.int y :: .int x :: S) σ = if x = y then ms_G 57 131 L S σ else ms_G 57 178 L S σ := mz_bra rfl rfl rfl
theorem mi_57_131 : ms_G 57 131 [l0, l1, l2, l3, .int x, l5] S σ = ms_G 57 133 [l0, l1, l2, l3, .int x, l5] (.int x :: S) σ := (ms_G_at rfl _ _ _).trans rfl
theorem mi_57_133 : ms_G 57 133 [l0, l1, .int x, l3, l4, l5] S σ = ms_G 57 134 [l0, l1, .int x, l3, l4, l5] (.int x :: S) σ := (ms_G_at rfl _ _ _).trans rfl
theorem mi_57_134 : ms_G 57 134 L (.int y :: .int x :: S) σ = if x = y then ms_G 57 178 L S σ else ms_G 57 137 L S σ := mz_bra rfl rfl rfl
theorem mi_57_137 : ms_G 57 137 [.ref a, l1, l2, l3, l4, l5] S σ = ms_G 57 138 [.ref a, l1, l2, l3, l4, l5] (.ref a :: S) σ := (ms_G_at rfl _ _ _).trans rfl
theorem mi_57_138 : ms_G 57 138 L (.ref (ms_ad 40 0) :: S) (ms_Z q w I J) = ms_G 57 141 L (.ref (ms_ad 56 0) :: S) (ms_Z q w I J) := mz_getf (c := (2, 56)) rfl (by decide) rfl (by decide) rfl
theorem mi_57_141 : ms_G 57 141 [l0, l1, l2, .int x, l4, l5] S σ = ms_G 57 142 [l0, l1, l2, .int x, l4, l5] (.int x :: S) σ := (ms_G_at rfl _ _ _).trans rfl
theorem mi_57_142 : ms_G 57 142 L S σ = ms_G 57 143 L (.int (nI 1) :: S) σ := (ms_G_at rfl _ _ _).trans rfl
theorem mi_57_143 : ms_G 57 143 L (.int y :: .int x :: S) σ = ms_G 57 144 L (.int (x + y) :: S) σ := (ms_G_at rfl _ _ _).trans rfl
theorem mi_57_144 : ms_G 57 144 L S σ = ms_G 57 146 L (.int (nI 8) :: S) σ := (ms_G_at rfl _ _ _).trans rfl
theorem mi_57_146 : ms_G 57 146 [l0, l1, l2, l3, .int x, l5] S σ = ms_G 57 148 [l0, l1, l2, l3, .int x, l5] (.int x :: S) σ := (ms_G_at rfl _ _ _).trans rfl
theorem mi_57_148 : ms_G 57 148 L (.int y :: .int x :: S) σ = ms_G 57 149 L (.int (x * y) :: S) σ := (ms_G_at rfl _ _ _).trans rfl
theorem mi_57_149 : ms_G 57 149 L (.int y :: .int x :: S) σ = ms_G 57 150 L (.int (x + y) :: S) σ := (ms_G_at rfl _ _ _).trans rfl
theorem mi_57_150 : ms_G 57 150 [l0, l1, l2, l3, l4, .int x] S σ = ms_G 57 152 [l0, l1, l2, l3, l4, .int x] (.int x :: S) σ := (ms_G_at rfl _ _ _).trans rfl
theorem mi_57_152 : ms_G 57 152 L (.int y :: .int x :: S) σ = ms_G 57 153 L (.int (x + y) :: S) σ := (ms_G_at rfl _ _ _).trans rfl
theorem mi_57_153 : ms_G 57 153 [.ref a, l1, l2, l3, l4, l5] S σ = ms_G 57 154 [.ref a, l1, l2, l3, l4, l5] (.ref a :: S) σ := (ms_G_at rfl _ _ _).trans rfl
theorem mi_57_154 : ms_G 57 154 L (.ref (ms_ad 40 0) :: S) (ms_Z q w I J) = ms_G 57 157 L (.ref (ms_ad 53 0) :: S) (ms_Z q w I J) := mz_getf (c := (2, 53)) rfl (by decide) rfl (by decide) rfl
theorem mi_57_157 : ms_G 57 157 L S σ = ms_G 57 159 L (.int (nI 64) :: S) σ := (ms_G_at rfl _ _ _).trans rfl
theorem mi_57_159 : ms_G 57 159 [l0, l1, l2, l3, .int x, l5] S σ = ms_G 57 161 [l0, l1, l2, l3, .int x, l5] (.int x :: S) σ := (ms_G_at rfl _ _ _).trans rfl
theorem mi_57_161 : ms_G 57 161 L (.int y :: .int x :: S) σ = ms_G 57 162 L (.int (x * y) :: S) σ := (ms_G_at rfl _ _ _).trans rfl
theorem mi_57_162 : ms_G 57 162 L S σ = ms_G 57 164 L (.int (nI 8) :: S) σ := (ms_G_at rfl _ _ _).trans rfl
theorem mi_57_164 : ms_G 57 164 [l0, l1, .int x, l3, l4, l5] S σ = ms_G 57 165 [l0, l1, .int x, l3, l4, l5] (.int x :: S) σ := (ms_G_at rfl _ _ _).trans rfl
theorem mi_57_165 : ms_G 57 165 L (.int y :: .int x :: S) σ = ms_G 57 166 L (.int (x * y) :: S) σ := (ms_G_at rfl _ _ _).trans rfl
theorem mi_57_166 : ms_G 57 166 L (.int y :: .int x :: S) σ = ms_G 57 167 L (.int (x + y) :: S) σ := (ms_G_at rfl _ _ _).trans rfl
theorem mi_57_167 : ms_G 57 167 [l0, l1, l2, l3, l4, .int x] S σ = ms_G 57 169 [l0, l1, l2, l3, l4, .int x] (.int x :: S) σ := (ms_G_at rfl _ _ _).trans rfl
theorem mi_57_169 : ms_G 57 169 L (.int y :: .int x :: S) σ = ms_G 57 170 L (.int (x + y) :: S) σ := (ms_G_at rfl _ _ _).trans rfl
theorem mi_57_170 : ms_G 57 170 L (.int (nI i) :: .ref (ms_ad r u) :: S) (ms_Z q w I J) = cond (mo_0 q.1 r u i) (ms_G 57 171 L (.int (I r u i) :: S) (ms_Z q w I J)) (ms_raw 57 170 L (.int (nI i) :: .ref (ms_ad r u) :: S) (ms_Z q w I J)) := mz_iald rfl
theorem mi_57_171 : ms_G 57 171 L (.int x :: .int (nI i) :: .ref (ms_ad r u) :: S) (ms_Z q w I J) = cond (mo_0 q.1 r u i) (ms_G 57 172 L S (ms_Z q true (ms_u I r u (upd (I r u) i x)) J)) (ms_raw 57 171 L (.int x :: .int (nI i) :: .ref (ms_ad r u) :: S) (ms_Z q w I J)) := mz_iast rfl x
theorem mi_57_172 : ms_G 57 172 [l0, l1, l2, l3, .int y, .int x] S σ = ms_G 57 175 [l0, l1, l2, l3, .int y, .int (x + nI 1)] S σ := (ms_G_at rfl _ _ _).trans rfl
theorem mi_57_175 : ms_G 57 175 L S σ = ms_G 57 119 L S σ := (ms_G_at rfl _ _ _).trans rfl
theorem mi_57_178 : ms_G 57 178 [l0, l1, l2, .int y, .int x, l5] S σ = ms_G 57 181 [l0, l1, l2, .int y, .int (x + nI 1), l5] S σ := (ms_G_at rfl _ _ _).trans rfl
theorem mi_57_181 : ms_G 57 181 L S σ = ms_G 57 43 L S σ := (ms_G_at rfl _ _ _).trans rfl
theorem mi_57_184 : ms_G 57 184 L [] σ = some (.inl none, σ) := (ms_G_at rfl _ _ _).trans rfl
-- MaskedSumModel.join(I)Z
theorem mi_58_0 : ms_G 58 0 L S σ = ms_G 58 1 L (.int (nI 0) :: S) σ := (ms_G_at rfl _ _ _).trans rfl
theorem mi_58_1 : ms_G 58 1 [l0, .int y, l2, l3, l4, l5, l6, l7, l8, l9] (.int x :: S) σ = ms_G 58 2 [l0, .int y, .int x, l3, l4, l5, l6, l7, l8, l9] S σ := (ms_G_at rfl _ _ _).trans rfl
theorem mi_58_2 : ms_G 58 2 L S σ = ms_G 58 3 L (.int (nI 0) :: S) σ := (ms_G_at rfl _ _ _).trans rfl
theorem mi_58_3 : ms_G 58 3 [l0, l1, .int y, l3, l4, l5, l6, l7, l8, l9] (.int x :: S) σ = ms_G 58 4 [l0, l1, .int y, .int x, l4, l5, l6, l7, l8, l9] S σ := (ms_G_at rfl _ _ _).trans rfl
theorem mi_58_4 : ms_G 58 4 [l0, l1, l2, .int x, l4, l5, l6, l7, l8, l9] S σ = ms_G 58 5 [l0, l1, l2, .int x, l4, l5, l6, l7, l8, l9] (.int x :: S) σ := (ms_G_at rfl _ _ _).trans rfl
theorem mi_58_5 : ms_G 58 5 [.ref a, l1, l2, l3, l4, l5, l6, l7, l8, l9] S σ = ms_G 58 6 [.ref a, l1, l2, l3, l4, l5, l6, l7, l8, l9] (.ref a :: S) σ := (ms_G_at rfl _ _ _).trans rfl
theorem mi_58_6 : ms_G 58 6 L (.ref (ms_ad 40 0) :: S) (ms_Z q w I J) = ms_G 58 9 L (.int (I 40 0 1) :: S) (ms_Z q w I J) := mz_getf (c := (0, 1)) rfl (by decide) rfl (by decide) rfl
theorem mi_58_9 : ms_G 58 9 L (.int y :: .int x :: S) σ = if y ≤ x then ms_G 58 64 L S σ else ms_G 58 12 L S σ := mz_bra rfl rfl rfl
theorem mi_58_12 : ms_G 58 12 [l0, l1, .int x, l3, l4, l5, l6, l7, l8, l9] S σ = ms_G 58 13 [l0, l1, .int x, l3, l4, l5, l6, l7, l8, l9] (.int x :: S) σ := (ms_G_at rfl _ _ _).trans rfl
theorem mi_58_13 : ms_G 58 13 L [.int x0] (ms_Z q w I J) = mo_cl 58 13 16 (ms_G 43 0 [.int x0, .null, .null] [] (ms_Z q false I J)) w L [] := (mz_call rfl rfl (mz_can0 rfl rfl rfl rfl rfl)).trans rfl
theorem mi_58_16 : ms_G 58 16 [.ref a, l1, l2, l3, l4, l5, l6, l7, l8, l9] S σ = ms_G 58 17 [.ref a, l1, l2, l3, l4, l5, l6, l7, l8, l9] (.ref a :: S) σ := (ms_G_at rfl _ _ _).trans rfl
theorem mi_58_17 : ms_G 58 17 L (.ref (ms_ad 40 0) :: S) (ms_Z q w I J) = ms_G 58 20 L (.int (I 40 0 2) :: S) (ms_Z q w I J) := mz_getf (c := (0, 2)) rfl (by decide) rfl (by decide) rfl
theorem mi_58_20 : ms_G 58 20 L (.int y :: .int x :: S) σ = if y ≤ x then ms_G 58 64 L S σ else ms_G 58 23 L S σ := mz_bra rfl rfl rfl
theorem mi_58_23 : ms_G 58 23 [.ref a, l1, l2, l3, l4, l5, l6, l7, l8, l9] S σ = ms_G 58 24 [.ref a, l1, l2, l3, l4, l5, l6, l7, l8, l9] (.ref a :: S) σ := (ms_G_at rfl _ _ _).trans rfl
theorem mi_58_24 : ms_G 58 24 L (.ref (ms_ad 40 0) :: S) (ms_Z q w I J) = ms_G 58 27 L (.ref (ms_ad 51 0) :: S) (ms_Z q w I J) := mz_getf (c := (2, 51)) rfl (by decide) rfl (by decide) rfl
theorem mi_58_27 : ms_G 58 27 L S σ = ms_G 58 28 L (.int (nI 3) :: S) σ := (ms_G_at rfl _ _ _).trans rfl
theorem mi_58_28 : ms_G 58 28 L (.int (nI i) :: .ref (ms_ad r u) :: S) (ms_Z q w I J) = cond (mo_0 q.1 r u i) (ms_G 58 29 L (.int (I r u i) :: S) (ms_Z q w I J)) (ms_raw 58 28 L (.int (nI i) :: .ref (ms_ad r u) :: S) (ms_Z q w I J)) := mz_iald rfl
theorem mi_58_29 : ms_G 58 29 [l0, l1, l2, .int x, l4, l5, l6, l7, l8, l9] S σ = ms_G 58 30 [l0, l1, l2, .int x, l4, l5, l6, l7, l8, l9] (.int x :: S) σ := (ms_G_at rfl _ _ _).trans rfl
theorem mi_58_30 : ms_G 58 30 L [.int x1, .int x0] (ms_Z q w I J) = mo_cl 58 30 33 (ms_G 42 0 [.int x0, .int x1] [] (ms_Z q false I J)) w L [] := (mz_call rfl rfl (mz_can0 rfl rfl rfl rfl rfl)).trans rfl
theorem mi_58_33 : ms_G 58 33 L (.int x :: S) σ = if x = nI 0 then ms_G 58 58 L S σ else ms_G 58 36 L S σ := mz_bra rfl rfl rfl
theorem mi_58_36 : ms_G 58 36 [.ref a, l1, l2, l3, l4, l5, l6, l7, l8, l9] S σ = ms_G 58 37 [.ref a, l1, l2, l3, l4, l5, l6, l7, l8, l9] (.ref a :: S) σ := (ms_G_at rfl _ _ _).trans rfl
theorem mi_58_37 : ms_G 58 37 L (.ref (ms_ad 40 0) :: S) (ms_Z q w I J) = ms_G 58 40 L (.ref (ms_ad 55 0) :: S) (ms_Z q w I J) := mz_getf (c := (2, 55)) rfl (by decide) rfl (by decide) rfl
theorem mi_58_40 : ms_G 58 40 L S σ = ms_G 58 42 L (.int (nI 17) :: S) σ := (ms_G_at rfl _ _ _).trans rfl
theorem mi_58_42 : ms_G 58 42 [l0, l1, l2, .int x, l4, l5, l6, l7, l8, l9] S σ = ms_G 58 43 [l0, l1, l2, .int x, l4, l5, l6, l7, l8, l9] (.int x :: S) σ := (ms_G_at rfl _ _ _).trans rfl
theorem mi_58_43 : ms_G 58 43 L (.int y :: .int x :: S) σ = ms_G 58 44 L (.int (x * y) :: S) σ := (ms_G_at rfl _ _ _).trans rfl
theorem mi_58_44 : ms_G 58 44 L (.int (nI i) :: .ref (ms_ad r u) :: S) (ms_Z q w I J) = cond (mo_0 q.1 r u i) (ms_G 58 45 L (.int (I r u i) :: S) (ms_Z q w I J)) (ms_raw 58 44 L (.int (nI i) :: .ref (ms_ad r u) :: S) (ms_Z q w I J)) := mz_iald rfl
theorem mi_58_45 : ms_G 58 45 [l0, .int x, l2, l3, l4, l5, l6, l7, l8, l9] S σ = ms_G 58 46 [l0, .int x, l2, l3, l4, l5, l6, l7, l8, l9] (.int x :: S) σ := (ms_G_at rfl _ _ _).trans rfl
theorem mi_58_46 : ms_G 58 46 L [.int x1, .int x0] (ms_Z q w I J) = mo_cl 58 46 49 (ms_G 42 0 [.int x0, .int x1] [] (ms_Z q false I J)) w L [] := (mz_call rfl rfl (mz_can0 rfl rfl rfl rfl rfl)).trans rfl
theorem mi_58_49 : ms_G 58 49 L (.int x :: S) σ = if x = nI 0 then ms_G 58 58 L S σ else ms_G 58 52 L S σ := mz_bra rfl rfl rfl
theorem mi_58_52 : ms_G 58 52 [l0, l1, .int x, l3, l4, l5, l6, l7, l8, l9] S σ = ms_G 58 53 [l0, l1, .int x, l3, l4, l5, l6, l7, l8, l9] (.int x :: S) σ := (ms_G_at rfl _ _ _).trans rfl
theorem mi_58_53 : ms_G 58 53 L S σ = ms_G 58 54 L (.int (nI 1) :: S) σ := (ms_G_at rfl _ _ _).trans rfl
theorem mi_58_54 : ms_G 58 54 [l0, l1, l2, .int x, l4, l5, l6, l7, l8, l9] S σ = ms_G 58 55 [l0, l1, l2, .int x, l4, l5, l6, l7, l8, l9] (.int x :: S) σ := (ms_G_at rfl _ _ _).trans rfl
theorem mi_58_55 : ms_G 58 55 L (.int y :: .int x :: S) σ = ms_G 58 56 L (.int (x <<< (y &&& 31)) :: S) σ := (ms_G_at rfl _ _ _).trans rfl
theorem mi_58_56 : ms_G 58 56 L (.int y :: .int x :: S) σ = ms_G 58 57 L (.int (x ||| y) :: S) σ := (ms_G_at rfl _ _ _).trans rfl
theorem mi_58_57 : ms_G 58 57 [l0, .int y, l2, l3, l4, l5, l6, l7, l8, l9] (.int x :: S) σ = ms_G 58 58 [l0, .int y, .int x, l3, l4, l5, l6, l7, l8, l9] S σ := (ms_G_at rfl _ _ _).trans rfl
theorem mi_58_58 : ms_G 58 58 [l0, l1, .int y, .int x, l4, l5, l6, l7, l8, l9] S σ = ms_G 58 61 [l0, l1, .int y, .int (x + nI 1), l4, l5, l6, l7, l8, l9] S σ := (ms_G_at rfl _ _ _).trans rfl
theorem mi_58_61 : ms_G 58 61 L S σ = ms_G 58 4 L S σ := (ms_G_at rfl _ _ _).trans rfl
theorem mi_58_64 : ms_G 58 64 [l0, l1, .int x, l3, l4, l5, l6, l7, l8, l9] S σ = ms_G 58 65 [l0, l1, .int x, l3, l4, l5, l6, l7, l8, l9] (.int x :: S) σ := (ms_G_at rfl _ _ _).trans rfl
theorem mi_58_65 : ms_G 58 65 L [.int x0] (ms_Z q w I J) = mo_cl 58 65 68 (ms_G 43 0 [.int x0, .null, .null] [] (ms_Z q false I J)) w L [] := (mz_call rfl rfl (mz_can0 rfl rfl rfl rfl rfl)).trans rfl
theorem mi_58_68 : ms_G 58 68 [.ref a, l1, l2, l3, l4, l5, l6, l7, l8, l9] S σ = ms_G 58 69 [.ref a, l1, l2, l3, l4, l5, l6, l7, l8, l9] (.ref a :: S) σ := (ms_G_at rfl _ _ _).trans rfl
theorem mi_58_69 : ms_G 58 69 L (.ref (ms_ad 40 0) :: S) (ms_Z q w I J) = ms_G 58 72 L (.int (I 40 0 2) :: S) (ms_Z q w I J) := mz_getf (c := (0, 2)) rfl (by decide) rfl (by decide) rfl
theorem mi_58_72 : ms_G 58 72 L (.int y :: .int x :: S) σ = if y ≤ x then ms_G 58 77 L S σ else ms_G 58 75 L S σ := mz_bra rfl rfl rfl
theorem mi_58_75 : ms_G 58 75 L S σ = ms_G 58 76 L (.int (nI 0) :: S) σ := (ms_G_at rfl _ _ _).trans rfl
theorem mi_58_76 : ms_G 58 76 L [.int (nI 0)] σ = some (.inl (some (.int (nI 0))), σ) := (ms_G_at rfl _ _ _).trans rfl
theorem mi_58_76_1 : ms_G 58 76 L [.int (nI 1)] σ = some (.inl (some (.int (nI 1))), σ) := (ms_G_at rfl _ _ _).trans rfl
theorem mi_58_76_b (B : Bool) : ms_G 58 76 L [.int (ms_b B)] σ = some (.inl (some (.int (ms_b B))), σ) := by cases B <;> exact (ms_G_at rfl _ _ _).trans rfl
theorem mi_58_77 : ms_G 58 77 [.ref a, l1, l2, l3, l4, l5, l6, l7, l8, l9] S σ = ms_G 58 78 [.ref a, l1, l2, l3, l4, l5, l6, l7, l8, l9] (.ref a :: S) σ := (ms_G_at rfl _ _ _).trans rfl
theorem mi_58_78 : ms_G 58 78 L S σ = ms_G 58 79 L (.long (lN 0) :: S) σ := (ms_G_at rfl _ _ _).trans rfl
theorem mi_58_79 : ms_G 58 79 L (.long X :: .ref (ms_ad 40 0) :: S) (ms_Z q w I J) = ms_G 58 82 L S (ms_Z q true I (ms_u J 40 0 (vp_updL (J 40 0) 32 X))) := mz_putl rfl (by decide) rfl (by decide) rfl rfl
theorem mi_58_82 : ms_G 58 82 L S σ = ms_G 58 83 L (.int (nI 0) :: S) σ := (ms_G_at rfl _ _ _).trans rfl
theorem mi_58_83 : ms_G 58 83 [l0, l1, .int y, l3, l4, l5, l6, l7, l8, l9] (.int x :: S) σ = ms_G 58 84 [l0, l1, .int y, .int x, l4, l5, l6, l7, l8, l9] S σ := (ms_G_at rfl _ _ _).trans rfl
theorem mi_58_84 : ms_G 58 84 [l0, l1, l2, .int x, l4, l5, l6, l7, l8, l9] S σ = ms_G 58 85 [l0, l1, l2, .int x, l4, l5, l6, l7, l8, l9] (.int x :: S) σ := (ms_G_at rfl _ _ _).trans rfl
theorem mi_58_85 : ms_G 58 85 [.ref a, l1, l2, l3, l4, l5, l6, l7, l8, l9] S σ = ms_G 58 86 [.ref a, l1, l2, l3, l4, l5, l6, l7, l8, l9] (.ref a :: S) σ := (ms_G_at rfl _ _ _).trans rfl
theorem mi_58_86 : ms_G 58 86 L (.ref (ms_ad 40 0) :: S) (ms_Z q w I J) = ms_G 58 89 L (.int (I 40 0 1) :: S) (ms_Z q w I J) := mz_getf (c := (0, 1)) rfl (by decide) rfl (by decide) rfl
theorem mi_58_89 : ms_G 58 89 L (.int y :: .int x :: S) σ = if y ≤ x then ms_G 58 257 L S σ else ms_G 58 92 L S σ := mz_bra rfl rfl rfl
theorem mi_58_92 : ms_G 58 92 [l0, l1, .int x, l3, l4, l5, l6, l7, l8, l9] S σ = ms_G 58 93 [l0, l1, .int x, l3, l4, l5, l6, l7, l8, l9] (.int x :: S) σ := (ms_G_at rfl _ _ _).trans rfl
theorem mi_58_93 : ms_G 58 93 [l0, l1, l2, .int x, l4, l5, l6, l7, l8, l9] S σ = ms_G 58 94 [l0, l1, l2, .int x, l4, l5, l6, l7, l8, l9] (.int x :: S) σ := (ms_G_at rfl _ _ _).trans rfl
theorem mi_58_94 : ms_G 58 94 L [.int x1, .int x0] (ms_Z q w I J) = mo_cl 58 94 97 (ms_G 42 0 [.int x0, .int x1] [] (ms_Z q false I J)) w L [] := (mz_call rfl rfl (mz_can0 rfl rfl rfl rfl rfl)).trans rfl
theorem mi_58_97 : ms_G 58 97 L (.int x :: S) σ = if x = nI 0 then ms_G 58 100 L S σ else ms_G 58 103 L S σ := mz_bra rfl rfl rfl
theorem mi_58_100 : ms_G 58 100 L S σ = ms_G 58 251 L S σ := (ms_G_at rfl _ _ _).trans rfl
theorem mi_58_103 : ms_G 58 103 L S σ = ms_G 58 104 L (.long (lN 1) :: S) σ := (ms_G_at rfl _ _ _).trans rfl
theorem mi_58_104 : ms_G 58 104 [l0, l1, l2, .int y, l4, l5, l6, l7, l8, l9] (.long X :: S) σ = ms_G 58 106 [l0, l1, l2, .int y, .long X, .null, l6, l7, l8, l9] S σ := (ms_G_at rfl _ _ _).trans rfl
theorem mi_58_106 : ms_G 58 106 L S σ = ms_G 58 107 L (.long (lN 1) :: S) σ := (ms_G_at rfl _ _ _).trans rfl
theorem mi_58_107 : ms_G 58 107 [l0, l1, l2, l3, l4, .null, l6, l7, l8, l9] (.long X :: S) σ = ms_G 58 109 [l0, l1, l2, l3, l4, .null, .long X, .null, l8, l9] S σ := (ms_G_at rfl _ _ _).trans rfl
theorem mi_58_109 : ms_G 58 109 L S σ = ms_G 58 110 L (.int (nI 0) :: S) σ := (ms_G_at rfl _ _ _).trans rfl
theorem mi_58_110 : ms_G 58 110 [l0, l1, l2, l3, l4, l5, l6, .null, l8, l9] (.int x :: S) σ = ms_G 58 112 [l0, l1, l2, l3, l4, l5, l6, .null, .int x, l9] S σ := (ms_G_at rfl _ _ _).trans rfl
theorem mi_58_112 : ms_G 58 112 [l0, l1, l2, l3, l4, l5, l6, l7, .int x, l9] S σ = ms_G 58 114 [l0, l1, l2, l3, l4, l5, l6, l7, .int x, l9] (.int x :: S) σ := (ms_G_at rfl _ _ _).trans rfl
theorem mi_58_114 : ms_G 58 114 [.ref a, l1, l2, l3, l4, l5, l6, l7, l8, l9] S σ = ms_G 58 115 [.ref a, l1, l2, l3, l4, l5, l6, l7, l8, l9] (.ref a :: S) σ := (ms_G_at rfl _ _ _).trans rfl
theorem mi_58_115 : ms_G 58 115 L (.ref (ms_ad 40 0) :: S) (ms_Z q w I J) = ms_G 58 118 L (.int (I 40 0 1) :: S) (ms_Z q w I J) := mz_getf (c := (0, 1)) rfl (by decide) rfl (by decide) rfl
theorem mi_58_118 : ms_G 58 118 L (.int y :: .int x :: S) σ = if y ≤ x then ms_G 58 187 L S σ else ms_G 58 121 L S σ := mz_bra rfl rfl rfl
theorem mi_58_121 : ms_G 58 121 [l0, l1, l2, l3, l4, l5, l6, l7, .int x, l9] S σ = ms_G 58 123 [l0, l1, l2, l3, l4, l5, l6, l7, .int x, l9] (.int x :: S) σ := (ms_G_at rfl _ _ _).trans rfl
theorem mi_58_123 : ms_G 58 123 [l0, l1, l2, .int x, l4, l5, l6, l7, l8, l9] S σ = ms_G 58 124 [l0, l1, l2, .int x, l4, l5, l6, l7, l8, l9] (.int x :: S) σ := (ms_G_at rfl _ _ _).trans rfl
theorem mi_58_124 : ms_G 58 124 L (.int y :: .int x :: S) σ = if x = y then ms_G 58 181 L S σ else ms_G 58 127 L S σ := mz_bra rfl rfl rfl
theorem mi_58_127 : ms_G 58 127 [l0, l1, .int x, l3, l4, l5, l6, l7, l8, l9] S σ = ms_G 58 128 [l0, l1, .int x, l3, l4, l5, l6, l7, l8, l9] (.int x :: S) σ := (ms_G_at rfl _ _ _).trans rfl
theorem mi_58_128 : ms_G 58 128 [l0, l1, l2, l3, l4, l5, l6, l7, .int x, l9] S σ = ms_G 58 130 [l0, l1, l2, l3, l4, l5, l6, l7, .int x, l9] (.int x :: S) σ := (ms_G_at rfl _ _ _).trans rfl
theorem mi_58_130 : ms_G 58 130 L [.int x1, .int x0] (ms_Z q w I J) = mo_cl 58 130 133 (ms_G 42 0 [.int x0, .int x1] [] (ms_Z q false I J)) w L [] := (mz_call rfl rfl (mz_can0 rfl rfl rfl rfl rfl)).trans rfl
theorem mi_58_133 : ms_G 58 133 L (.int x :: S) σ = if x = nI 0 then ms_G 58 136 L S σ else ms_G 58 139 L S σ := mz_bra rfl rfl rfl
theorem mi_58_136 : ms_G 58 136 L S σ = ms_G 58 181 L S σ := (ms_G_at rfl _ _ _).trans rfl
theorem mi_58_139 : ms_G 58 139 [l0, l1, l2, l3, .long X, l5, l6, l7, l8, l9] S σ = ms_G 58 141 [l0, l1, l2, l3, .long X, l5, l6, l7, l8, l9] (.long X :: S) σ := (ms_G_at rfl _ _ _).trans rfl
theorem mi_58_141 : ms_G 58 141 [l0, l1, l2, l3, l4, l5, l6, l7, .int x, l9] S σ = ms_G 58 143 [l0, l1, l2, l3, l4, l5, l6, l7, .int x, l9] (.int x :: S) σ := (ms_G_at rfl _ _ _).trans rfl
theorem mi_58_143 : ms_G 58 143 L (.int x :: S) σ = ms_G 58 144 L (.long x.toInt64 :: S) σ := (ms_G_at rfl _ _ _).trans rfl
theorem mi_58_144 : ms_G 58 144 L S σ = ms_G 58 145 L (.long (lN 1) :: S) σ := (ms_G_at rfl _ _ _).trans rfl
theorem mi_58_145 : ms_G 58 145 L (.long Y :: .long X :: S) σ = ms_G 58 146 L (.long (X + Y) :: S) σ := (ms_G_at rfl _ _ _).trans rfl
theorem mi_58_146 : ms_G 58 146 L [.long X1, .long X0] (ms_Z q w I J) = mo_cl 58 146 149 (ms_G 21 0 [.long X0, .null, .long X1, .null, .null, .null, .null] [] (ms_Z q false I J)) w L [] := (mz_call rfl rfl (mz_can0 rfl rfl rfl rfl rfl)).trans rfl
theorem mi_58_149 : ms_G 58 149 [l0, l1, l2, .int y, l4, l5, l6, l7, l8, l9] (.long X :: S) σ = ms_G 58 151 [l0, l1, l2, .int y, .long X, .null, l6, l7, l8, l9] S σ := (ms_G_at rfl _ _ _).trans rfl
theorem mi_58_151 : ms_G 58 151 [l0, l1, l2, l3, l4, l5, .long X, l7, l8, l9] S σ = ms_G 58 153 [l0, l1, l2, l3, l4, l5, .long X, l7, l8, l9] (.long X :: S) σ := (ms_G_at rfl _ _ _).trans rfl
theorem mi_58_153 : ms_G 58 153 [l0, l1, l2, l3, l4, l5, l6, l7, .int x, l9] S σ = ms_G 58 155 [l0, l1, l2, l3, l4, l5, l6, l7, .int x, l9] (.int x :: S) σ := (ms_G_at rfl _ _ _).trans rfl
theorem mi_58_155 : ms_G 58 155 [l0, l1, l2, .int x, l4, l5, l6, l7, l8, l9] S σ = ms_G 58 156 [l0, l1, l2, .int x, l4, l5, l6, l7, l8, l9] (.int x :: S) σ := (ms_G_at rfl _ _ _).trans rfl
theorem mi_58_156 : ms_G 58 156 L (.int y :: .int x :: S) σ = if x ≤ y then ms_G 58 167 L S σ else ms_G 58 159 L S σ := mz_bra rfl rfl rfl
theorem mi_58_159 : ms_G 58 159 [l0, l1, l2, l3, l4, l5, l6, l7, .int x, l9] S σ = ms_G 58 161 [l0, l1, l2, l3, l4, l5, l6, l7, .int x, l9] (.int x :: S) σ := (ms_G_at rfl _ _ _).trans rfl
theorem mi_58_161 : ms_G 58 161 [l0, l1, l2, .int x, l4, l5, l6, l7, l8, l9] S σ = ms_G 58 162 [l0, l1, l2, .int x, l4, l5, l6, l7, l8, l9] (.int x :: S) σ := (ms_G_at rfl _ _ _).trans rfl
theorem mi_58_162 : ms_G 58 162 L (.int y :: .int x :: S) σ = ms_G 58 163 L (.int (x - y) :: S) σ := (ms_G_at rfl _ _ _).trans rfl
theorem mi_58_163 : ms_G 58 163 L (.int x :: S) σ = ms_G 58 164 L (.long x.toInt64 :: S) σ := (ms_G_at rfl _ _ _).trans rfl
theorem mi_58_164 : ms_G 58 164 L S σ = ms_G 58 176 L S σ := (ms_G_at rfl _ _ _).trans rfl
theorem mi_58_167 : ms_G 58 167 L S σ = ms_G 58 170 L (.long (lN 2305843009213693951) :: S) σ := (ms_G_at rfl _ _ _).trans rfl
theorem mi_58_170 : ms_G 58 170 [l0, l1, l2, .int x, l4, l5, l6, l7, l8, l9] S σ = ms_G 58 171 [l0, l1, l2, .int x, l4, l5, l6, l7, l8, l9] (.int x :: S) σ := (ms_G_at rfl _ _ _).trans rfl
theorem mi_58_171 : ms_G 58 171 [l0, l1, l2, l3, l4, l5, l6, l7, .int x, l9] S σ = ms_G 58 173 [l0, l1, l2, l3, l4, l5, l6, l7, .int x, l9] (.int x :: S) σ := (ms_G_at rfl _ _ _).trans rfl
theorem mi_58_173 : ms_G 58 173 L (.int y :: .int x :: S) σ = ms_G 58 174 L (.int (x - y) :: S) σ := (ms_G_at rfl _ _ _).trans rfl
theorem mi_58_174 : ms_G 58 174 L (.int x :: S) σ = ms_G 58 175 L (.long x.toInt64 :: S) σ := (ms_G_at rfl _ _ _).trans rfl
theorem mi_58_175 : ms_G 58 175 L (.long Y :: .long X :: S) σ = ms_G 58 176 L (.long (X - Y) :: S) σ := (ms_G_at rfl _ _ _).trans rfl
theorem mi_58_176 : ms_G 58 176 L [.long X1, .long X0] (ms_Z q w I J) = mo_cl 58 176 179 (ms_G 21 0 [.long X0, .null, .long X1, .null, .null, .null, .null] [] (ms_Z q false I J)) w L [] := (mz_call rfl rfl (mz_can0 rfl rfl rfl rfl rfl)).trans rfl
theorem mi_58_179 : ms_G 58 179 [l0, l1, l2, l3, l4, .null, l6, l7, l8, l9] (.long X :: S) σ = ms_G 58 181 [l0, l1, l2, l3, l4, .null, .long X, .null, l8, l9] S σ := (ms_G_at rfl _ _ _).trans rfl
theorem mi_58_181 : ms_G 58 181 [l0, l1, l2, l3, l4, l5, l6, .null, .int x, l9] S σ = ms_G 58 184 [l0, l1, l2, l3, l4, l5, l6, .null, .int (x + nI 1), l9] S σ := (ms_G_at rfl _ _ _).trans rfl
theorem mi_58_184 : ms_G 58 184 L S σ = ms_G 58 112 L S σ := (ms_G_at rfl _ _ _).trans rfl
theorem mi_58_187 : ms_G 58 187 [l0, l1, l2, l3, .long X, l5, l6, l7, l8, l9] S σ = ms_G 58 189 [l0, l1, l2, l3, .long X, l5, l6, l7, l8, l9] (.long X :: S) σ := (ms_G_at rfl _ _ _).trans rfl
theorem mi_58_189 : ms_G 58 189 [l0, l1, l2, l3, l4, l5, .long X, l7, l8, l9] S σ = ms_G 58 191 [l0, l1, l2, l3, l4, l5, .long X, l7, l8, l9] (.long X :: S) σ := (ms_G_at rfl _ _ _).trans rfl
theorem mi_58_191 : ms_G 58 191 L S σ = ms_G 58 194 L (.long (lN 2305843009213693949) :: S) σ := (ms_G_at rfl _ _ _).trans rfl
theorem mi_58_194 : ms_G 58 194 L (.long X1 :: .long X0 :: [.long f0]) (ms_Z q w I J) = mo_cl 58 194 197 (ms_G 22 0 [.long X0, .null, .long X1, .null, .null, .null, .null] [] (ms_Z q false I J)) w L [.long f0] := (mz_call rfl rfl (mz_can0 rfl rfl rfl rfl rfl)).trans rfl
theorem mi_58_197 : ms_G 58 197 L [.long X1, .long X0] (ms_Z q w I J) = mo_cl 58 197 200 (ms_G 21 0 [.long X0, .null, .long X1, .null, .null, .null, .null] [] (ms_Z q false I J)) w L [] := (mz_call rfl rfl (mz_can0 rfl rfl rfl rfl rfl)).trans rfl
theorem mi_58_200 : ms_G 58 200 [l0, l1, l2, l3, l4, l5, l6, .null, l8, l9] (.long X :: S) σ = ms_G 58 202 [l0, l1, l2, l3, l4, l5, l6, .null, .long X, .null] S σ := (ms_G_at rfl _ _ _).trans rfl
theorem mi_58_202 : ms_G 58 202 [.ref a, l1, l2, l3, l4, l5, l6, l7, l8, l9] S σ = ms_G 58 203 [.ref a, l1, l2, l3, l4, l5, l6, l7, l8, l9] (.ref a :: S) σ := (ms_G_at rfl _ _ _).trans rfl
theorem mi_58_203 : ms_G 58 203 [.ref a, l1, l2, l3, l4, l5, l6, l7, l8, l9] S σ = ms_G 58 204 [.ref a, l1, l2, l3, l4, l5, l6, l7, l8, l9] (.ref a :: S) σ := (ms_G_at rfl _ _ _).trans rfl
theorem mi_58_204 : ms_G 58 204 L (.ref (ms_ad 40 0) :: S) (ms_Z q w I J) = ms_G 58 207 L (.long (J 40 0 32) :: S) (ms_Z q w I J) := mz_getf (c := (1, 32)) rfl (by decide) rfl (by decide) rfl
theorem mi_58_207 : ms_G 58 207 [l0, l1, l2, l3, l4, l5, l6, l7, .long X, l9] S σ = ms_G 58 209 [l0, l1, l2, l3, l4, l5, l6, l7, .long X, l9] (.long X :: S) σ := (ms_G_at rfl _ _ _).trans rfl
theorem mi_58_209 : ms_G 58 209 [.ref a, l1, l2, l3, l4, l5, l6, l7, l8, l9] S σ = ms_G 58 210 [.ref a, l1, l2, l3, l4, l5, l6, l7, l8, l9] (.ref a :: S) σ := (ms_G_at rfl _ _ _).trans rfl
theorem mi_58_210 : ms_G 58 210 L (.ref (ms_ad 40 0) :: S) (ms_Z q w I J) = ms_G 58 213 L (.ref (ms_ad 55 0) :: S) (ms_Z q w I J) := mz_getf (c := (2, 55)) rfl (by decide) rfl (by decide) rfl
theorem mi_58_213 : ms_G 58 213 L S σ = ms_G 58 215 L (.int (nI 17) :: S) σ := (ms_G_at rfl _ _ _).trans rfl
theorem mi_58_215 : ms_G 58 215 [l0, l1, l2, .int x, l4, l5, l6, l7, l8, l9] S σ = ms_G 58 216 [l0, l1, l2, .int x, l4, l5, l6, l7, l8, l9] (.int x :: S) σ := (ms_G_at rfl _ _ _).trans rfl
theorem mi_58_216 : ms_G 58 216 L (.int y :: .int x :: S) σ = ms_G 58 217 L (.int (x * y) :: S) σ := (ms_G_at rfl _ _ _).trans rfl
theorem mi_58_217 : ms_G 58 217 L S σ = ms_G 58 218 L (.int (nI 1) :: S) σ := (ms_G_at rfl _ _ _).trans rfl
theorem mi_58_218 : ms_G 58 218 L (.int y :: .int x :: S) σ = ms_G 58 219 L (.int (x + y) :: S) σ := (ms_G_at rfl _ _ _).trans rfl
theorem mi_58_219 : ms_G 58 219 L S σ = ms_G 58 220 L (.int (nI 2) :: S) σ := (ms_G_at rfl _ _ _).trans rfl
theorem mi_58_220 : ms_G 58 220 [l0, .int x, l2, l3, l4, l5, l6, l7, l8, l9] S σ = ms_G 58 221 [l0, .int x, l2, l3, l4, l5, l6, l7, l8, l9] (.int x :: S) σ := (ms_G_at rfl _ _ _).trans rfl
theorem mi_58_221 : ms_G 58 221 L (.int y :: .int x :: S) σ = ms_G 58 222 L (.int (x * y) :: S) σ := (ms_G_at rfl _ _ _).trans rfl
theorem mi_58_222 : ms_G 58 222 L (.int y :: .int x :: S) σ = ms_G 58 223 L (.int (x + y) :: S) σ := (ms_G_at rfl _ _ _).trans rfl
theorem mi_58_223 : ms_G 58 223 L (.int (nI i) :: .ref (ms_ad r u) :: S) (ms_Z q w I J) = cond (mo_0 q.1 r u i) (ms_G 58 224 L (.int (I r u i) :: S) (ms_Z q w I J)) (ms_raw 58 223 L (.int (nI i) :: .ref (ms_ad r u) :: S) (ms_Z q w I J)) := mz_iald rfl
theorem mi_58_224 : ms_G 58 224 [.ref a, l1, l2, l3, l4, l5, l6, l7, l8, l9] S σ = ms_G 58 225 [.ref a, l1, l2, l3, l4, l5, l6, l7, l8, l9] (.ref a :: S) σ := (ms_G_at rfl _ _ _).trans rfl
theorem mi_58_225 : ms_G 58 225 L (.ref (ms_ad 40 0) :: S) (ms_Z q w I J) = ms_G 58 228 L (.ref (ms_ad 55 0) :: S) (ms_Z q w I J) := mz_getf (c := (2, 55)) rfl (by decide) rfl (by decide) rfl
theorem mi_58_228 : ms_G 58 228 L S σ = ms_G 58 230 L (.int (nI 17) :: S) σ := (ms_G_at rfl _ _ _).trans rfl
theorem mi_58_230 : ms_G 58 230 [l0, l1, l2, .int x, l4, l5, l6, l7, l8, l9] S σ = ms_G 58 231 [l0, l1, l2, .int x, l4, l5, l6, l7, l8, l9] (.int x :: S) σ := (ms_G_at rfl _ _ _).trans rfl
theorem mi_58_231 : ms_G 58 231 L (.int y :: .int x :: S) σ = ms_G 58 232 L (.int (x * y) :: S) σ := (ms_G_at rfl _ _ _).trans rfl
theorem mi_58_232 : ms_G 58 232 L S σ = ms_G 58 233 L (.int (nI 2) :: S) σ := (ms_G_at rfl _ _ _).trans rfl
theorem mi_58_233 : ms_G 58 233 L (.int y :: .int x :: S) σ = ms_G 58 234 L (.int (x + y) :: S) σ := (ms_G_at rfl _ _ _).trans rfl
theorem mi_58_234 : ms_G 58 234 L S σ = ms_G 58 235 L (.int (nI 2) :: S) σ := (ms_G_at rfl _ _ _).trans rfl
theorem mi_58_235 : ms_G 58 235 [l0, .int x, l2, l3, l4, l5, l6, l7, l8, l9] S σ = ms_G 58 236 [l0, .int x, l2, l3, l4, l5, l6, l7, l8, l9] (.int x :: S) σ := (ms_G_at rfl _ _ _).trans rfl
theorem mi_58_236 : ms_G 58 236 L (.int y :: .int x :: S) σ = ms_G 58 237 L (.int (x * y) :: S) σ := (ms_G_at rfl _ _ _).trans rfl
theorem mi_58_237 : ms_G 58 237 L (.int y :: .int x :: S) σ = ms_G 58 238 L (.int (x + y) :: S) σ := (ms_G_at rfl _ _ _).trans rfl
theorem mi_58_238 : ms_G 58 238 L (.int (nI i) :: .ref (ms_ad r u) :: S) (ms_Z q w I J) = cond (mo_0 q.1 r u i) (ms_G 58 239 L (.int (I r u i) :: S) (ms_Z q w I J)) (ms_raw 58 238 L (.int (nI i) :: .ref (ms_ad r u) :: S) (ms_Z q w I J)) := mz_iald rfl
theorem mi_58_239 : ms_G 58 239 L (.int x1 :: .int x0 :: [.long f0, .long f1, .ref g2]) (ms_Z q w I J) = mo_cl 58 239 242 (ms_G 23 0 [.int x0, .int x1, .null, .null] [] (ms_Z q false I J)) w L [.long f0, .long f1, .ref g2] := (mz_call rfl rfl (mz_can0 rfl rfl rfl rfl rfl)).trans rfl
theorem mi_58_242 : ms_G 58 242 L (.long X1 :: .long X0 :: [.long f0, .ref g1]) (ms_Z q w I J) = mo_cl 58 242 245 (ms_G 21 0 [.long X0, .null, .long X1, .null, .null, .null, .null] [] (ms_Z q false I J)) w L [.long f0, .ref g1] := (mz_call rfl rfl (mz_can0 rfl rfl rfl rfl rfl)).trans rfl
theorem mi_58_245 : ms_G 58 245 L (.long X1 :: .long X0 :: [.ref g0]) (ms_Z q w I J) = mo_cl 58 245 248 (ms_G 20 0 [.long X0, .null, .long X1, .null, .null, .null] [] (ms_Z q false I J)) w L [.ref g0] := (mz_call rfl rfl (mz_can0 rfl rfl rfl rfl rfl)).trans rfl
theorem mi_58_248 : ms_G 58 248 L (.long X :: .ref (ms_ad 40 0) :: S) (ms_Z q w I J) = ms_G 58 251 L S (ms_Z q true I (ms_u J 40 0 (vp_updL (J 40 0) 32 X))) := mz_putl rfl (by decide) rfl (by decide) rfl rfl
theorem mi_58_251 : ms_G 58 251 [l0, l1, .int y, .int x, l4, l5, l6, l7, l8, l9] S σ = ms_G 58 254 [l0, l1, .int y, .int (x + nI 1), l4, l5, l6, l7, l8, l9] S σ := (ms_G_at rfl _ _ _).trans rfl
theorem mi_58_254 : ms_G 58 254 L S σ = ms_G 58 84 L S σ := (ms_G_at rfl _ _ _).trans rfl
theorem mi_58_257 : ms_G 58 257 L S σ = ms_G 58 258 L (.int (nI 1) :: S) σ := (ms_G_at rfl _ _ _).trans rfl
theorem mi_58_258 : ms_G 58 258 L [.int (nI 0)] σ = some (.inl (some (.int (nI 0))), σ) := (ms_G_at rfl _ _ _).trans rfl
theorem mi_58_258_1 : ms_G 58 258 L [.int (nI 1)] σ = some (.inl (some (.int (nI 1))), σ) := (ms_G_at rfl _ _ _).trans rfl
theorem mi_58_258_b (B : Bool) : ms_G 58 258 L [.int (ms_b B)] σ = some (.inl (some (.int (ms_b B))), σ) := by cases B <;> exact (ms_G_at rfl _ _ _).trans rfl
-- MaskedSumModel.reckon()Z
theorem mi_59_0 : ms_G 59 0 L S σ = ms_G 59 1 L (.int (nI 0) :: S) σ := (ms_G_at rfl _ _ _).trans rfl
theorem mi_59_1 : ms_G 59 1 [.ref b, l1, l2, l3, l4, l5, l6, l7] (.int x :: S) σ = ms_G 59 2 [.ref b, .int x, l2, l3, l4, l5, l6, l7] S σ := (ms_G_at rfl _ _ _).trans rfl
theorem mi_59_2 : ms_G 59 2 [l0, .int x, l2, l3, l4, l5, l6, l7] S σ = ms_G 59 3 [l0, .int x, l2, l3, l4, l5, l6, l7] (.int x :: S) σ := (ms_G_at rfl _ _ _).trans rfl
theorem mi_59_3 : ms_G 59 3 L S σ = ms_G 59 4 L (.int (nI 4) :: S) σ := (ms_G_at rfl _ _ _).trans rfl
theorem mi_59_4 : ms_G 59 4 L (.int y :: .int x :: S) σ = if y ≤ x then ms_G 59 20 L S σ else ms_G 59 7 L S σ := mz_bra rfl rfl rfl
theorem mi_59_7 : ms_G 59 7 [.ref a, l1, l2, l3, l4, l5, l6, l7] S σ = ms_G 59 8 [.ref a, l1, l2, l3, l4, l5, l6, l7] (.ref a :: S) σ := (ms_G_at rfl _ _ _).trans rfl
theorem mi_59_8 : ms_G 59 8 L (.ref (ms_ad 40 0) :: S) (ms_Z q w I J) = ms_G 59 11 L (.ref (ms_ad 57 0) :: S) (ms_Z q w I J) := mz_getf (c := (2, 57)) rfl (by decide) rfl (by decide) rfl
theorem mi_59_11 : ms_G 59 11 [l0, .int x, l2, l3, l4, l5, l6, l7] S σ = ms_G 59 12 [l0, .int x, l2, l3, l4, l5, l6, l7] (.int x :: S) σ := (ms_G_at rfl _ _ _).trans rfl
theorem mi_59_12 : ms_G 59 12 L S σ = ms_G 59 13 L (.int (nI 0) :: S) σ := (ms_G_at rfl _ _ _).trans rfl
theorem mi_59_13 : ms_G 59 13 L (.int x :: .int (nI i) :: .ref (ms_ad r u) :: S) (ms_Z q w I J) = cond (mo_0 q.1 r u i) (ms_G 59 14 L S (ms_Z q true (ms_u I r u (upd (I r u) i x)) J)) (ms_raw 59 13 L (.int x :: .int (nI i) :: .ref (ms_ad r u) :: S) (ms_Z q w I J)) := mz_iast rfl x
theorem mi_59_14 : ms_G 59 14 [.ref b, .int x, l2, l3, l4, l5, l6, l7] S σ = ms_G 59 17 [.ref b, .int (x + nI 1), l2, l3, l4, l5, l6, l7] S σ := (ms_G_at rfl _ _ _).trans rfl
theorem mi_59_17 : ms_G 59 17 L S σ = ms_G 59 2 L S σ := (ms_G_at rfl _ _ _).trans rfl
theorem mi_59_20 : ms_G 59 20 L S σ = ms_G 59 21 L (.int (nI 0) :: S) σ := (ms_G_at rfl _ _ _).trans rfl
theorem mi_59_21 : ms_G 59 21 [.ref b, l1, l2, l3, l4, l5, l6, l7] (.int x :: S) σ = ms_G 59 22 [.ref b, .int x, l2, l3, l4, l5, l6, l7] S σ := (ms_G_at rfl _ _ _).trans rfl
theorem mi_59_22 : ms_G 59 22 [l0, .int x, l2, l3, l4, l5, l6, l7] S σ = ms_G 59 23 [l0, .int x, l2, l3, l4, l5, l6, l7] (.int x :: S) σ := (ms_G_at rfl _ _ _).trans rfl
theorem mi_59_23 : ms_G 59 23 [.ref a, l1, l2, l3, l4, l5, l6, l7] S σ = ms_G 59 24 [.ref a, l1, l2, l3, l4, l5, l6, l7] (.ref a :: S) σ := (ms_G_at rfl _ _ _).trans rfl
theorem mi_59_24 : ms_G 59 24 L (.ref (ms_ad 40 0) :: S) (ms_Z q w I J) = ms_G 59 27 L (.int (I 40 0 1) :: S) (ms_Z q w I J) := mz_getf (c := (0, 1)) rfl (by decide) rfl (by decide) rfl
theorem mi_59_27 : ms_G 59 27 L (.int y :: .int x :: S) σ = if y ≤ x then ms_G 59 235 L S σ else ms_G 59 30 L S σ := mz_bra rfl rfl rfl
theorem mi_59_30 : ms_G 59 30 [.ref a, l1, l2, l3, l4, l5, l6, l7] S σ = ms_G 59 31 [.ref a, l1, l2, l3, l4, l5, l6, l7] (.ref a :: S) σ := (ms_G_at rfl _ _ _).trans rfl
theorem mi_59_31 : ms_G 59 31 L (.ref (ms_ad 40 0) :: S) (ms_Z q w I J) = ms_G 59 34 L (.ref (ms_ad 50 0) :: S) (ms_Z q w I J) := mz_getf (c := (2, 50)) rfl (by decide) rfl (by decide) rfl
theorem mi_59_34 : ms_G 59 34 L S σ = ms_G 59 35 L (.int (nI 1) :: S) σ := (ms_G_at rfl _ _ _).trans rfl
theorem mi_59_35 : ms_G 59 35 L (.int (nI i) :: .ref (ms_ad r u) :: S) (ms_Z q w I J) = cond (mo_0 q.1 r u i) (ms_G 59 36 L (.int (I r u i) :: S) (ms_Z q w I J)) (ms_raw 59 35 L (.int (nI i) :: .ref (ms_ad r u) :: S) (ms_Z q w I J)) := mz_iald rfl
theorem mi_59_36 : ms_G 59 36 [l0, .int x, l2, l3, l4, l5, l6, l7] S σ = ms_G 59 37 [l0, .int x, l2, l3, l4, l5, l6, l7] (.int x :: S) σ := (ms_G_at rfl _ _ _).trans rfl
theorem mi_59_37 : ms_G 59 37 L [.int x1, .int x0] (ms_Z q w I J) = mo_cl 59 37 40 (ms_G 42 0 [.int x0, .int x1] [] (ms_Z q false I J)) w L [] := (mz_call rfl rfl (mz_can0 rfl rfl rfl rfl rfl)).trans rfl
theorem mi_59_40 : ms_G 59 40 L (.int x :: S) σ = if x = nI 0 then ms_G 59 43 L S σ else ms_G 59 46 L S σ := mz_bra rfl rfl rfl
theorem mi_59_43 : ms_G 59 43 L S σ = ms_G 59 229 L S σ := (ms_G_at rfl _ _ _).trans rfl
theorem mi_59_46 : ms_G 59 46 [.ref a, l1, l2, l3, l4, l5, l6, l7] S σ = ms_G 59 47 [.ref a, l1, l2, l3, l4, l5, l6, l7] (.ref a :: S) σ := (ms_G_at rfl _ _ _).trans rfl
theorem mi_59_47 : ms_G 59 47 [l0, .int x, l2, l3, l4, l5, l6, l7] S σ = ms_G 59 48 [l0, .int x, l2, l3, l4, l5, l6, l7] (.int x :: S) σ := (ms_G_at rfl _ _ _).trans rfl
theorem mi_59_48 : ms_G 59 48 L [.int x0, .ref (ms_ad 40 0)] (ms_Z q w I J) = mo_cl 59 48 51 (ms_G 58 0 [.ref (ms_ad 40 0), .int x0, .null, .null, .null, .null, .null, .null, .null, .null] [] (ms_Z q false I J)) w L [] := (mz_call rfl rfl (mz_can1 rfl rfl rfl rfl rfl (by decide) rfl (by decide))).trans rfl
theorem mi_59_51 : ms_G 59 51 L (.int x :: S) σ = if x = nI 0 then ms_G 59 54 L S σ else ms_G 59 56 L S σ := mz_bra rfl rfl rfl
theorem mi_59_54 : ms_G 59 54 L S σ = ms_G 59 55 L (.int (nI 0) :: S) σ := (ms_G_at rfl _ _ _).trans rfl
theorem mi_59_55 : ms_G 59 55 L [.int (nI 0)] σ = some (.inl (some (.int (nI 0))), σ) := (ms_G_at rfl _ _ _).trans rfl
theorem mi_59_55_1 : ms_G 59 55 L [.int (nI 1)] σ = some (.inl (some (.int (nI 1))), σ) := (ms_G_at rfl _ _ _).trans rfl
theorem mi_59_55_b (B : Bool) : ms_G 59 55 L [.int (ms_b B)] σ = some (.inl (some (.int (ms_b B))), σ) := by cases B <;> exact (ms_G_at rfl _ _ _).trans rfl
theorem mi_59_56 : ms_G 59 56 [.ref a, l1, l2, l3, l4, l5, l6, l7] S σ = ms_G 59 57 [.ref a, l1, l2, l3, l4, l5, l6, l7] (.ref a :: S) σ := (ms_G_at rfl _ _ _).trans rfl
theorem mi_59_57 : ms_G 59 57 L (.ref (ms_ad 40 0) :: S) (ms_Z q w I J) = ms_G 59 60 L (.ref (ms_ad 50 0) :: S) (ms_Z q w I J) := mz_getf (c := (2, 50)) rfl (by decide) rfl (by decide) rfl
theorem mi_59_60 : ms_G 59 60 L S σ = ms_G 59 61 L (.int (nI 2) :: S) σ := (ms_G_at rfl _ _ _).trans rfl
theorem mi_59_61 : ms_G 59 61 L (.int (nI i) :: .ref (ms_ad r u) :: S) (ms_Z q w I J) = cond (mo_0 q.1 r u i) (ms_G 59 62 L (.int (I r u i) :: S) (ms_Z q w I J)) (ms_raw 59 61 L (.int (nI i) :: .ref (ms_ad r u) :: S) (ms_Z q w I J)) := mz_iald rfl
theorem mi_59_62 : ms_G 59 62 [l0, .int x, l2, l3, l4, l5, l6, l7] S σ = ms_G 59 63 [l0, .int x, l2, l3, l4, l5, l6, l7] (.int x :: S) σ := (ms_G_at rfl _ _ _).trans rfl
theorem mi_59_63 : ms_G 59 63 L [.int x1, .int x0] (ms_Z q w I J) = mo_cl 59 63 66 (ms_G 42 0 [.int x0, .int x1] [] (ms_Z q false I J)) w L [] := (mz_call rfl rfl (mz_can0 rfl rfl rfl rfl rfl)).trans rfl
theorem mi_59_66 : ms_G 59 66 [l0, .int y, l2, l3, l4, l5, l6, l7] (.int x :: S) σ = ms_G 59 67 [l0, .int y, .int x, l3, l4, l5, l6, l7] S σ := (ms_G_at rfl _ _ _).trans rfl
theorem mi_59_67 : ms_G 59 67 L S σ = ms_G 59 68 L (.int (nI 0) :: S) σ := (ms_G_at rfl _ _ _).trans rfl
theorem mi_59_68 : ms_G 59 68 [l0, l1, .int y, l3, l4, l5, l6, l7] (.int x :: S) σ = ms_G 59 69 [l0, l1, .int y, .int x, l4, l5, l6, l7] S σ := (ms_G_at rfl _ _ _).trans rfl
theorem mi_59_69 : ms_G 59 69 [l0, l1, l2, .int x, l4, l5, l6, l7] S σ = ms_G 59 70 [l0, l1, l2, .int x, l4, l5, l6, l7] (.int x :: S) σ := (ms_G_at rfl _ _ _).trans rfl
theorem mi_59_70 : ms_G 59 70 L S σ = ms_G 59 71 L (.int (nI 4) :: S) σ := (ms_G_at rfl _ _ _).trans rfl
theorem mi_59_71 : ms_G 59 71 L (.int y :: .int x :: S) σ = if y ≤ x then ms_G 59 115 L S σ else ms_G 59 74 L S σ := mz_bra rfl rfl rfl
theorem mi_59_74 : ms_G 59 74 [l0, l1, .int x, l3, l4, l5, l6, l7] S σ = ms_G 59 75 [l0, l1, .int x, l3, l4, l5, l6, l7] (.int x :: S) σ := (ms_G_at rfl _ _ _).trans rfl
theorem mi_59_75 : ms_G 59 75 L (.int x :: S) σ = if x = nI 0 then ms_G 59 115 L S σ else ms_G 59 78 L S σ := mz_bra rfl rfl rfl
theorem mi_59_78 : ms_G 59 78 [.ref a, l1, l2, l3, l4, l5, l6, l7] S σ = ms_G 59 79 [.ref a, l1, l2, l3, l4, l5, l6, l7] (.ref a :: S) σ := (ms_G_at rfl _ _ _).trans rfl
theorem mi_59_79 : ms_G 59 79 L (.ref (ms_ad 40 0) :: S) (ms_Z q w I J) = ms_G 59 82 L (.ref (ms_ad 57 0) :: S) (ms_Z q w I J) := mz_getf (c := (2, 57)) rfl (by decide) rfl (by decide) rfl
theorem mi_59_82 : ms_G 59 82 [l0, l1, l2, .int x, l4, l5, l6, l7] S σ = ms_G 59 83 [l0, l1, l2, .int x, l4, l5, l6, l7] (.int x :: S) σ := (ms_G_at rfl _ _ _).trans rfl
theorem mi_59_83 : ms_G 59 83 L (.int x :: .ref b :: S) σ = ms_G 59 84 L (.int x :: .ref b :: .int x :: .ref b :: S) σ := (ms_G_at rfl _ _ _).trans rfl
theorem mi_59_84 : ms_G 59 84 L (.int (nI i) :: .ref (ms_ad r u) :: S) (ms_Z q w I J) = cond (mo_0 q.1 r u i) (ms_G 59 85 L (.int (I r u i) :: S) (ms_Z q w I J)) (ms_raw 59 84 L (.int (nI i) :: .ref (ms_ad r u) :: S) (ms_Z q w I J)) := mz_iald rfl
theorem mi_59_85 : ms_G 59 85 [.ref a, l1, l2, l3, l4, l5, l6, l7] S σ = ms_G 59 86 [.ref a, l1, l2, l3, l4, l5, l6, l7] (.ref a :: S) σ := (ms_G_at rfl _ _ _).trans rfl
theorem mi_59_86 : ms_G 59 86 L (.ref (ms_ad 40 0) :: S) (ms_Z q w I J) = ms_G 59 89 L (.ref (ms_ad 54 0) :: S) (ms_Z q w I J) := mz_getf (c := (2, 54)) rfl (by decide) rfl (by decide) rfl
theorem mi_59_89 : ms_G 59 89 L S σ = ms_G 59 90 L (.int (nI 4) :: S) σ := (ms_G_at rfl _ _ _).trans rfl
theorem mi_59_90 : ms_G 59 90 [l0, .int x, l2, l3, l4, l5, l6, l7] S σ = ms_G 59 91 [l0, .int x, l2, l3, l4, l5, l6, l7] (.int x :: S) σ := (ms_G_at rfl _ _ _).trans rfl
theorem mi_59_91 : ms_G 59 91 L (.int y :: .int x :: S) σ = ms_G 59 92 L (.int (x * y) :: S) σ := (ms_G_at rfl _ _ _).trans rfl
theorem mi_59_92 : ms_G 59 92 [l0, l1, l2, .int x, l4, l5, l6, l7] S σ = ms_G 59 93 [l0, l1, l2, .int x, l4, l5, l6, l7] (.int x :: S) σ := (ms_G_at rfl _ _ _).trans rfl
theorem mi_59_93 : ms_G 59 93 L (.int y :: .int x :: S) σ = ms_G 59 94 L (.int (x + y) :: S) σ := (ms_G_at rfl _ _ _).trans rfl
theorem mi_59_94 : ms_G 59 94 L (.int (nI i) :: .ref (ms_ad r u) :: S) (ms_Z q w I J) = cond (mo_0 q.1 r u i) (ms_G 59 95 L (.int (I r u i) :: S) (ms_Z q w I J)) (ms_raw 59 94 L (.int (nI i) :: .ref (ms_ad r u) :: S) (ms_Z q w I J)) := mz_iald rfl
theorem mi_59_95 : ms_G 59 95 [.ref a, l1, l2, l3, l4, l5, l6, l7] S σ = ms_G 59 96 [.ref a, l1, l2, l3, l4, l5, l6, l7] (.ref a :: S) σ := (ms_G_at rfl _ _ _).trans rfl
theorem mi_59_96 : ms_G 59 96 [.ref a, l1, l2, l3, l4, l5, l6, l7] S σ = ms_G 59 97 [.ref a, l1, l2, l3, l4, l5, l6, l7] (.ref a :: S) σ := (ms_G_at rfl _ _ _).trans rfl
theorem mi_59_97 : ms_G 59 97 L (.ref (ms_ad 40 0) :: S) (ms_Z q w I J) = ms_G 59 100 L (.long (J 40 0 32) :: S) (ms_Z q w I J) := mz_getf (c := (1, 32)) rfl (by decide) rfl (by decide) rfl
theorem mi_59_100 : ms_G 59 100 L S σ = ms_G 59 101 L (.int (nI 0) :: S) σ := (ms_G_at rfl _ _ _).trans rfl
theorem mi_59_101 : ms_G 59 101 [l0, .int x, l2, l3, l4, l5, l6, l7] S σ = ms_G 59 102 [l0, .int x, l2, l3, l4, l5, l6, l7] (.int x :: S) σ := (ms_G_at rfl _ _ _).trans rfl
theorem mi_59_102 : ms_G 59 102 [l0, l1, l2, .int x, l4, l5, l6, l7] S σ = ms_G 59 103 [l0, l1, l2, .int x, l4, l5, l6, l7] (.int x :: S) σ := (ms_G_at rfl _ _ _).trans rfl
theorem mi_59_103 : ms_G 59 103 L (.int x3 :: .int x2 :: .int x1 :: .long X0 :: .ref (ms_ad 40 0) :: [.int e0, .int e1, .int e2, .ref g3]) (ms_Z q w I J) = mo_cl 59 103 106 (ms_G 27 0 [.ref (ms_ad 40 0), .long X0, .null, .int x1, .int x2, .int x3] [] (ms_Z q false I J)) w L [.int e0, .int e1, .int e2, .ref g3] := (mz_call rfl rfl (mz_can1 rfl rfl rfl rfl rfl (by decide) rfl (by decide))).trans rfl
theorem mi_59_106 : ms_G 59 106 L (.int y :: .int x :: S) σ = ms_G 59 107 L (.int (x - y) :: S) σ := (ms_G_at rfl _ _ _).trans rfl
theorem mi_59_107 : ms_G 59 107 L (.int y :: .int x :: S) σ = ms_G 59 108 L (.int (x + y) :: S) σ := (ms_G_at rfl _ _ _).trans rfl
theorem mi_59_108 : ms_G 59 108 L (.int x :: .int (nI i) :: .ref (ms_ad r u) :: S) (ms_Z q w I J) = cond (mo_0 q.1 r u i) (ms_G 59 109 L S (ms_Z q true (ms_u I r u (upd (I r u) i x)) J)) (ms_raw 59 108 L (.int x :: .int (nI i) :: .ref (ms_ad r u) :: S) (ms_Z q w I J)) := mz_iast rfl x
theorem mi_59_109 : ms_G 59 109 [l0, l1, .int y, .int x, l4, l5, l6, l7] S σ = ms_G 59 112 [l0, l1, .int y, .int (x + nI 1), l4, l5, l6, l7] S σ := (ms_G_at rfl _ _ _).trans rfl
theorem mi_59_112 : ms_G 59 112 L S σ = ms_G 59 69 L S σ := (ms_G_at rfl _ _ _).trans rfl
theorem mi_59_115 : ms_G 59 115 L S σ = ms_G 59 116 L (.int (nI 0) :: S) σ := (ms_G_at rfl _ _ _).trans rfl
theorem mi_59_116 : ms_G 59 116 [l0, l1, .int y, l3, l4, l5, l6, l7] (.int x :: S) σ = ms_G 59 117 [l0, l1, .int y, .int x, l4, l5, l6, l7] S σ := (ms_G_at rfl _ _ _).trans rfl
theorem mi_59_117 : ms_G 59 117 [l0, l1, l2, .int x, l4, l5, l6, l7] S σ = ms_G 59 118 [l0, l1, l2, .int x, l4, l5, l6, l7] (.int x :: S) σ := (ms_G_at rfl _ _ _).trans rfl
theorem mi_59_118 : ms_G 59 118 [.ref a, l1, l2, l3, l4, l5, l6, l7] S σ = ms_G 59 119 [.ref a, l1, l2, l3, l4, l5, l6, l7] (.ref a :: S) σ := (ms_G_at rfl _ _ _).trans rfl
theorem mi_59_119 : ms_G 59 119 L (.ref (ms_ad 40 0) :: S) (ms_Z q w I J) = ms_G 59 122 L (.int (I 40 0 1) :: S) (ms_Z q w I J) := mz_getf (c := (0, 1)) rfl (by decide) rfl (by decide) rfl
theorem mi_59_122 : ms_G 59 122 L (.int y :: .int x :: S) σ = if y ≤ x then ms_G 59 229 L S σ else ms_G 59 125 L S σ := mz_bra rfl rfl rfl
theorem mi_59_125 : ms_G 59 125 [l0, l1, .int x, l3, l4, l5, l6, l7] S σ = ms_G 59 126 [l0, l1, .int x, l3, l4, l5, l6, l7] (.int x :: S) σ := (ms_G_at rfl _ _ _).trans rfl
theorem mi_59_126 : ms_G 59 126 L (.int x :: S) σ = if x = nI 0 then ms_G 59 129 L S σ else ms_G 59 229 L S σ := mz_bra rfl rfl rfl
theorem mi_59_129 : ms_G 59 129 [.ref a, l1, l2, l3, l4, l5, l6, l7] S σ = ms_G 59 130 [.ref a, l1, l2, l3, l4, l5, l6, l7] (.ref a :: S) σ := (ms_G_at rfl _ _ _).trans rfl
theorem mi_59_130 : ms_G 59 130 L (.ref (ms_ad 40 0) :: S) (ms_Z q w I J) = ms_G 59 133 L (.ref (ms_ad 50 0) :: S) (ms_Z q w I J) := mz_getf (c := (2, 50)) rfl (by decide) rfl (by decide) rfl
theorem mi_59_133 : ms_G 59 133 L S σ = ms_G 59 134 L (.int (nI 2) :: S) σ := (ms_G_at rfl _ _ _).trans rfl
theorem mi_59_134 : ms_G 59 134 L (.int (nI i) :: .ref (ms_ad r u) :: S) (ms_Z q w I J) = cond (mo_0 q.1 r u i) (ms_G 59 135 L (.int (I r u i) :: S) (ms_Z q w I J)) (ms_raw 59 134 L (.int (nI i) :: .ref (ms_ad r u) :: S) (ms_Z q w I J)) := mz_iald rfl
theorem mi_59_135 : ms_G 59 135 [l0, l1, l2, .int x, l4, l5, l6, l7] S σ = ms_G 59 136 [l0, l1, l2, .int x, l4, l5, l6, l7] (.int x :: S) σ := (ms_G_at rfl _ _ _).trans rfl
theorem mi_59_136 : ms_G 59 136 L [.int x1, .int x0] (ms_Z q w I J) = mo_cl 59 136 139 (ms_G 42 0 [.int x0, .int x1] [] (ms_Z q false I J)) w L [] := (mz_call rfl rfl (mz_can0 rfl rfl rfl rfl rfl)).trans rfl
theorem mi_59_139 : ms_G 59 139 L (.int x :: S) σ = if x = nI 0 then ms_G 59 142 L S σ else ms_G 59 145 L S σ := mz_bra rfl rfl rfl
theorem mi_59_142 : ms_G 59 142 L S σ = ms_G 59 223 L S σ := (ms_G_at rfl _ _ _).trans rfl
theorem mi_59_145 : ms_G 59 145 [.ref a, l1, l2, l3, l4, l5, l6, l7] S σ = ms_G 59 146 [.ref a, l1, l2, l3, l4, l5, l6, l7] (.ref a :: S) σ := (ms_G_at rfl _ _ _).trans rfl
theorem mi_59_146 : ms_G 59 146 [.ref a, l1, l2, l3, l4, l5, l6, l7] S σ = ms_G 59 147 [.ref a, l1, l2, l3, l4, l5, l6, l7] (.ref a :: S) σ := (ms_G_at rfl _ _ _).trans rfl
theorem mi_59_147 : ms_G 59 147 L (.ref (ms_ad 40 0) :: S) (ms_Z q w I J) = ms_G 59 150 L (.ref (ms_ad 52 0) :: S) (ms_Z q w I J) := mz_getf (c := (2, 52)) rfl (by decide) rfl (by decide) rfl
theorem mi_59_150 : ms_G 59 150 L S σ = ms_G 59 151 L (.int (nI 4) :: S) σ := (ms_G_at rfl _ _ _).trans rfl
theorem mi_59_151 : ms_G 59 151 [l0, l1, l2, .int x, l4, l5, l6, l7] S σ = ms_G 59 152 [l0, l1, l2, .int x, l4, l5, l6, l7] (.int x :: S) σ := (ms_G_at rfl _ _ _).trans rfl
theorem mi_59_152 : ms_G 59 152 L (.int y :: .int x :: S) σ = ms_G 59 153 L (.int (x * y) :: S) σ := (ms_G_at rfl _ _ _).trans rfl
theorem mi_59_153 : ms_G 59 153 L (.int (nI i) :: .ref (ms_ad r u) :: S) (ms_Z q w I J) = cond (mo_0 q.1 r u i) (ms_G 59 154 L (.int (I r u i) :: S) (ms_Z q w I J)) (ms_raw 59 153 L (.int (nI i) :: .ref (ms_ad r u) :: S) (ms_Z q w I J)) := mz_iald rfl
theorem mi_59_154 : ms_G 59 154 [.ref a, l1, l2, l3, l4, l5, l6, l7] S σ = ms_G 59 155 [.ref a, l1, l2, l3, l4, l5, l6, l7] (.ref a :: S) σ := (ms_G_at rfl _ _ _).trans rfl
theorem mi_59_155 : ms_G 59 155 L (.ref (ms_ad 40 0) :: S) (ms_Z q w I J) = ms_G 59 158 L (.ref (ms_ad 52 0) :: S) (ms_Z q w I J) := mz_getf (c := (2, 52)) rfl (by decide) rfl (by decide) rfl
theorem mi_59_158 : ms_G 59 158 L S σ = ms_G 59 159 L (.int (nI 4) :: S) σ := (ms_G_at rfl _ _ _).trans rfl
theorem mi_59_159 : ms_G 59 159 [l0, l1, l2, .int x, l4, l5, l6, l7] S σ = ms_G 59 160 [l0, l1, l2, .int x, l4, l5, l6, l7] (.int x :: S) σ := (ms_G_at rfl _ _ _).trans rfl
theorem mi_59_160 : ms_G 59 160 L (.int y :: .int x :: S) σ = ms_G 59 161 L (.int (x * y) :: S) σ := (ms_G_at rfl _ _ _).trans rfl
theorem mi_59_161 : ms_G 59 161 L S σ = ms_G 59 162 L (.int (nI 1) :: S) σ := (ms_G_at rfl _ _ _).trans rfl
theorem mi_59_162 : ms_G 59 162 L (.int y :: .int x :: S) σ = ms_G 59 163 L (.int (x + y) :: S) σ := (ms_G_at rfl _ _ _).trans rfl
theorem mi_59_163 : ms_G 59 163 L (.int (nI i) :: .ref (ms_ad r u) :: S) (ms_Z q w I J) = cond (mo_0 q.1 r u i) (ms_G 59 164 L (.int (I r u i) :: S) (ms_Z q w I J)) (ms_raw 59 163 L (.int (nI i) :: .ref (ms_ad r u) :: S) (ms_Z q w I J)) := mz_iald rfl
theorem mi_59_164 : ms_G 59 164 [.ref a, l1, l2, l3, l4, l5, l6, l7] S σ = ms_G 59 165 [.ref a, l1, l2, l3, l4, l5, l6, l7] (.ref a :: S) σ := (ms_G_at rfl _ _ _).trans rfl
theorem mi_59_165 : ms_G 59 165 L (.ref (ms_ad 40 0) :: S) (ms_Z q w I J) = ms_G 59 168 L (.long (J 40 0 32) :: S) (ms_Z q w I J) := mz_getf (c := (1, 32)) rfl (by decide) rfl (by decide) rfl
theorem mi_59_168 : ms_G 59 168 L [.long X2, .int x1, .int x0, .ref (ms_ad 40 0)] (ms_Z q w I J) = mo_cl 59 168 171 (ms_G 33 0 [.ref (ms_ad 40 0), .int x0, .int x1, .long X2, .null] [] (ms_Z q false I J)) w L [] := (mz_call rfl rfl (mz_can1 rfl rfl rfl rfl rfl (by decide) rfl (by decide))).trans rfl
theorem mi_59_171 : ms_G 59 171 [l0, l1, l2, .int y, l4, l5, l6, l7] (.long X :: S) σ = ms_G 59 173 [l0, l1, l2, .int y, .long X, .null, l6, l7] S σ := (ms_G_at rfl _ _ _).trans rfl
theorem mi_59_173 : ms_G 59 173 L S σ = ms_G 59 174 L (.int (nI 0) :: S) σ := (ms_G_at rfl _ _ _).trans rfl
theorem mi_59_174 : ms_G 59 174 [l0, l1, l2, l3, l4, .null, l6, l7] (.int x :: S) σ = ms_G 59 176 [l0, l1, l2, l3, l4, .null, .int x, l7] S σ := (ms_G_at rfl _ _ _).trans rfl
theorem mi_59_176 : ms_G 59 176 [l0, l1, l2, l3, l4, l5, .int x, l7] S σ = ms_G 59 178 [l0, l1, l2, l3, l4, l5, .int x, l7] (.int x :: S) σ := (ms_G_at rfl _ _ _).trans rfl
theorem mi_59_178 : ms_G 59 178 L S σ = ms_G 59 179 L (.int (nI 4) :: S) σ := (ms_G_at rfl _ _ _).trans rfl
theorem mi_59_179 : ms_G 59 179 L (.int y :: .int x :: S) σ = if y ≤ x then ms_G 59 223 L S σ else ms_G 59 182 L S σ := mz_bra rfl rfl rfl
theorem mi_59_182 : ms_G 59 182 [.ref a, l1, l2, l3, l4, l5, l6, l7] S σ = ms_G 59 183 [.ref a, l1, l2, l3, l4, l5, l6, l7] (.ref a :: S) σ := (ms_G_at rfl _ _ _).trans rfl
theorem mi_59_183 : ms_G 59 183 [l0, l1, l2, l3, .long X, l5, l6, l7] S σ = ms_G 59 185 [l0, l1, l2, l3, .long X, l5, l6, l7] (.long X :: S) σ := (ms_G_at rfl _ _ _).trans rfl
theorem mi_59_185 : ms_G 59 185 L S σ = ms_G 59 186 L (.int (nI 1) :: S) σ := (ms_G_at rfl _ _ _).trans rfl
theorem mi_59_186 : ms_G 59 186 L S σ = ms_G 59 187 L (.int (nI 0) :: S) σ := (ms_G_at rfl _ _ _).trans rfl
theorem mi_59_187 : ms_G 59 187 [l0, l1, l2, l3, l4, l5, .int x, l7] S σ = ms_G 59 189 [l0, l1, l2, l3, l4, l5, .int x, l7] (.int x :: S) σ := (ms_G_at rfl _ _ _).trans rfl
theorem mi_59_189 : ms_G 59 189 L [.int x3, .int x2, .int x1, .long X0, .ref (ms_ad 40 0)] (ms_Z q w I J) = mo_cl 59 189 192 (ms_G 27 0 [.ref (ms_ad 40 0), .long X0, .null, .int x1, .int x2, .int x3] [] (ms_Z q false I J)) w L [] := (mz_call rfl rfl (mz_can1 rfl rfl rfl rfl rfl (by decide) rfl (by decide))).trans rfl
theorem mi_59_192 : ms_G 59 192 [l0, l1, l2, l3, l4, l5, .int y, l7] (.int x :: S) σ = ms_G 59 194 [l0, l1, l2, l3, l4, l5, .int y, .int x] S σ := (ms_G_at rfl _ _ _).trans rfl
theorem mi_59_194 : ms_G 59 194 [.ref a, l1, l2, l3, l4, l5, l6, l7] S σ = ms_G 59 195 [.ref a, l1, l2, l3, l4, l5, l6, l7] (.ref a :: S) σ := (ms_G_at rfl _ _ _).trans rfl
theorem mi_59_195 : ms_G 59 195 L (.ref (ms_ad 40 0) :: S) (ms_Z q w I J) = ms_G 59 198 L (.ref (ms_ad 57 0) :: S) (ms_Z q w I J) := mz_getf (c := (2, 57)) rfl (by decide) rfl (by decide) rfl
theorem mi_59_198 : ms_G 59 198 [l0, l1, l2, l3, l4, l5, .int x, l7] S σ = ms_G 59 200 [l0, l1, l2, l3, l4, l5, .int x, l7] (.int x :: S) σ := (ms_G_at rfl _ _ _).trans rfl
theorem mi_59_200 : ms_G 59 200 L (.int x :: .ref b :: S) σ = ms_G 59 201 L (.int x :: .ref b :: .int x :: .ref b :: S) σ := (ms_G_at rfl _ _ _).trans rfl
theorem mi_59_201 : ms_G 59 201 L (.int (nI i) :: .ref (ms_ad r u) :: S) (ms_Z q w I J) = cond (mo_0 q.1 r u i) (ms_G 59 202 L (.int (I r u i) :: S) (ms_Z q w I J)) (ms_raw 59 201 L (.int (nI i) :: .ref (ms_ad r u) :: S) (ms_Z q w I J)) := mz_iald rfl
theorem mi_59_202 : ms_G 59 202 [l0, .int x, l2, l3, l4, l5, l6, l7] S σ = ms_G 59 203 [l0, .int x, l2, l3, l4, l5, l6, l7] (.int x :: S) σ := (ms_G_at rfl _ _ _).trans rfl
theorem mi_59_203 : ms_G 59 203 [l0, l1, l2, .int x, l4, l5, l6, l7] S σ = ms_G 59 204 [l0, l1, l2, .int x, l4, l5, l6, l7] (.int x :: S) σ := (ms_G_at rfl _ _ _).trans rfl
theorem mi_59_204 : ms_G 59 204 L (.int y :: .int x :: S) σ = if x ≤ y then ms_G 59 212 L S σ else ms_G 59 207 L S σ := mz_bra rfl rfl rfl
theorem mi_59_207 : ms_G 59 207 [l0, l1, l2, l3, l4, l5, l6, .int x] S σ = ms_G 59 209 [l0, l1, l2, l3, l4, l5, l6, .int x] (.int x :: S) σ := (ms_G_at rfl _ _ _).trans rfl
theorem mi_59_209 : ms_G 59 209 L S σ = ms_G 59 215 L S σ := (ms_G_at rfl _ _ _).trans rfl
theorem mi_59_212 : ms_G 59 212 [l0, l1, l2, l3, l4, l5, l6, .int x] S σ = ms_G 59 214 [l0, l1, l2, l3, l4, l5, l6, .int x] (.int x :: S) σ := (ms_G_at rfl _ _ _).trans rfl
theorem mi_59_214 : ms_G 59 214 L (.int x :: S) σ = ms_G 59 215 L (.int (-x) :: S) σ := (ms_G_at rfl _ _ _).trans rfl
theorem mi_59_215 : ms_G 59 215 L (.int y :: .int x :: S) σ = ms_G 59 216 L (.int (x - y) :: S) σ := (ms_G_at rfl _ _ _).trans rfl
theorem mi_59_216 : ms_G 59 216 L (.int x :: .int (nI i) :: .ref (ms_ad r u) :: S) (ms_Z q w I J) = cond (mo_0 q.1 r u i) (ms_G 59 217 L S (ms_Z q true (ms_u I r u (upd (I r u) i x)) J)) (ms_raw 59 216 L (.int x :: .int (nI i) :: .ref (ms_ad r u) :: S) (ms_Z q w I J)) := mz_iast rfl x
theorem mi_59_217 : ms_G 59 217 [l0, l1, l2, l3, l4, .null, .int x, l7] S σ = ms_G 59 220 [l0, l1, l2, l3, l4, .null, .int (x + nI 1), l7] S σ := (ms_G_at rfl _ _ _).trans rfl
theorem mi_59_220 : ms_G 59 220 L S σ = ms_G 59 176 L S σ := (ms_G_at rfl _ _ _).trans rfl
theorem mi_59_223 : ms_G 59 223 [l0, l1, .int y, .int x, l4, l5, l6, l7] S σ = ms_G 59 226 [l0, l1, .int y, .int (x + nI 1), l4, l5, l6, l7] S σ := (ms_G_at rfl _ _ _).trans rfl
theorem mi_59_226 : ms_G 59 226 L S σ = ms_G 59 117 L S σ := (ms_G_at rfl _ _ _).trans rfl
theorem mi_59_229 : ms_G 59 229 [.ref b, .int x, l2, l3, l4, l5, l6, l7] S σ = ms_G 59 232 [.ref b, .int (x + nI 1), l2, l3, l4, l5, l6, l7] S σ := (ms_G_at rfl _ _ _).trans rfl
theorem mi_59_232 : ms_G 59 232 L S σ = ms_G 59 22 L S σ := (ms_G_at rfl _ _ _).trans rfl
theorem mi_59_235 : ms_G 59 235 L S σ = ms_G 59 236 L (.int (nI 1) :: S) σ := (ms_G_at rfl _ _ _).trans rfl
theorem mi_59_236 : ms_G 59 236 L [.int (nI 0)] σ = some (.inl (some (.int (nI 0))), σ) := (ms_G_at rfl _ _ _).trans rfl
theorem mi_59_236_1 : ms_G 59 236 L [.int (nI 1)] σ = some (.inl (some (.int (nI 1))), σ) := (ms_G_at rfl _ _ _).trans rfl
theorem mi_59_236_b (B : Bool) : ms_G 59 236 L [.int (ms_b B)] σ = some (.inl (some (.int (ms_b B))), σ) := by cases B <;> exact (ms_G_at rfl _ _ _).trans rfl
-- MaskedSumModel.close()I
theorem mi_60_0 : ms_G 60 0 [.ref a, l1, l2] S σ = ms_G 60 1 [.ref a, l1, l2] (.ref a :: S) σ := (ms_G_at rfl _ _ _).trans rfl
theorem mi_60_1 : ms_G 60 1 [.ref a, l1, l2] S σ = ms_G 60 2 [.ref a, l1, l2] (.ref a :: S) σ := (ms_G_at rfl _ _ _).trans rfl
theorem mi_60_2 : ms_G 60 2 L (.ref (ms_ad 40 0) :: [.ref g0]) (ms_Z q w I J) = mo_cl 60 2 5 (ms_G 36 0 [.ref (ms_ad 40 0)] [] (ms_Z q false I J)) w L [.ref g0] := (mz_call rfl rfl (mz_can1 rfl rfl rfl rfl rfl (by decide) rfl (by decide))).trans rfl
theorem mi_60_5 : ms_G 60 5 L (.int x :: S) σ = if x = nI 0 then ms_G 60 12 L S σ else ms_G 60 8 L S σ := mz_bra rfl rfl rfl
theorem mi_60_8 : ms_G 60 8 L S σ = ms_G 60 9 L (.int (nI 0) :: S) σ := (ms_G_at rfl _ _ _).trans rfl
theorem mi_60_9 : ms_G 60 9 L S σ = ms_G 60 13 L S σ := (ms_G_at rfl _ _ _).trans rfl
theorem mi_60_12 : ms_G 60 12 L S σ = ms_G 60 13 L (.int (nI 1) :: S) σ := (ms_G_at rfl _ _ _).trans rfl
theorem mi_60_13 : ms_G 60 13 L (.int x :: .ref (ms_ad 40 0) :: S) (ms_Z q w I J) = ms_G 60 16 L S (ms_Z q true (ms_u I 40 0 (upd (I 40 0) 0 x)) J) := mz_putf rfl (by decide) rfl (by decide) rfl rfl
theorem mi_60_16 : ms_G 60 16 [.ref a, l1, l2] S σ = ms_G 60 17 [.ref a, l1, l2] (.ref a :: S) σ := (ms_G_at rfl _ _ _).trans rfl
theorem mi_60_17 : ms_G 60 17 L (.ref (ms_ad 40 0) :: S) (ms_Z q w I J) = ms_G 60 20 L (.int (I 40 0 0) :: S) (ms_Z q w I J) := mz_getf (c := (0, 0)) rfl (by decide) rfl (by decide) rfl
theorem mi_60_20 : ms_G 60 20 L (.int x :: S) σ = if x ≤ nI 0 then ms_G 60 25 L S σ else ms_G 60 23 L S σ := mz_bra rfl rfl rfl
theorem mi_60_23 : ms_G 60 23 L S σ = ms_G 60 24 L (.int (nI 0) :: S) σ := (ms_G_at rfl _ _ _).trans rfl
theorem mi_60_24 : ms_G 60 24 L [.int x] σ = some (.inl (some (.int x)), σ) := (ms_G_at rfl _ _ _).trans rfl
theorem mi_60_25 : ms_G 60 25 [.ref a, l1, l2] S σ = ms_G 60 26 [.ref a, l1, l2] (.ref a :: S) σ := (ms_G_at rfl _ _ _).trans rfl
theorem mi_60_26 : ms_G 60 26 L (.ref (ms_ad 40 0) :: S) (ms_Z q w I J) = ms_G 60 29 L (.int (I 40 0 3) :: S) (ms_Z q w I J) := mz_getf (c := (0, 3)) rfl (by decide) rfl (by decide) rfl
theorem mi_60_29 : ms_G 60 29 [.ref b, l1, l2] (.int x :: S) σ = ms_G 60 30 [.ref b, .int x, l2] S σ := (ms_G_at rfl _ _ _).trans rfl
theorem mi_60_30 : ms_G 60 30 [.ref a, l1, l2] S σ = ms_G 60 31 [.ref a, l1, l2] (.ref a :: S) σ := (ms_G_at rfl _ _ _).trans rfl
theorem mi_60_31 : ms_G 60 31 L (.ref (ms_ad 40 0) :: S) (ms_Z q w I J) = ms_G 60 34 L (.ref (ms_ad 51 0) :: S) (ms_Z q w I J) := mz_getf (c := (2, 51)) rfl (by decide) rfl (by decide) rfl
theorem mi_60_34 : ms_G 60 34 [l0, .int x, l2] S σ = ms_G 60 35 [l0, .int x, l2] (.int x :: S) σ := (ms_G_at rfl _ _ _).trans rfl
theorem mi_60_35 : ms_G 60 35 L (.int (nI i) :: .ref (ms_ad r u) :: S) (ms_Z q w I J) = cond (mo_0 q.1 r u i) (ms_G 60 36 L (.int (I r u i) :: S) (ms_Z q w I J)) (ms_raw 60 35 L (.int (nI i) :: .ref (ms_ad r u) :: S) (ms_Z q w I J)) := mz_iald rfl
theorem mi_60_36 : ms_G 60 36 L [.int x0] (ms_Z q w I J) = mo_cl 60 36 39 (ms_G 43 0 [.int x0, .null, .null] [] (ms_Z q false I J)) w L [] := (mz_call rfl rfl (mz_can0 rfl rfl rfl rfl rfl)).trans rfl
theorem mi_60_39 : ms_G 60 39 [.ref a, l1, l2] S σ = ms_G 60 40 [.ref a, l1, l2] (.ref a :: S) σ := (ms_G_at rfl _ _ _).trans rfl
theorem mi_60_40 : ms_G 60 40 L (.ref (ms_ad 40 0) :: S) (ms_Z q w I J) = ms_G 60 43 L (.int (I 40 0 2) :: S) (ms_Z q w I J) := mz_getf (c := (0, 2)) rfl (by decide) rfl (by decide) rfl
theorem mi_60_43 : ms_G 60 43 L (.int y :: .int x :: S) σ = if y ≤ x then ms_G 60 68 L S σ else ms_G 60 46 L S σ := mz_bra rfl rfl rfl
theorem mi_60_46 : ms_G 60 46 [.ref a, l1, l2] S σ = ms_G 60 47 [.ref a, l1, l2] (.ref a :: S) σ := (ms_G_at rfl _ _ _).trans rfl
theorem mi_60_47 : ms_G 60 47 L S σ = ms_G 60 48 L (.int (nI 1) :: S) σ := (ms_G_at rfl _ _ _).trans rfl
theorem mi_60_48 : ms_G 60 48 [l0, .int x, l2] S σ = ms_G 60 49 [l0, .int x, l2] (.int x :: S) σ := (ms_G_at rfl _ _ _).trans rfl
theorem mi_60_49 : ms_G 60 49 L (.int y :: .int x :: S) σ = ms_G 60 50 L (.int (x + y) :: S) σ := (ms_G_at rfl _ _ _).trans rfl
theorem mi_60_50 : ms_G 60 50 L (.int x :: .ref (ms_ad 40 0) :: S) (ms_Z q w I J) = ms_G 60 53 L S (ms_Z q true (ms_u I 40 0 (upd (I 40 0) 4 x)) J) := mz_putf rfl (by decide) rfl (by decide) rfl rfl
theorem mi_60_53 : ms_G 60 53 [.ref a, l1, l2] S σ = ms_G 60 54 [.ref a, l1, l2] (.ref a :: S) σ := (ms_G_at rfl _ _ _).trans rfl
theorem mi_60_54 : ms_G 60 54 [l0, .int x, l2] S σ = ms_G 60 55 [l0, .int x, l2] (.int x :: S) σ := (ms_G_at rfl _ _ _).trans rfl
theorem mi_60_55 : ms_G 60 55 L (.int x :: .ref (ms_ad 40 0) :: S) (ms_Z q w I J) = ms_G 60 58 L S (ms_Z q true (ms_u I 40 0 (upd (I 40 0) 33 x)) J) := mz_putf rfl (by decide) rfl (by decide) rfl rfl
theorem mi_60_58 : ms_G 60 58 [.ref a, l1, l2] S σ = ms_G 60 59 [.ref a, l1, l2] (.ref a :: S) σ := (ms_G_at rfl _ _ _).trans rfl
theorem mi_60_59 : ms_G 60 59 L S σ = ms_G 60 60 L (.int (nI 5) :: S) σ := (ms_G_at rfl _ _ _).trans rfl
theorem mi_60_60 : ms_G 60 60 L (.int x :: .ref (ms_ad 40 0) :: S) (ms_Z q w I J) = ms_G 60 63 L S (ms_Z q true (ms_u I 40 0 (upd (I 40 0) 3 x)) J) := mz_putf rfl (by decide) rfl (by decide) rfl rfl
theorem mi_60_63 : ms_G 60 63 [.ref a, l1, l2] S σ = ms_G 60 64 [.ref a, l1, l2] (.ref a :: S) σ := (ms_G_at rfl _ _ _).trans rfl
theorem mi_60_64 : ms_G 60 64 L (.ref (ms_ad 40 0) :: S) (ms_Z q w I J) = ms_G 60 67 L (.int (I 40 0 3) :: S) (ms_Z q w I J) := mz_getf (c := (0, 3)) rfl (by decide) rfl (by decide) rfl
theorem mi_60_67 : ms_G 60 67 L [.int x] σ = some (.inl (some (.int x)), σ) := (ms_G_at rfl _ _ _).trans rfl
theorem mi_60_68 : ms_G 60 68 [.ref a, l1, l2] S σ = ms_G 60 69 [.ref a, l1, l2] (.ref a :: S) σ := (ms_G_at rfl _ _ _).trans rfl
theorem mi_60_69 : ms_G 60 69 L (.ref (ms_ad 40 0) :: S) (ms_Z q w I J) = ms_G 60 72 L (.ref (ms_ad 50 0) :: S) (ms_Z q w I J) := mz_getf (c := (2, 50)) rfl (by decide) rfl (by decide) rfl
theorem mi_60_72 : ms_G 60 72 [l0, .int x, l2] S σ = ms_G 60 73 [l0, .int x, l2] (.int x :: S) σ := (ms_G_at rfl _ _ _).trans rfl
theorem mi_60_73 : ms_G 60 73 [.ref a, l1, l2] S σ = ms_G 60 74 [.ref a, l1, l2] (.ref a :: S) σ := (ms_G_at rfl _ _ _).trans rfl
theorem mi_60_74 : ms_G 60 74 L (.ref (ms_ad 40 0) :: S) (ms_Z q w I J) = ms_G 60 77 L (.ref (ms_ad 51 0) :: S) (ms_Z q w I J) := mz_getf (c := (2, 51)) rfl (by decide) rfl (by decide) rfl
theorem mi_60_77 : ms_G 60 77 [l0, .int x, l2] S σ = ms_G 60 78 [l0, .int x, l2] (.int x :: S) σ := (ms_G_at rfl _ _ _).trans rfl
theorem mi_60_78 : ms_G 60 78 L (.int (nI i) :: .ref (ms_ad r u) :: S) (ms_Z q w I J) = cond (mo_0 q.1 r u i) (ms_G 60 79 L (.int (I r u i) :: S) (ms_Z q w I J)) (ms_raw 60 78 L (.int (nI i) :: .ref (ms_ad r u) :: S) (ms_Z q w I J)) := mz_iald rfl
theorem mi_60_79 : ms_G 60 79 L (.int x :: .int (nI i) :: .ref (ms_ad r u) :: S) (ms_Z q w I J) = cond (mo_0 q.1 r u i) (ms_G 60 80 L S (ms_Z q true (ms_u I r u (upd (I r u) i x)) J)) (ms_raw 60 79 L (.int x :: .int (nI i) :: .ref (ms_ad r u) :: S) (ms_Z q w I J)) := mz_iast rfl x
theorem mi_60_80 : ms_G 60 80 [l0, .int x, l2] S σ = ms_G 60 81 [l0, .int x, l2] (.int x :: S) σ := (ms_G_at rfl _ _ _).trans rfl
theorem mi_60_81 : ms_G 60 81 L S σ = ms_G 60 82 L (.int (nI 3) :: S) σ := (ms_G_at rfl _ _ _).trans rfl
theorem mi_60_82 : ms_G 60 82 L (.int y :: .int x :: S) σ = if x = y then ms_G 60 85 L S σ else ms_G 60 135 L S σ := mz_bra rfl rfl rfl
theorem mi_60_85 : ms_G 60 85 [.ref a, l1, l2] S σ = ms_G 60 86 [.ref a, l1, l2] (.ref a :: S) σ := (ms_G_at rfl _ _ _).trans rfl
theorem mi_60_86 : ms_G 60 86 L S σ = ms_G 60 87 L (.int (nI 3) :: S) σ := (ms_G_at rfl _ _ _).trans rfl
theorem mi_60_87 : ms_G 60 87 L (.int x :: .ref (ms_ad 40 0) :: S) (ms_Z q w I J) = ms_G 60 90 L S (ms_Z q true (ms_u I 40 0 (upd (I 40 0) 33 x)) J) := mz_putf rfl (by decide) rfl (by decide) rfl rfl
theorem mi_60_90 : ms_G 60 90 [.ref a, l1, l2] S σ = ms_G 60 91 [.ref a, l1, l2] (.ref a :: S) σ := (ms_G_at rfl _ _ _).trans rfl
theorem mi_60_91 : ms_G 60 91 [.ref a, l1, l2] S σ = ms_G 60 92 [.ref a, l1, l2] (.ref a :: S) σ := (ms_G_at rfl _ _ _).trans rfl
theorem mi_60_92 : ms_G 60 92 L (.ref (ms_ad 40 0) :: [.ref g0]) (ms_Z q w I J) = mo_cl 60 92 95 (ms_G 59 0 [.ref (ms_ad 40 0), .null, .null, .null, .null, .null, .null, .null] [] (ms_Z q false I J)) w L [.ref g0] := (mz_call rfl rfl (mz_can1 rfl rfl rfl rfl rfl (by decide) rfl (by decide))).trans rfl
theorem mi_60_95 : ms_G 60 95 L (.int (ms_b B) :: .ref (ms_ad 40 0) :: S) (ms_Z q w I J) = ms_G 60 98 L S (ms_Z q true (ms_u I 40 0 (upd (I 40 0) 23 (ms_b B))) J) := mz_putf (ci := 8) rfl (by decide) rfl (by decide) rfl (by cases B <;> rfl)
theorem mi_60_95_0 : ms_G 60 95 L (.int (nI 0) :: .ref (ms_ad 40 0) :: S) (ms_Z q w I J) = ms_G 60 98 L S (ms_Z q true (ms_u I 40 0 (upd (I 40 0) 23 (nI 0))) J) := mz_putf rfl (by decide) rfl (by decide) rfl (by decide)
theorem mi_60_95_1 : ms_G 60 95 L (.int (nI 1) :: .ref (ms_ad 40 0) :: S) (ms_Z q w I J) = ms_G 60 98 L S (ms_Z q true (ms_u I 40 0 (upd (I 40 0) 23 (nI 1))) J) := mz_putf rfl (by decide) rfl (by decide) rfl (by decide)
theorem mi_60_98 : ms_G 60 98 [.ref a, l1, l2] S σ = ms_G 60 99 [.ref a, l1, l2] (.ref a :: S) σ := (ms_G_at rfl _ _ _).trans rfl
theorem mi_60_99 : ms_G 60 99 [.ref a, l1, l2] S σ = ms_G 60 100 [.ref a, l1, l2] (.ref a :: S) σ := (ms_G_at rfl _ _ _).trans rfl
theorem mi_60_100 : ms_G 60 100 L (.ref (ms_ad 40 0) :: S) (ms_Z q w I J) = ms_G 60 103 L (.int (I 40 0 23) :: S) (ms_Z q w I J) := mz_getf (c := (0, 23)) rfl (by decide) rfl (by decide) rfl
theorem mi_60_103 : ms_G 60 103 L (.int x :: S) σ = if x = nI 0 then ms_G 60 110 L S σ else ms_G 60 106 L S σ := mz_bra rfl rfl rfl
theorem mi_60_106 : ms_G 60 106 L S σ = ms_G 60 107 L (.int (nI 0) :: S) σ := (ms_G_at rfl _ _ _).trans rfl
theorem mi_60_107 : ms_G 60 107 L S σ = ms_G 60 111 L S σ := (ms_G_at rfl _ _ _).trans rfl
theorem mi_60_110 : ms_G 60 110 L S σ = ms_G 60 111 L (.int (nI 5) :: S) σ := (ms_G_at rfl _ _ _).trans rfl
theorem mi_60_111 : ms_G 60 111 L (.int x :: .ref (ms_ad 40 0) :: S) (ms_Z q w I J) = ms_G 60 114 L S (ms_Z q true (ms_u I 40 0 (upd (I 40 0) 4 x)) J) := mz_putf rfl (by decide) rfl (by decide) rfl rfl
theorem mi_60_114 : ms_G 60 114 [.ref a, l1, l2] S σ = ms_G 60 115 [.ref a, l1, l2] (.ref a :: S) σ := (ms_G_at rfl _ _ _).trans rfl
theorem mi_60_115 : ms_G 60 115 [.ref a, l1, l2] S σ = ms_G 60 116 [.ref a, l1, l2] (.ref a :: S) σ := (ms_G_at rfl _ _ _).trans rfl
theorem mi_60_116 : ms_G 60 116 L (.ref (ms_ad 40 0) :: S) (ms_Z q w I J) = ms_G 60 119 L (.int (I 40 0 23) :: S) (ms_Z q w I J) := mz_getf (c := (0, 23)) rfl (by decide) rfl (by decide) rfl
theorem mi_60_119 : ms_G 60 119 L (.int x :: S) σ = if x = nI 0 then ms_G 60 126 L S σ else ms_G 60 122 L S σ := mz_bra rfl rfl rfl
theorem mi_60_122 : ms_G 60 122 L S σ = ms_G 60 123 L (.int (nI 4) :: S) σ := (ms_G_at rfl _ _ _).trans rfl
theorem mi_60_123 : ms_G 60 123 L S σ = ms_G 60 127 L S σ := (ms_G_at rfl _ _ _).trans rfl
theorem mi_60_126 : ms_G 60 126 L S σ = ms_G 60 127 L (.int (nI 5) :: S) σ := (ms_G_at rfl _ _ _).trans rfl
theorem mi_60_127 : ms_G 60 127 L (.int x :: .ref (ms_ad 40 0) :: S) (ms_Z q w I J) = ms_G 60 130 L S (ms_Z q true (ms_u I 40 0 (upd (I 40 0) 3 x)) J) := mz_putf rfl (by decide) rfl (by decide) rfl rfl
theorem mi_60_130 : ms_G 60 130 [.ref a, l1, l2] S σ = ms_G 60 131 [.ref a, l1, l2] (.ref a :: S) σ := (ms_G_at rfl _ _ _).trans rfl
theorem mi_60_131 : ms_G 60 131 L (.ref (ms_ad 40 0) :: S) (ms_Z q w I J) = ms_G 60 134 L (.int (I 40 0 3) :: S) (ms_Z q w I J) := mz_getf (c := (0, 3)) rfl (by decide) rfl (by decide) rfl
theorem mi_60_134 : ms_G 60 134 L [.int x] σ = some (.inl (some (.int x)), σ) := (ms_G_at rfl _ _ _).trans rfl
theorem mi_60_135 : ms_G 60 135 L S σ = ms_G 60 136 L (.int (nI 0) :: S) σ := (ms_G_at rfl _ _ _).trans rfl
theorem mi_60_136 : ms_G 60 136 [l0, .int y, l2] (.int x :: S) σ = ms_G 60 137 [l0, .int y, .int x] S σ := (ms_G_at rfl _ _ _).trans rfl
theorem mi_60_137 : ms_G 60 137 [l0, l1, .int x] S σ = ms_G 60 138 [l0, l1, .int x] (.int x :: S) σ := (ms_G_at rfl _ _ _).trans rfl
theorem mi_60_138 : ms_G 60 138 [.ref a, l1, l2] S σ = ms_G 60 139 [.ref a, l1, l2] (.ref a :: S) σ := (ms_G_at rfl _ _ _).trans rfl
theorem mi_60_139 : ms_G 60 139 L (.ref (ms_ad 40 0) :: S) (ms_Z q w I J) = ms_G 60 142 L (.int (I 40 0 1) :: S) (ms_Z q w I J) := mz_getf (c := (0, 1)) rfl (by decide) rfl (by decide) rfl
theorem mi_60_142 : ms_G 60 142 L (.int y :: .int x :: S) σ = if y ≤ x then ms_G 60 179 L S σ else ms_G 60 145 L S σ := mz_bra rfl rfl rfl
theorem mi_60_145 : ms_G 60 145 [.ref a, l1, l2] S σ = ms_G 60 146 [.ref a, l1, l2] (.ref a :: S) σ := (ms_G_at rfl _ _ _).trans rfl
theorem mi_60_146 : ms_G 60 146 L (.ref (ms_ad 40 0) :: S) (ms_Z q w I J) = ms_G 60 149 L (.ref (ms_ad 50 0) :: S) (ms_Z q w I J) := mz_getf (c := (2, 50)) rfl (by decide) rfl (by decide) rfl
theorem mi_60_149 : ms_G 60 149 [l0, .int x, l2] S σ = ms_G 60 150 [l0, .int x, l2] (.int x :: S) σ := (ms_G_at rfl _ _ _).trans rfl
theorem mi_60_150 : ms_G 60 150 L S σ = ms_G 60 151 L (.int (nI 2) :: S) σ := (ms_G_at rfl _ _ _).trans rfl
theorem mi_60_151 : ms_G 60 151 L (.int y :: .int x :: S) σ = if x = y then ms_G 60 154 L S σ else ms_G 60 158 L S σ := mz_bra rfl rfl rfl
theorem mi_60_154 : ms_G 60 154 L S σ = ms_G 60 155 L (.int (nI 1) :: S) σ := (ms_G_at rfl _ _ _).trans rfl
theorem mi_60_155 : ms_G 60 155 L S σ = ms_G 60 159 L S σ := (ms_G_at rfl _ _ _).trans rfl
theorem mi_60_158 : ms_G 60 158 [l0, .int x, l2] S σ = ms_G 60 159 [l0, .int x, l2] (.int x :: S) σ := (ms_G_at rfl _ _ _).trans rfl
theorem mi_60_159 : ms_G 60 159 L (.int (nI i) :: .ref (ms_ad r u) :: S) (ms_Z q w I J) = cond (mo_0 q.1 r u i) (ms_G 60 160 L (.int (I r u i) :: S) (ms_Z q w I J)) (ms_raw 60 159 L (.int (nI i) :: .ref (ms_ad r u) :: S) (ms_Z q w I J)) := mz_iald rfl
theorem mi_60_160 : ms_G 60 160 [l0, l1, .int x] S σ = ms_G 60 161 [l0, l1, .int x] (.int x :: S) σ := (ms_G_at rfl _ _ _).trans rfl
theorem mi_60_161 : ms_G 60 161 L [.int x1, .int x0] (ms_Z q w I J) = mo_cl 60 161 164 (ms_G 42 0 [.int x0, .int x1] [] (ms_Z q false I J)) w L [] := (mz_call rfl rfl (mz_can0 rfl rfl rfl rfl rfl)).trans rfl
theorem mi_60_164 : ms_G 60 164 L (.int x :: S) σ = if x = nI 0 then ms_G 60 173 L S σ else ms_G 60 167 L S σ := mz_bra rfl rfl rfl
theorem mi_60_167 : ms_G 60 167 [.ref a, l1, l2] S σ = ms_G 60 168 [.ref a, l1, l2] (.ref a :: S) σ := (ms_G_at rfl _ _ _).trans rfl
theorem mi_60_168 : ms_G 60 168 [l0, .int x, l2] S σ = ms_G 60 169 [l0, .int x, l2] (.int x :: S) σ := (ms_G_at rfl _ _ _).trans rfl
theorem mi_60_169 : ms_G 60 169 [l0, l1, .int x] S σ = ms_G 60 170 [l0, l1, .int x] (.int x :: S) σ := (ms_G_at rfl _ _ _).trans rfl
theorem mi_60_170 : ms_G 60 170 L [.int x1, .int x0, .ref (ms_ad 40 0)] (ms_Z q w I J) = mo_cl 60 170 173 (ms_G 57 0 [.ref (ms_ad 40 0), .int x0, .int x1, .null, .null, .null] [] (ms_Z q false I J)) w L [] := (mz_call rfl rfl (mz_can1 rfl rfl rfl rfl rfl (by decide) rfl (by decide))).trans rfl
theorem mi_60_173 : ms_G 60 173 [l0, .int y, .int x] S σ = ms_G 60 176 [l0, .int y, .int (x + nI 1)] S σ := (ms_G_at rfl _ _ _).trans rfl
theorem mi_60_176 : ms_G 60 176 L S σ = ms_G 60 137 L S σ := (ms_G_at rfl _ _ _).trans rfl
theorem mi_60_179 : ms_G 60 179 [.ref a, l1, l2] S σ = ms_G 60 180 [.ref a, l1, l2] (.ref a :: S) σ := (ms_G_at rfl _ _ _).trans rfl
theorem mi_60_180 : ms_G 60 180 L (.ref a :: S) σ = ms_G 60 181 L (.ref a :: .ref a :: S) σ := (ms_G_at rfl _ _ _).trans rfl
theorem mi_60_181 : ms_G 60 181 L (.ref (ms_ad 40 0) :: S) (ms_Z q w I J) = ms_G 60 184 L (.int (I 40 0 3) :: S) (ms_Z q w I J) := mz_getf (c := (0, 3)) rfl (by decide) rfl (by decide) rfl
theorem mi_60_184 : ms_G 60 184 L S σ = ms_G 60 185 L (.int (nI 1) :: S) σ := (ms_G_at rfl _ _ _).trans rfl
theorem mi_60_185 : ms_G 60 185 L (.int y :: .int x :: S) σ = ms_G 60 186 L (.int (x + y) :: S) σ := (ms_G_at rfl _ _ _).trans rfl
theorem mi_60_186 : ms_G 60 186 L (.int x :: .ref (ms_ad 40 0) :: S) (ms_Z q w I J) = ms_G 60 189 L S (ms_Z q true (ms_u I 40 0 (upd (I 40 0) 3 x)) J) := mz_putf rfl (by decide) rfl (by decide) rfl rfl
theorem mi_60_189 : ms_G 60 189 [.ref a, l1, l2] S σ = ms_G 60 190 [.ref a, l1, l2] (.ref a :: S) σ := (ms_G_at rfl _ _ _).trans rfl
theorem mi_60_190 : ms_G 60 190 L (.ref (ms_ad 40 0) :: S) (ms_Z q w I J) = ms_G 60 193 L (.int (I 40 0 3) :: S) (ms_Z q w I J) := mz_getf (c := (0, 3)) rfl (by decide) rfl (by decide) rfl
theorem mi_60_193 : ms_G 60 193 L [.int x] σ = some (.inl (some (.int x)), σ) := (ms_G_at rfl _ _ _).trans rfl
end MsI
