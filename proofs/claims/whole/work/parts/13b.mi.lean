/-! ONE LEMMA AN INSTRUCTION, by gen3.py. -/
section MsI
variable {l0 l1 l2 l3 l4 l5 l6 l7 l8 l9 l10 l11 l12 l13 l14 l15 l16 l17 : Value} {L S : List Value} {σ : ms_M} {q : Nat × Nat} {w B : Bool} {I : ms_i} {J : ms_j} {r u r' u' i sp dp n a b a0 a1 a2 a3 a4 a5 a6 a7 g0 g1 g2 g3 g4 g5 g6 g7 : Nat}
variable {x y x0 x1 x2 x3 x4 x5 x6 x7 e0 e1 e2 e3 e4 e5 e6 e7 : Int32} {X Y X0 X1 X2 X3 X4 X5 X6 X7 f0 f1 f2 f3 f4 f5 f6 f7 : Int64}
-- MaskedSumModel.seal(JIIIIII)V
theorem mi_31_0 : ms_G 31 0 [.ref a, l1, l2, l3, l4, l5, l6, l7, l8, l9, l10, l11, l12, l13, l14, l15, l16, l17] S σ = ms_G 31 1 [.ref a, l1, l2, l3, l4, l5, l6, l7, l8, l9, l10, l11, l12, l13, l14, l15, l16, l17] (.ref a :: S) σ := (ms_G_at rfl _ _ _).trans rfl
theorem mi_31_1 : ms_G 31 1 [l0, .long X, l2, l3, l4, l5, l6, l7, l8, l9, l10, l11, l12, l13, l14, l15, l16, l17] S σ = ms_G 31 2 [l0, .long X, l2, l3, l4, l5, l6, l7, l8, l9, l10, l11, l12, l13, l14, l15, l16, l17] (.long X :: S) σ := (ms_G_at rfl _ _ _).trans rfl
theorem mi_31_2 : ms_G 31 2 [l0, l1, l2, .int x, l4, l5, l6, l7, l8, l9, l10, l11, l12, l13, l14, l15, l16, l17] S σ = ms_G 31 3 [l0, l1, l2, .int x, l4, l5, l6, l7, l8, l9, l10, l11, l12, l13, l14, l15, l16, l17] (.int x :: S) σ := (ms_G_at rfl _ _ _).trans rfl
theorem mi_31_3 : ms_G 31 3 [l0, l1, l2, l3, .int x, l5, l6, l7, l8, l9, l10, l11, l12, l13, l14, l15, l16, l17] S σ = ms_G 31 5 [l0, l1, l2, l3, .int x, l5, l6, l7, l8, l9, l10, l11, l12, l13, l14, l15, l16, l17] (.int x :: S) σ := (ms_G_at rfl _ _ _).trans rfl
theorem mi_31_5 : ms_G 31 5 L S σ = ms_G 31 6 L (.int (nI 1) :: S) σ := (ms_G_at rfl _ _ _).trans rfl
theorem mi_31_6 : ms_G 31 6 L S σ = ms_G 31 7 L (.int (nI 0) :: S) σ := (ms_G_at rfl _ _ _).trans rfl
theorem mi_31_7 : ms_G 31 7 L [.int x4, .int x3, .int x2, .int x1, .long X0, .ref (ms_ad 40 0)] (ms_Z q w I J) = mo_cl 31 7 10 (ms_G 26 0 [.ref (ms_ad 40 0), .long X0, .null, .int x1, .int x2, .int x3, .int x4, .null, .null] [] (ms_Z q false I J)) w L [] := (mz_call rfl rfl (mz_can1 rfl rfl rfl rfl rfl (by decide) rfl (by decide))).trans rfl
theorem mi_31_10 : ms_G 31 10 L S σ = ms_G 31 11 L (.int (nI 0) :: S) σ := (ms_G_at rfl _ _ _).trans rfl
theorem mi_31_11 : ms_G 31 11 [l0, l1, l2, l3, l4, l5, l6, l7, .int y, l9, l10, l11, l12, l13, l14, l15, l16, l17] (.int x :: S) σ = ms_G 31 13 [l0, l1, l2, l3, l4, l5, l6, l7, .int y, .int x, l10, l11, l12, l13, l14, l15, l16, l17] S σ := (ms_G_at rfl _ _ _).trans rfl
theorem mi_31_13 : ms_G 31 13 [l0, l1, l2, l3, l4, l5, l6, l7, l8, .int x, l10, l11, l12, l13, l14, l15, l16, l17] S σ = ms_G 31 15 [l0, l1, l2, l3, l4, l5, l6, l7, l8, .int x, l10, l11, l12, l13, l14, l15, l16, l17] (.int x :: S) σ := (ms_G_at rfl _ _ _).trans rfl
theorem mi_31_15 : ms_G 31 15 L S σ = ms_G 31 16 L (.int (nI 4) :: S) σ := (ms_G_at rfl _ _ _).trans rfl
theorem mi_31_16 : ms_G 31 16 L (.int y :: .int x :: S) σ = if y ≤ x then ms_G 31 39 L S σ else ms_G 31 19 L S σ := mz_bra rfl rfl rfl
theorem mi_31_19 : ms_G 31 19 [.ref a, l1, l2, l3, l4, l5, l6, l7, l8, l9, l10, l11, l12, l13, l14, l15, l16, l17] S σ = ms_G 31 20 [.ref a, l1, l2, l3, l4, l5, l6, l7, l8, l9, l10, l11, l12, l13, l14, l15, l16, l17] (.ref a :: S) σ := (ms_G_at rfl _ _ _).trans rfl
theorem mi_31_20 : ms_G 31 20 L (.ref (ms_ad 40 0) :: S) (ms_Z q w I J) = ms_G 31 23 L (.ref (ms_ad 63 0) :: S) (ms_Z q w I J) := mz_getf (c := (2, 63)) rfl (by decide) rfl (by decide) rfl
theorem mi_31_23 : ms_G 31 23 [l0, l1, l2, l3, l4, l5, l6, l7, l8, .int x, l10, l11, l12, l13, l14, l15, l16, l17] S σ = ms_G 31 25 [l0, l1, l2, l3, l4, l5, l6, l7, l8, .int x, l10, l11, l12, l13, l14, l15, l16, l17] (.int x :: S) σ := (ms_G_at rfl _ _ _).trans rfl
theorem mi_31_25 : ms_G 31 25 [.ref a, l1, l2, l3, l4, l5, l6, l7, l8, l9, l10, l11, l12, l13, l14, l15, l16, l17] S σ = ms_G 31 26 [.ref a, l1, l2, l3, l4, l5, l6, l7, l8, l9, l10, l11, l12, l13, l14, l15, l16, l17] (.ref a :: S) σ := (ms_G_at rfl _ _ _).trans rfl
theorem mi_31_26 : ms_G 31 26 L (.ref (ms_ad 40 0) :: S) (ms_Z q w I J) = ms_G 31 29 L (.ref (ms_ad 59 0) :: S) (ms_Z q w I J) := mz_getf (c := (2, 59)) rfl (by decide) rfl (by decide) rfl
theorem mi_31_29 : ms_G 31 29 [l0, l1, l2, l3, l4, l5, l6, l7, l8, .int x, l10, l11, l12, l13, l14, l15, l16, l17] S σ = ms_G 31 31 [l0, l1, l2, l3, l4, l5, l6, l7, l8, .int x, l10, l11, l12, l13, l14, l15, l16, l17] (.int x :: S) σ := (ms_G_at rfl _ _ _).trans rfl
theorem mi_31_31 : ms_G 31 31 L (.int (nI i) :: .ref (ms_ad r u) :: S) (ms_Z q w I J) = cond (mo_0 q.1 r u i) (ms_G 31 32 L (.int (I r u i) :: S) (ms_Z q w I J)) (ms_raw 31 31 L (.int (nI i) :: .ref (ms_ad r u) :: S) (ms_Z q w I J)) := mz_iald rfl
theorem mi_31_32 : ms_G 31 32 L (.int x :: .int (nI i) :: .ref (ms_ad r u) :: S) (ms_Z q w I J) = cond (mo_0 q.1 r u i) (ms_G 31 33 L S (ms_Z q true (ms_u I r u (upd (I r u) i x)) J)) (ms_raw 31 32 L (.int x :: .int (nI i) :: .ref (ms_ad r u) :: S) (ms_Z q w I J)) := mz_iast rfl x
theorem mi_31_33 : ms_G 31 33 [l0, l1, l2, l3, l4, l5, l6, l7, .int y, .int x, l10, l11, l12, l13, l14, l15, l16, l17] S σ = ms_G 31 36 [l0, l1, l2, l3, l4, l5, l6, l7, .int y, .int (x + nI 1), l10, l11, l12, l13, l14, l15, l16, l17] S σ := (ms_G_at rfl _ _ _).trans rfl
theorem mi_31_36 : ms_G 31 36 L S σ = ms_G 31 13 L S σ := (ms_G_at rfl _ _ _).trans rfl
theorem mi_31_39 : ms_G 31 39 [.ref a, l1, l2, l3, l4, l5, l6, l7, l8, l9, l10, l11, l12, l13, l14, l15, l16, l17] S σ = ms_G 31 40 [.ref a, l1, l2, l3, l4, l5, l6, l7, l8, l9, l10, l11, l12, l13, l14, l15, l16, l17] (.ref a :: S) σ := (ms_G_at rfl _ _ _).trans rfl
theorem mi_31_40 : ms_G 31 40 L (.ref (ms_ad 40 0) :: S) (ms_Z q w I J) = ms_G 31 43 L (.ref (ms_ad 63 0) :: S) (ms_Z q w I J) := mz_getf (c := (2, 63)) rfl (by decide) rfl (by decide) rfl
theorem mi_31_43 : ms_G 31 43 L S σ = ms_G 31 44 L (.int (nI 0) :: S) σ := (ms_G_at rfl _ _ _).trans rfl
theorem mi_31_44 : ms_G 31 44 L (.int x :: .ref b :: S) σ = ms_G 31 45 L (.int x :: .ref b :: .int x :: .ref b :: S) σ := (ms_G_at rfl _ _ _).trans rfl
theorem mi_31_45 : ms_G 31 45 L (.int (nI i) :: .ref (ms_ad r u) :: S) (ms_Z q w I J) = cond (mo_0 q.1 r u i) (ms_G 31 46 L (.int (I r u i) :: S) (ms_Z q w I J)) (ms_raw 31 45 L (.int (nI i) :: .ref (ms_ad r u) :: S) (ms_Z q w I J)) := mz_iald rfl
theorem mi_31_46 : ms_G 31 46 L S σ = ms_G 31 48 L (.int (nI 268435455) :: S) σ := (ms_G_at rfl _ _ _).trans rfl
theorem mi_31_48 : ms_G 31 48 L (.int y :: .int x :: S) σ = ms_G 31 49 L (.int (x &&& y) :: S) σ := (ms_G_at rfl _ _ _).trans rfl
theorem mi_31_49 : ms_G 31 49 L (.int x :: .int (nI i) :: .ref (ms_ad r u) :: S) (ms_Z q w I J) = cond (mo_0 q.1 r u i) (ms_G 31 50 L S (ms_Z q true (ms_u I r u (upd (I r u) i x)) J)) (ms_raw 31 49 L (.int x :: .int (nI i) :: .ref (ms_ad r u) :: S) (ms_Z q w I J)) := mz_iast rfl x
theorem mi_31_50 : ms_G 31 50 L S σ = ms_G 31 51 L (.int (nI 1) :: S) σ := (ms_G_at rfl _ _ _).trans rfl
theorem mi_31_51 : ms_G 31 51 [l0, l1, l2, l3, l4, l5, l6, l7, .int y, l9, l10, l11, l12, l13, l14, l15, l16, l17] (.int x :: S) σ = ms_G 31 53 [l0, l1, l2, l3, l4, l5, l6, l7, .int y, .int x, l10, l11, l12, l13, l14, l15, l16, l17] S σ := (ms_G_at rfl _ _ _).trans rfl
theorem mi_31_53 : ms_G 31 53 [l0, l1, l2, l3, l4, l5, l6, l7, l8, .int x, l10, l11, l12, l13, l14, l15, l16, l17] S σ = ms_G 31 55 [l0, l1, l2, l3, l4, l5, l6, l7, l8, .int x, l10, l11, l12, l13, l14, l15, l16, l17] (.int x :: S) σ := (ms_G_at rfl _ _ _).trans rfl
theorem mi_31_55 : ms_G 31 55 L S σ = ms_G 31 56 L (.int (nI 4) :: S) σ := (ms_G_at rfl _ _ _).trans rfl
theorem mi_31_56 : ms_G 31 56 L (.int y :: .int x :: S) σ = if y ≤ x then ms_G 31 77 L S σ else ms_G 31 59 L S σ := mz_bra rfl rfl rfl
theorem mi_31_59 : ms_G 31 59 [.ref a, l1, l2, l3, l4, l5, l6, l7, l8, l9, l10, l11, l12, l13, l14, l15, l16, l17] S σ = ms_G 31 60 [.ref a, l1, l2, l3, l4, l5, l6, l7, l8, l9, l10, l11, l12, l13, l14, l15, l16, l17] (.ref a :: S) σ := (ms_G_at rfl _ _ _).trans rfl
theorem mi_31_60 : ms_G 31 60 L (.ref (ms_ad 40 0) :: S) (ms_Z q w I J) = ms_G 31 63 L (.ref (ms_ad 63 0) :: S) (ms_Z q w I J) := mz_getf (c := (2, 63)) rfl (by decide) rfl (by decide) rfl
theorem mi_31_63 : ms_G 31 63 [l0, l1, l2, l3, l4, l5, l6, l7, l8, .int x, l10, l11, l12, l13, l14, l15, l16, l17] S σ = ms_G 31 65 [l0, l1, l2, l3, l4, l5, l6, l7, l8, .int x, l10, l11, l12, l13, l14, l15, l16, l17] (.int x :: S) σ := (ms_G_at rfl _ _ _).trans rfl
theorem mi_31_65 : ms_G 31 65 L (.int x :: .ref b :: S) σ = ms_G 31 66 L (.int x :: .ref b :: .int x :: .ref b :: S) σ := (ms_G_at rfl _ _ _).trans rfl
theorem mi_31_66 : ms_G 31 66 L (.int (nI i) :: .ref (ms_ad r u) :: S) (ms_Z q w I J) = cond (mo_0 q.1 r u i) (ms_G 31 67 L (.int (I r u i) :: S) (ms_Z q w I J)) (ms_raw 31 66 L (.int (nI i) :: .ref (ms_ad r u) :: S) (ms_Z q w I J)) := mz_iald rfl
theorem mi_31_67 : ms_G 31 67 L S σ = ms_G 31 69 L (.int (nI 268435452) :: S) σ := (ms_G_at rfl _ _ _).trans rfl
theorem mi_31_69 : ms_G 31 69 L (.int y :: .int x :: S) σ = ms_G 31 70 L (.int (x &&& y) :: S) σ := (ms_G_at rfl _ _ _).trans rfl
theorem mi_31_70 : ms_G 31 70 L (.int x :: .int (nI i) :: .ref (ms_ad r u) :: S) (ms_Z q w I J) = cond (mo_0 q.1 r u i) (ms_G 31 71 L S (ms_Z q true (ms_u I r u (upd (I r u) i x)) J)) (ms_raw 31 70 L (.int x :: .int (nI i) :: .ref (ms_ad r u) :: S) (ms_Z q w I J)) := mz_iast rfl x
theorem mi_31_71 : ms_G 31 71 [l0, l1, l2, l3, l4, l5, l6, l7, .int y, .int x, l10, l11, l12, l13, l14, l15, l16, l17] S σ = ms_G 31 74 [l0, l1, l2, l3, l4, l5, l6, l7, .int y, .int (x + nI 1), l10, l11, l12, l13, l14, l15, l16, l17] S σ := (ms_G_at rfl _ _ _).trans rfl
theorem mi_31_74 : ms_G 31 74 L S σ = ms_G 31 53 L S σ := (ms_G_at rfl _ _ _).trans rfl
theorem mi_31_77 : ms_G 31 77 [.ref a, l1, l2, l3, l4, l5, l6, l7, l8, l9, l10, l11, l12, l13, l14, l15, l16, l17] S σ = ms_G 31 78 [.ref a, l1, l2, l3, l4, l5, l6, l7, l8, l9, l10, l11, l12, l13, l14, l15, l16, l17] (.ref a :: S) σ := (ms_G_at rfl _ _ _).trans rfl
theorem mi_31_78 : ms_G 31 78 L (.ref (ms_ad 40 0) :: S) (ms_Z q w I J) = ms_G 31 81 L (.ref (ms_ad 61 0) :: S) (ms_Z q w I J) := mz_getf (c := (2, 61)) rfl (by decide) rfl (by decide) rfl
theorem mi_31_81 : ms_G 31 81 [.ref a, l1, l2, l3, l4, l5, l6, l7, l8, l9, l10, l11, l12, l13, l14, l15, l16, l17] S σ = ms_G 31 82 [.ref a, l1, l2, l3, l4, l5, l6, l7, l8, l9, l10, l11, l12, l13, l14, l15, l16, l17] (.ref a :: S) σ := (ms_G_at rfl _ _ _).trans rfl
theorem mi_31_82 : ms_G 31 82 L (.ref (ms_ad 40 0) :: S) (ms_Z q w I J) = ms_G 31 85 L (.ref (ms_ad 63 0) :: S) (ms_Z q w I J) := mz_getf (c := (2, 63)) rfl (by decide) rfl (by decide) rfl
theorem mi_31_85 : ms_G 31 85 L S σ = ms_G 31 86 L (.int (nI 0) :: S) σ := (ms_G_at rfl _ _ _).trans rfl
theorem mi_31_86 : ms_G 31 86 L [.int x2, .ref a1, .ref a0] (ms_Z q w I J) = mo_cl 31 86 89 (ms_G 28 0 [.ref a0, .ref a1, .int x2, .null, .null, .null, .null, .null, .null, .null] [] (ms_Z q false I J)) w L [] := (mz_call rfl rfl (mz_can0 rfl rfl rfl rfl rfl)).trans rfl
theorem mi_31_89 : ms_G 31 89 L S σ = ms_G 31 90 L (.int (nI 0) :: S) σ := (ms_G_at rfl _ _ _).trans rfl
theorem mi_31_90 : ms_G 31 90 [l0, l1, l2, l3, l4, l5, l6, l7, .int y, l9, l10, l11, l12, l13, l14, l15, l16, l17] (.int x :: S) σ = ms_G 31 92 [l0, l1, l2, l3, l4, l5, l6, l7, .int y, .int x, l10, l11, l12, l13, l14, l15, l16, l17] S σ := (ms_G_at rfl _ _ _).trans rfl
theorem mi_31_92 : ms_G 31 92 [l0, l1, l2, l3, l4, l5, l6, l7, l8, .int x, l10, l11, l12, l13, l14, l15, l16, l17] S σ = ms_G 31 94 [l0, l1, l2, l3, l4, l5, l6, l7, l8, .int x, l10, l11, l12, l13, l14, l15, l16, l17] (.int x :: S) σ := (ms_G_at rfl _ _ _).trans rfl
theorem mi_31_94 : ms_G 31 94 L S σ = ms_G 31 95 L (.int (nI 4) :: S) σ := (ms_G_at rfl _ _ _).trans rfl
theorem mi_31_95 : ms_G 31 95 L (.int y :: .int x :: S) σ = if y ≤ x then ms_G 31 120 L S σ else ms_G 31 98 L S σ := mz_bra rfl rfl rfl
theorem mi_31_98 : ms_G 31 98 [.ref a, l1, l2, l3, l4, l5, l6, l7, l8, l9, l10, l11, l12, l13, l14, l15, l16, l17] S σ = ms_G 31 99 [.ref a, l1, l2, l3, l4, l5, l6, l7, l8, l9, l10, l11, l12, l13, l14, l15, l16, l17] (.ref a :: S) σ := (ms_G_at rfl _ _ _).trans rfl
theorem mi_31_99 : ms_G 31 99 L (.ref (ms_ad 40 0) :: S) (ms_Z q w I J) = ms_G 31 102 L (.ref (ms_ad 64 0) :: S) (ms_Z q w I J) := mz_getf (c := (2, 64)) rfl (by decide) rfl (by decide) rfl
theorem mi_31_102 : ms_G 31 102 [l0, l1, l2, l3, l4, l5, l6, l7, l8, .int x, l10, l11, l12, l13, l14, l15, l16, l17] S σ = ms_G 31 104 [l0, l1, l2, l3, l4, l5, l6, l7, l8, .int x, l10, l11, l12, l13, l14, l15, l16, l17] (.int x :: S) σ := (ms_G_at rfl _ _ _).trans rfl
theorem mi_31_104 : ms_G 31 104 [.ref a, l1, l2, l3, l4, l5, l6, l7, l8, l9, l10, l11, l12, l13, l14, l15, l16, l17] S σ = ms_G 31 105 [.ref a, l1, l2, l3, l4, l5, l6, l7, l8, l9, l10, l11, l12, l13, l14, l15, l16, l17] (.ref a :: S) σ := (ms_G_at rfl _ _ _).trans rfl
theorem mi_31_105 : ms_G 31 105 L (.ref (ms_ad 40 0) :: S) (ms_Z q w I J) = ms_G 31 108 L (.ref (ms_ad 59 0) :: S) (ms_Z q w I J) := mz_getf (c := (2, 59)) rfl (by decide) rfl (by decide) rfl
theorem mi_31_108 : ms_G 31 108 L S σ = ms_G 31 109 L (.int (nI 4) :: S) σ := (ms_G_at rfl _ _ _).trans rfl
theorem mi_31_109 : ms_G 31 109 [l0, l1, l2, l3, l4, l5, l6, l7, l8, .int x, l10, l11, l12, l13, l14, l15, l16, l17] S σ = ms_G 31 111 [l0, l1, l2, l3, l4, l5, l6, l7, l8, .int x, l10, l11, l12, l13, l14, l15, l16, l17] (.int x :: S) σ := (ms_G_at rfl _ _ _).trans rfl
theorem mi_31_111 : ms_G 31 111 L (.int y :: .int x :: S) σ = ms_G 31 112 L (.int (x + y) :: S) σ := (ms_G_at rfl _ _ _).trans rfl
theorem mi_31_112 : ms_G 31 112 L (.int (nI i) :: .ref (ms_ad r u) :: S) (ms_Z q w I J) = cond (mo_0 q.1 r u i) (ms_G 31 113 L (.int (I r u i) :: S) (ms_Z q w I J)) (ms_raw 31 112 L (.int (nI i) :: .ref (ms_ad r u) :: S) (ms_Z q w I J)) := mz_iald rfl
theorem mi_31_113 : ms_G 31 113 L (.int x :: .int (nI i) :: .ref (ms_ad r u) :: S) (ms_Z q w I J) = cond (mo_0 q.1 r u i) (ms_G 31 114 L S (ms_Z q true (ms_u I r u (upd (I r u) i x)) J)) (ms_raw 31 113 L (.int x :: .int (nI i) :: .ref (ms_ad r u) :: S) (ms_Z q w I J)) := mz_iast rfl x
theorem mi_31_114 : ms_G 31 114 [l0, l1, l2, l3, l4, l5, l6, l7, .int y, .int x, l10, l11, l12, l13, l14, l15, l16, l17] S σ = ms_G 31 117 [l0, l1, l2, l3, l4, l5, l6, l7, .int y, .int (x + nI 1), l10, l11, l12, l13, l14, l15, l16, l17] S σ := (ms_G_at rfl _ _ _).trans rfl
theorem mi_31_117 : ms_G 31 117 L S σ = ms_G 31 92 L S σ := (ms_G_at rfl _ _ _).trans rfl
theorem mi_31_120 : ms_G 31 120 L S σ = ms_G 31 121 L (.int (nI 0) :: S) σ := (ms_G_at rfl _ _ _).trans rfl
theorem mi_31_121 : ms_G 31 121 [l0, l1, l2, l3, l4, l5, l6, l7, .int y, l9, l10, l11, l12, l13, l14, l15, l16, l17] (.int x :: S) σ = ms_G 31 123 [l0, l1, l2, l3, l4, l5, l6, l7, .int y, .int x, l10, l11, l12, l13, l14, l15, l16, l17] S σ := (ms_G_at rfl _ _ _).trans rfl
theorem mi_31_123 : ms_G 31 123 [l0, l1, l2, l3, l4, l5, l6, l7, l8, .int x, l10, l11, l12, l13, l14, l15, l16, l17] S σ = ms_G 31 125 [l0, l1, l2, l3, l4, l5, l6, l7, l8, .int x, l10, l11, l12, l13, l14, l15, l16, l17] (.int x :: S) σ := (ms_G_at rfl _ _ _).trans rfl
theorem mi_31_125 : ms_G 31 125 L S σ = ms_G 31 127 L (.int (nI 10) :: S) σ := (ms_G_at rfl _ _ _).trans rfl
theorem mi_31_127 : ms_G 31 127 L (.int y :: .int x :: S) σ = if y ≤ x then ms_G 31 144 L S σ else ms_G 31 130 L S σ := mz_bra rfl rfl rfl
theorem mi_31_130 : ms_G 31 130 [.ref a, l1, l2, l3, l4, l5, l6, l7, l8, l9, l10, l11, l12, l13, l14, l15, l16, l17] S σ = ms_G 31 131 [.ref a, l1, l2, l3, l4, l5, l6, l7, l8, l9, l10, l11, l12, l13, l14, l15, l16, l17] (.ref a :: S) σ := (ms_G_at rfl _ _ _).trans rfl
theorem mi_31_131 : ms_G 31 131 L (.ref (ms_ad 40 0) :: S) (ms_Z q w I J) = ms_G 31 134 L (.ref (ms_ad 60 0) :: S) (ms_Z q w I J) := mz_getf (c := (2, 60)) rfl (by decide) rfl (by decide) rfl
theorem mi_31_134 : ms_G 31 134 [l0, l1, l2, l3, l4, l5, l6, l7, l8, .int x, l10, l11, l12, l13, l14, l15, l16, l17] S σ = ms_G 31 136 [l0, l1, l2, l3, l4, l5, l6, l7, l8, .int x, l10, l11, l12, l13, l14, l15, l16, l17] (.int x :: S) σ := (ms_G_at rfl _ _ _).trans rfl
theorem mi_31_136 : ms_G 31 136 L S σ = ms_G 31 137 L (.long (lN 0) :: S) σ := (ms_G_at rfl _ _ _).trans rfl
theorem mi_31_137 : ms_G 31 137 L (.long X :: .int (nI i) :: .ref (ms_ad r u) :: S) (ms_Z q w I J) = cond (mo_1 q.1 r u i) (ms_G 31 138 L S (ms_Z q true I (ms_u J r u (vp_updL (J r u) i X)))) (ms_raw 31 137 L (.long X :: .int (nI i) :: .ref (ms_ad r u) :: S) (ms_Z q w I J)) := mz_last rfl X
theorem mi_31_138 : ms_G 31 138 [l0, l1, l2, l3, l4, l5, l6, l7, .int y, .int x, l10, l11, l12, l13, l14, l15, l16, l17] S σ = ms_G 31 141 [l0, l1, l2, l3, l4, l5, l6, l7, .int y, .int (x + nI 1), l10, l11, l12, l13, l14, l15, l16, l17] S σ := (ms_G_at rfl _ _ _).trans rfl
theorem mi_31_141 : ms_G 31 141 L S σ = ms_G 31 123 L S σ := (ms_G_at rfl _ _ _).trans rfl
theorem mi_31_144 : ms_G 31 144 [.ref a, l1, l2, l3, l4, l5, l6, l7, l8, l9, l10, l11, l12, l13, l14, l15, l16, l17] S σ = ms_G 31 145 [.ref a, l1, l2, l3, l4, l5, l6, l7, l8, l9, l10, l11, l12, l13, l14, l15, l16, l17] (.ref a :: S) σ := (ms_G_at rfl _ _ _).trans rfl
theorem mi_31_145 : ms_G 31 145 L (.ref (ms_ad 40 0) :: S) (ms_Z q w I J) = ms_G 31 148 L (.ref (ms_ad 63 0) :: S) (ms_Z q w I J) := mz_getf (c := (2, 63)) rfl (by decide) rfl (by decide) rfl
theorem mi_31_148 : ms_G 31 148 L S σ = ms_G 31 149 L (.int (nI 0) :: S) σ := (ms_G_at rfl _ _ _).trans rfl
theorem mi_31_149 : ms_G 31 149 [l0, l1, l2, l3, l4, .int x, l6, l7, l8, l9, l10, l11, l12, l13, l14, l15, l16, l17] S σ = ms_G 31 151 [l0, l1, l2, l3, l4, .int x, l6, l7, l8, l9, l10, l11, l12, l13, l14, l15, l16, l17] (.int x :: S) σ := (ms_G_at rfl _ _ _).trans rfl
theorem mi_31_151 : ms_G 31 151 L (.int x :: .int (nI i) :: .ref (ms_ad r u) :: S) (ms_Z q w I J) = cond (mo_0 q.1 r u i) (ms_G 31 152 L S (ms_Z q true (ms_u I r u (upd (I r u) i x)) J)) (ms_raw 31 151 L (.int x :: .int (nI i) :: .ref (ms_ad r u) :: S) (ms_Z q w I J)) := mz_iast rfl x
theorem mi_31_152 : ms_G 31 152 [.ref a, l1, l2, l3, l4, l5, l6, l7, l8, l9, l10, l11, l12, l13, l14, l15, l16, l17] S σ = ms_G 31 153 [.ref a, l1, l2, l3, l4, l5, l6, l7, l8, l9, l10, l11, l12, l13, l14, l15, l16, l17] (.ref a :: S) σ := (ms_G_at rfl _ _ _).trans rfl
theorem mi_31_153 : ms_G 31 153 L (.ref (ms_ad 40 0) :: S) (ms_Z q w I J) = ms_G 31 156 L (.ref (ms_ad 63 0) :: S) (ms_Z q w I J) := mz_getf (c := (2, 63)) rfl (by decide) rfl (by decide) rfl
theorem mi_31_156 : ms_G 31 156 L S σ = ms_G 31 157 L (.int (nI 1) :: S) σ := (ms_G_at rfl _ _ _).trans rfl
theorem mi_31_157 : ms_G 31 157 [l0, l1, l2, l3, l4, l5, .int x, l7, l8, l9, l10, l11, l12, l13, l14, l15, l16, l17] S σ = ms_G 31 159 [l0, l1, l2, l3, l4, l5, .int x, l7, l8, l9, l10, l11, l12, l13, l14, l15, l16, l17] (.int x :: S) σ := (ms_G_at rfl _ _ _).trans rfl
theorem mi_31_159 : ms_G 31 159 L (.int x :: .int (nI i) :: .ref (ms_ad r u) :: S) (ms_Z q w I J) = cond (mo_0 q.1 r u i) (ms_G 31 160 L S (ms_Z q true (ms_u I r u (upd (I r u) i x)) J)) (ms_raw 31 159 L (.int x :: .int (nI i) :: .ref (ms_ad r u) :: S) (ms_Z q w I J)) := mz_iast rfl x
theorem mi_31_160 : ms_G 31 160 [.ref a, l1, l2, l3, l4, l5, l6, l7, l8, l9, l10, l11, l12, l13, l14, l15, l16, l17] S σ = ms_G 31 161 [.ref a, l1, l2, l3, l4, l5, l6, l7, l8, l9, l10, l11, l12, l13, l14, l15, l16, l17] (.ref a :: S) σ := (ms_G_at rfl _ _ _).trans rfl
theorem mi_31_161 : ms_G 31 161 L (.ref (ms_ad 40 0) :: S) (ms_Z q w I J) = ms_G 31 164 L (.ref (ms_ad 63 0) :: S) (ms_Z q w I J) := mz_getf (c := (2, 63)) rfl (by decide) rfl (by decide) rfl
theorem mi_31_164 : ms_G 31 164 L S σ = ms_G 31 165 L (.int (nI 2) :: S) σ := (ms_G_at rfl _ _ _).trans rfl
theorem mi_31_165 : ms_G 31 165 [l0, l1, l2, l3, l4, l5, l6, .int x, l8, l9, l10, l11, l12, l13, l14, l15, l16, l17] S σ = ms_G 31 167 [l0, l1, l2, l3, l4, l5, l6, .int x, l8, l9, l10, l11, l12, l13, l14, l15, l16, l17] (.int x :: S) σ := (ms_G_at rfl _ _ _).trans rfl
theorem mi_31_167 : ms_G 31 167 L (.int x :: .int (nI i) :: .ref (ms_ad r u) :: S) (ms_Z q w I J) = cond (mo_0 q.1 r u i) (ms_G 31 168 L S (ms_Z q true (ms_u I r u (upd (I r u) i x)) J)) (ms_raw 31 167 L (.int x :: .int (nI i) :: .ref (ms_ad r u) :: S) (ms_Z q w I J)) := mz_iast rfl x
theorem mi_31_168 : ms_G 31 168 [.ref a, l1, l2, l3, l4, l5, l6, l7, l8, l9, l10, l11, l12, l13, l14, l15, l16, l17] S σ = ms_G 31 169 [.ref a, l1, l2, l3, l4, l5, l6, l7, l8, l9, l10, l11, l12, l13, l14, l15, l16, l17] (.ref a :: S) σ := (ms_G_at rfl _ _ _).trans rfl
theorem mi_31_169 : ms_G 31 169 L (.ref (ms_ad 40 0) :: S) (ms_Z q w I J) = ms_G 31 172 L (.ref (ms_ad 63 0) :: S) (ms_Z q w I J) := mz_getf (c := (2, 63)) rfl (by decide) rfl (by decide) rfl
theorem mi_31_172 : ms_G 31 172 L S σ = ms_G 31 173 L (.int (nI 3) :: S) σ := (ms_G_at rfl _ _ _).trans rfl
theorem mi_31_173 : ms_G 31 173 [l0, l1, l2, l3, l4, l5, l6, l7, .int x, l9, l10, l11, l12, l13, l14, l15, l16, l17] S σ = ms_G 31 175 [l0, l1, l2, l3, l4, l5, l6, l7, .int x, l9, l10, l11, l12, l13, l14, l15, l16, l17] (.int x :: S) σ := (ms_G_at rfl _ _ _).trans rfl
theorem mi_31_175 : ms_G 31 175 L (.int x :: .int (nI i) :: .ref (ms_ad r u) :: S) (ms_Z q w I J) = cond (mo_0 q.1 r u i) (ms_G 31 176 L S (ms_Z q true (ms_u I r u (upd (I r u) i x)) J)) (ms_raw 31 175 L (.int x :: .int (nI i) :: .ref (ms_ad r u) :: S) (ms_Z q w I J)) := mz_iast rfl x
theorem mi_31_176 : ms_G 31 176 [.ref a, l1, l2, l3, l4, l5, l6, l7, l8, l9, l10, l11, l12, l13, l14, l15, l16, l17] S σ = ms_G 31 177 [.ref a, l1, l2, l3, l4, l5, l6, l7, l8, l9, l10, l11, l12, l13, l14, l15, l16, l17] (.ref a :: S) σ := (ms_G_at rfl _ _ _).trans rfl
theorem mi_31_177 : ms_G 31 177 L [.ref (ms_ad 40 0)] (ms_Z q w I J) = mo_cl 31 177 180 (ms_G 29 0 [.ref (ms_ad 40 0), .null, .null] [] (ms_Z q false I J)) w L [] := (mz_call rfl rfl (mz_can1 rfl rfl rfl rfl rfl (by decide) rfl (by decide))).trans rfl
theorem mi_31_180 : ms_G 31 180 [.ref a, l1, l2, l3, l4, l5, l6, l7, l8, l9, l10, l11, l12, l13, l14, l15, l16, l17] S σ = ms_G 31 181 [.ref a, l1, l2, l3, l4, l5, l6, l7, l8, l9, l10, l11, l12, l13, l14, l15, l16, l17] (.ref a :: S) σ := (ms_G_at rfl _ _ _).trans rfl
theorem mi_31_181 : ms_G 31 181 L (.ref (ms_ad 40 0) :: S) (ms_Z q w I J) = ms_G 31 184 L (.ref (ms_ad 63 0) :: S) (ms_Z q w I J) := mz_getf (c := (2, 63)) rfl (by decide) rfl (by decide) rfl
theorem mi_31_184 : ms_G 31 184 L S σ = ms_G 31 185 L (.int (nI 0) :: S) σ := (ms_G_at rfl _ _ _).trans rfl
theorem mi_31_185 : ms_G 31 185 L S σ = ms_G 31 186 L (.int (nI 0) :: S) σ := (ms_G_at rfl _ _ _).trans rfl
theorem mi_31_186 : ms_G 31 186 L (.int x :: .int (nI i) :: .ref (ms_ad r u) :: S) (ms_Z q w I J) = cond (mo_0 q.1 r u i) (ms_G 31 187 L S (ms_Z q true (ms_u I r u (upd (I r u) i x)) J)) (ms_raw 31 186 L (.int x :: .int (nI i) :: .ref (ms_ad r u) :: S) (ms_Z q w I J)) := mz_iast rfl x
theorem mi_31_187 : ms_G 31 187 [.ref a, l1, l2, l3, l4, l5, l6, l7, l8, l9, l10, l11, l12, l13, l14, l15, l16, l17] S σ = ms_G 31 188 [.ref a, l1, l2, l3, l4, l5, l6, l7, l8, l9, l10, l11, l12, l13, l14, l15, l16, l17] (.ref a :: S) σ := (ms_G_at rfl _ _ _).trans rfl
theorem mi_31_188 : ms_G 31 188 L (.ref (ms_ad 40 0) :: S) (ms_Z q w I J) = ms_G 31 191 L (.ref (ms_ad 63 0) :: S) (ms_Z q w I J) := mz_getf (c := (2, 63)) rfl (by decide) rfl (by decide) rfl
theorem mi_31_191 : ms_G 31 191 L S σ = ms_G 31 192 L (.int (nI 1) :: S) σ := (ms_G_at rfl _ _ _).trans rfl
theorem mi_31_192 : ms_G 31 192 L S σ = ms_G 31 193 L (.int (nI 0) :: S) σ := (ms_G_at rfl _ _ _).trans rfl
theorem mi_31_193 : ms_G 31 193 L (.int x :: .int (nI i) :: .ref (ms_ad r u) :: S) (ms_Z q w I J) = cond (mo_0 q.1 r u i) (ms_G 31 194 L S (ms_Z q true (ms_u I r u (upd (I r u) i x)) J)) (ms_raw 31 193 L (.int x :: .int (nI i) :: .ref (ms_ad r u) :: S) (ms_Z q w I J)) := mz_iast rfl x
theorem mi_31_194 : ms_G 31 194 [.ref a, l1, l2, l3, l4, l5, l6, l7, l8, l9, l10, l11, l12, l13, l14, l15, l16, l17] S σ = ms_G 31 195 [.ref a, l1, l2, l3, l4, l5, l6, l7, l8, l9, l10, l11, l12, l13, l14, l15, l16, l17] (.ref a :: S) σ := (ms_G_at rfl _ _ _).trans rfl
theorem mi_31_195 : ms_G 31 195 L (.ref (ms_ad 40 0) :: S) (ms_Z q w I J) = ms_G 31 198 L (.ref (ms_ad 63 0) :: S) (ms_Z q w I J) := mz_getf (c := (2, 63)) rfl (by decide) rfl (by decide) rfl
theorem mi_31_198 : ms_G 31 198 L S σ = ms_G 31 199 L (.int (nI 2) :: S) σ := (ms_G_at rfl _ _ _).trans rfl
theorem mi_31_199 : ms_G 31 199 L S σ = ms_G 31 201 L (.int (nI 16) :: S) σ := (ms_G_at rfl _ _ _).trans rfl
theorem mi_31_201 : ms_G 31 201 L (.int x :: .int (nI i) :: .ref (ms_ad r u) :: S) (ms_Z q w I J) = cond (mo_0 q.1 r u i) (ms_G 31 202 L S (ms_Z q true (ms_u I r u (upd (I r u) i x)) J)) (ms_raw 31 201 L (.int x :: .int (nI i) :: .ref (ms_ad r u) :: S) (ms_Z q w I J)) := mz_iast rfl x
theorem mi_31_202 : ms_G 31 202 [.ref a, l1, l2, l3, l4, l5, l6, l7, l8, l9, l10, l11, l12, l13, l14, l15, l16, l17] S σ = ms_G 31 203 [.ref a, l1, l2, l3, l4, l5, l6, l7, l8, l9, l10, l11, l12, l13, l14, l15, l16, l17] (.ref a :: S) σ := (ms_G_at rfl _ _ _).trans rfl
theorem mi_31_203 : ms_G 31 203 L (.ref (ms_ad 40 0) :: S) (ms_Z q w I J) = ms_G 31 206 L (.ref (ms_ad 63 0) :: S) (ms_Z q w I J) := mz_getf (c := (2, 63)) rfl (by decide) rfl (by decide) rfl
theorem mi_31_206 : ms_G 31 206 L S σ = ms_G 31 207 L (.int (nI 3) :: S) σ := (ms_G_at rfl _ _ _).trans rfl
theorem mi_31_207 : ms_G 31 207 L S σ = ms_G 31 208 L (.int (nI 0) :: S) σ := (ms_G_at rfl _ _ _).trans rfl
theorem mi_31_208 : ms_G 31 208 L (.int x :: .int (nI i) :: .ref (ms_ad r u) :: S) (ms_Z q w I J) = cond (mo_0 q.1 r u i) (ms_G 31 209 L S (ms_Z q true (ms_u I r u (upd (I r u) i x)) J)) (ms_raw 31 208 L (.int x :: .int (nI i) :: .ref (ms_ad r u) :: S) (ms_Z q w I J)) := mz_iast rfl x
theorem mi_31_209 : ms_G 31 209 [.ref a, l1, l2, l3, l4, l5, l6, l7, l8, l9, l10, l11, l12, l13, l14, l15, l16, l17] S σ = ms_G 31 210 [.ref a, l1, l2, l3, l4, l5, l6, l7, l8, l9, l10, l11, l12, l13, l14, l15, l16, l17] (.ref a :: S) σ := (ms_G_at rfl _ _ _).trans rfl
theorem mi_31_210 : ms_G 31 210 L [.ref (ms_ad 40 0)] (ms_Z q w I J) = mo_cl 31 210 213 (ms_G 29 0 [.ref (ms_ad 40 0), .null, .null] [] (ms_Z q false I J)) w L [] := (mz_call rfl rfl (mz_can1 rfl rfl rfl rfl rfl (by decide) rfl (by decide))).trans rfl
theorem mi_31_213 : ms_G 31 213 [.ref a, l1, l2, l3, l4, l5, l6, l7, l8, l9, l10, l11, l12, l13, l14, l15, l16, l17] S σ = ms_G 31 214 [.ref a, l1, l2, l3, l4, l5, l6, l7, l8, l9, l10, l11, l12, l13, l14, l15, l16, l17] (.ref a :: S) σ := (ms_G_at rfl _ _ _).trans rfl
theorem mi_31_214 : ms_G 31 214 L [.ref (ms_ad 40 0)] (ms_Z q w I J) = mo_cl 31 214 217 (ms_G 30 0 [.ref (ms_ad 40 0), .null, .null, .null] [] (ms_Z q false I J)) w L [] := (mz_call rfl rfl (mz_can1 rfl rfl rfl rfl rfl (by decide) rfl (by decide))).trans rfl
theorem mi_31_217 : ms_G 31 217 L S σ = ms_G 31 220 L (.long (lN 5) :: S) σ := (ms_G_at rfl _ _ _).trans rfl
theorem mi_31_220 : ms_G 31 220 [l0, l1, l2, l3, l4, l5, l6, l7, .int y, l9, l10, l11, l12, l13, l14, l15, l16, l17] (.long X :: S) σ = ms_G 31 222 [l0, l1, l2, l3, l4, l5, l6, l7, .int y, .long X, .null, l11, l12, l13, l14, l15, l16, l17] S σ := (ms_G_at rfl _ _ _).trans rfl
theorem mi_31_222 : ms_G 31 222 L S σ = ms_G 31 223 L (.int (nI 0) :: S) σ := (ms_G_at rfl _ _ _).trans rfl
theorem mi_31_223 : ms_G 31 223 [l0, l1, l2, l3, l4, l5, l6, l7, l8, l9, .null, l11, l12, l13, l14, l15, l16, l17] (.int x :: S) σ = ms_G 31 225 [l0, l1, l2, l3, l4, l5, l6, l7, l8, l9, .null, .int x, l12, l13, l14, l15, l16, l17] S σ := (ms_G_at rfl _ _ _).trans rfl
theorem mi_31_225 : ms_G 31 225 [l0, l1, l2, l3, l4, l5, l6, l7, l8, l9, l10, .int x, l12, l13, l14, l15, l16, l17] S σ = ms_G 31 227 [l0, l1, l2, l3, l4, l5, l6, l7, l8, l9, l10, .int x, l12, l13, l14, l15, l16, l17] (.int x :: S) σ := (ms_G_at rfl _ _ _).trans rfl
theorem mi_31_227 : ms_G 31 227 L S σ = ms_G 31 229 L (.int (nI 10) :: S) σ := (ms_G_at rfl _ _ _).trans rfl
theorem mi_31_229 : ms_G 31 229 L (.int y :: .int x :: S) σ = if y ≤ x then ms_G 31 253 L S σ else ms_G 31 232 L S σ := mz_bra rfl rfl rfl
theorem mi_31_232 : ms_G 31 232 [l0, l1, l2, l3, l4, l5, l6, l7, l8, .long X, l10, l11, l12, l13, l14, l15, l16, l17] S σ = ms_G 31 234 [l0, l1, l2, l3, l4, l5, l6, l7, l8, .long X, l10, l11, l12, l13, l14, l15, l16, l17] (.long X :: S) σ := (ms_G_at rfl _ _ _).trans rfl
theorem mi_31_234 : ms_G 31 234 [.ref a, l1, l2, l3, l4, l5, l6, l7, l8, l9, l10, l11, l12, l13, l14, l15, l16, l17] S σ = ms_G 31 235 [.ref a, l1, l2, l3, l4, l5, l6, l7, l8, l9, l10, l11, l12, l13, l14, l15, l16, l17] (.ref a :: S) σ := (ms_G_at rfl _ _ _).trans rfl
theorem mi_31_235 : ms_G 31 235 L (.ref (ms_ad 40 0) :: S) (ms_Z q w I J) = ms_G 31 238 L (.ref (ms_ad 60 0) :: S) (ms_Z q w I J) := mz_getf (c := (2, 60)) rfl (by decide) rfl (by decide) rfl
theorem mi_31_238 : ms_G 31 238 [l0, l1, l2, l3, l4, l5, l6, l7, l8, l9, l10, .int x, l12, l13, l14, l15, l16, l17] S σ = ms_G 31 240 [l0, l1, l2, l3, l4, l5, l6, l7, l8, l9, l10, .int x, l12, l13, l14, l15, l16, l17] (.int x :: S) σ := (ms_G_at rfl _ _ _).trans rfl
theorem mi_31_240 : ms_G 31 240 L (.int (nI i) :: .ref (ms_ad r u) :: S) (ms_Z q w I J) = cond (mo_1 q.1 r u i) (ms_G 31 241 L (.long (J r u i) :: S) (ms_Z q w I J)) (ms_raw 31 240 L (.int (nI i) :: .ref (ms_ad r u) :: S) (ms_Z q w I J)) := mz_lald rfl
theorem mi_31_241 : ms_G 31 241 L (.long Y :: .long X :: S) σ = ms_G 31 242 L (.long (X + Y) :: S) σ := (ms_G_at rfl _ _ _).trans rfl
theorem mi_31_242 : ms_G 31 242 L S σ = ms_G 31 244 L (.int (nI 13) :: S) σ := (ms_G_at rfl _ _ _).trans rfl
theorem mi_31_244 : ms_G 31 244 L (.int y :: .long X :: S) σ = ms_G 31 245 L (.long (X >>> (y.toInt64 &&& 63)) :: S) σ := (ms_G_at rfl _ _ _).trans rfl
theorem mi_31_245 : ms_G 31 245 [l0, l1, l2, l3, l4, l5, l6, l7, .int y, l9, l10, l11, l12, l13, l14, l15, l16, l17] (.long X :: S) σ = ms_G 31 247 [l0, l1, l2, l3, l4, l5, l6, l7, .int y, .long X, .null, l11, l12, l13, l14, l15, l16, l17] S σ := (ms_G_at rfl _ _ _).trans rfl
theorem mi_31_247 : ms_G 31 247 [l0, l1, l2, l3, l4, l5, l6, l7, l8, l9, .null, .int x, l12, l13, l14, l15, l16, l17] S σ = ms_G 31 250 [l0, l1, l2, l3, l4, l5, l6, l7, l8, l9, .null, .int (x + nI 1), l12, l13, l14, l15, l16, l17] S σ := (ms_G_at rfl _ _ _).trans rfl
theorem mi_31_250 : ms_G 31 250 L S σ = ms_G 31 225 L S σ := (ms_G_at rfl _ _ _).trans rfl
theorem mi_31_253 : ms_G 31 253 [.ref a, l1, l2, l3, l4, l5, l6, l7, l8, l9, l10, l11, l12, l13, l14, l15, l16, l17] S σ = ms_G 31 254 [.ref a, l1, l2, l3, l4, l5, l6, l7, l8, l9, l10, l11, l12, l13, l14, l15, l16, l17] (.ref a :: S) σ := (ms_G_at rfl _ _ _).trans rfl
theorem mi_31_254 : ms_G 31 254 L (.ref (ms_ad 40 0) :: S) (ms_Z q w I J) = ms_G 31 257 L (.ref (ms_ad 60 0) :: S) (ms_Z q w I J) := mz_getf (c := (2, 60)) rfl (by decide) rfl (by decide) rfl
theorem mi_31_257 : ms_G 31 257 L S σ = ms_G 31 258 L (.int (nI 0) :: S) σ := (ms_G_at rfl _ _ _).trans rfl
theorem mi_31_258 : ms_G 31 258 L (.int x :: .ref b :: S) σ = ms_G 31 259 L (.int x :: .ref b :: .int x :: .ref b :: S) σ := (ms_G_at rfl _ _ _).trans rfl
theorem mi_31_259 : ms_G 31 259 L (.int (nI i) :: .ref (ms_ad r u) :: S) (ms_Z q w I J) = cond (mo_1 q.1 r u i) (ms_G 31 260 L (.long (J r u i) :: S) (ms_Z q w I J)) (ms_raw 31 259 L (.int (nI i) :: .ref (ms_ad r u) :: S) (ms_Z q w I J)) := mz_lald rfl
theorem mi_31_260 : ms_G 31 260 L S σ = ms_G 31 263 L (.long (lN 5) :: S) σ := (ms_G_at rfl _ _ _).trans rfl
theorem mi_31_263 : ms_G 31 263 [l0, l1, l2, l3, l4, l5, l6, l7, l8, .long X, l10, l11, l12, l13, l14, l15, l16, l17] S σ = ms_G 31 265 [l0, l1, l2, l3, l4, l5, l6, l7, l8, .long X, l10, l11, l12, l13, l14, l15, l16, l17] (.long X :: S) σ := (ms_G_at rfl _ _ _).trans rfl
theorem mi_31_265 : ms_G 31 265 L (.long Y :: .long X :: S) σ = ms_G 31 266 L (.long (X * Y) :: S) σ := (ms_G_at rfl _ _ _).trans rfl
theorem mi_31_266 : ms_G 31 266 L (.long Y :: .long X :: S) σ = ms_G 31 267 L (.long (X + Y) :: S) σ := (ms_G_at rfl _ _ _).trans rfl
theorem mi_31_267 : ms_G 31 267 L (.long X :: .int (nI i) :: .ref (ms_ad r u) :: S) (ms_Z q w I J) = cond (mo_1 q.1 r u i) (ms_G 31 268 L S (ms_Z q true I (ms_u J r u (vp_updL (J r u) i X)))) (ms_raw 31 267 L (.long X :: .int (nI i) :: .ref (ms_ad r u) :: S) (ms_Z q w I J)) := mz_last rfl X
theorem mi_31_268 : ms_G 31 268 [.ref a, l1, l2, l3, l4, l5, l6, l7, l8, l9, l10, l11, l12, l13, l14, l15, l16, l17] S σ = ms_G 31 269 [.ref a, l1, l2, l3, l4, l5, l6, l7, l8, l9, l10, l11, l12, l13, l14, l15, l16, l17] (.ref a :: S) σ := (ms_G_at rfl _ _ _).trans rfl
theorem mi_31_269 : ms_G 31 269 L [.ref (ms_ad 40 0)] (ms_Z q w I J) = mo_cl 31 269 272 (ms_G 32 0 [.ref (ms_ad 40 0), .null, .null, .null] [] (ms_Z q false I J)) w L [] := (mz_call rfl rfl (mz_can1 rfl rfl rfl rfl rfl (by decide) rfl (by decide))).trans rfl
theorem mi_31_272 : ms_G 31 272 L S σ = ms_G 31 273 L (.long (lN 0) :: S) σ := (ms_G_at rfl _ _ _).trans rfl
theorem mi_31_273 : ms_G 31 273 [l0, l1, l2, l3, l4, l5, l6, l7, l8, l9, .null, l11, l12, l13, l14, l15, l16, l17] (.long X :: S) σ = ms_G 31 275 [l0, l1, l2, l3, l4, l5, l6, l7, l8, l9, .null, .long X, .null, l13, l14, l15, l16, l17] S σ := (ms_G_at rfl _ _ _).trans rfl
theorem mi_31_275 : ms_G 31 275 L S σ = ms_G 31 276 L (.int (nI 0) :: S) σ := (ms_G_at rfl _ _ _).trans rfl
theorem mi_31_276 : ms_G 31 276 [l0, l1, l2, l3, l4, l5, l6, l7, l8, l9, l10, l11, .null, l13, l14, l15, l16, l17] (.int x :: S) σ = ms_G 31 278 [l0, l1, l2, l3, l4, l5, l6, l7, l8, l9, l10, l11, .null, .int x, l14, l15, l16, l17] S σ := (ms_G_at rfl _ _ _).trans rfl
theorem mi_31_278 : ms_G 31 278 [l0, l1, l2, l3, l4, l5, l6, l7, l8, l9, l10, l11, l12, .int x, l14, l15, l16, l17] S σ = ms_G 31 280 [l0, l1, l2, l3, l4, l5, l6, l7, l8, l9, l10, l11, l12, .int x, l14, l15, l16, l17] (.int x :: S) σ := (ms_G_at rfl _ _ _).trans rfl
theorem mi_31_280 : ms_G 31 280 L S σ = ms_G 31 281 L (.int (nI 4) :: S) σ := (ms_G_at rfl _ _ _).trans rfl
theorem mi_31_281 : ms_G 31 281 L (.int y :: .int x :: S) σ = if y ≤ x then ms_G 31 382 L S σ else ms_G 31 284 L S σ := mz_bra rfl rfl rfl
theorem mi_31_284 : ms_G 31 284 L S σ = ms_G 31 285 L (.long (lN 0) :: S) σ := (ms_G_at rfl _ _ _).trans rfl
theorem mi_31_285 : ms_G 31 285 [l0, l1, l2, l3, l4, l5, l6, l7, l8, l9, l10, l11, l12, .int y, l14, l15, l16, l17] (.long X :: S) σ = ms_G 31 287 [l0, l1, l2, l3, l4, l5, l6, l7, l8, l9, l10, l11, l12, .int y, .long X, .null, l16, l17] S σ := (ms_G_at rfl _ _ _).trans rfl
theorem mi_31_287 : ms_G 31 287 L S σ = ms_G 31 288 L (.int (nI 0) :: S) σ := (ms_G_at rfl _ _ _).trans rfl
theorem mi_31_288 : ms_G 31 288 [l0, l1, l2, l3, l4, l5, l6, l7, l8, l9, l10, l11, l12, l13, l14, .null, l16, l17] (.int x :: S) σ = ms_G 31 290 [l0, l1, l2, l3, l4, l5, l6, l7, l8, l9, l10, l11, l12, l13, l14, .null, .int x, l17] S σ := (ms_G_at rfl _ _ _).trans rfl
theorem mi_31_290 : ms_G 31 290 [l0, l1, l2, l3, l4, l5, l6, l7, l8, l9, l10, l11, l12, l13, l14, l15, .int x, l17] S σ = ms_G 31 292 [l0, l1, l2, l3, l4, l5, l6, l7, l8, l9, l10, l11, l12, l13, l14, l15, .int x, l17] (.int x :: S) σ := (ms_G_at rfl _ _ _).trans rfl
theorem mi_31_292 : ms_G 31 292 L S σ = ms_G 31 294 L (.int (nI 32) :: S) σ := (ms_G_at rfl _ _ _).trans rfl
theorem mi_31_294 : ms_G 31 294 L (.int y :: .int x :: S) σ = if y ≤ x then ms_G 31 339 L S σ else ms_G 31 297 L S σ := mz_bra rfl rfl rfl
theorem mi_31_297 : ms_G 31 297 L S σ = ms_G 31 299 L (.int (nI 32) :: S) σ := (ms_G_at rfl _ _ _).trans rfl
theorem mi_31_299 : ms_G 31 299 [l0, l1, l2, l3, l4, l5, l6, l7, l8, l9, l10, l11, l12, .int x, l14, l15, l16, l17] S σ = ms_G 31 301 [l0, l1, l2, l3, l4, l5, l6, l7, l8, l9, l10, l11, l12, .int x, l14, l15, l16, l17] (.int x :: S) σ := (ms_G_at rfl _ _ _).trans rfl
theorem mi_31_301 : ms_G 31 301 L (.int y :: .int x :: S) σ = ms_G 31 302 L (.int (x * y) :: S) σ := (ms_G_at rfl _ _ _).trans rfl
theorem mi_31_302 : ms_G 31 302 [l0, l1, l2, l3, l4, l5, l6, l7, l8, l9, l10, l11, l12, l13, l14, l15, .int x, l17] S σ = ms_G 31 304 [l0, l1, l2, l3, l4, l5, l6, l7, l8, l9, l10, l11, l12, l13, l14, l15, .int x, l17] (.int x :: S) σ := (ms_G_at rfl _ _ _).trans rfl
theorem mi_31_304 : ms_G 31 304 L (.int y :: .int x :: S) σ = ms_G 31 305 L (.int (x + y) :: S) σ := (ms_G_at rfl _ _ _).trans rfl
theorem mi_31_305 : ms_G 31 305 [l0, l1, l2, l3, l4, l5, l6, l7, l8, l9, l10, l11, l12, l13, l14, l15, .int y, l17] (.int x :: S) σ = ms_G 31 307 [l0, l1, l2, l3, l4, l5, l6, l7, l8, l9, l10, l11, l12, l13, l14, l15, .int y, .int x] S σ := (ms_G_at rfl _ _ _).trans rfl
theorem mi_31_307 : ms_G 31 307 [l0, l1, l2, l3, l4, l5, l6, l7, l8, l9, l10, l11, l12, l13, .long X, l15, l16, l17] S σ = ms_G 31 309 [l0, l1, l2, l3, l4, l5, l6, l7, l8, l9, l10, l11, l12, l13, .long X, l15, l16, l17] (.long X :: S) σ := (ms_G_at rfl _ _ _).trans rfl
theorem mi_31_309 : ms_G 31 309 [.ref a, l1, l2, l3, l4, l5, l6, l7, l8, l9, l10, l11, l12, l13, l14, l15, l16, l17] S σ = ms_G 31 310 [.ref a, l1, l2, l3, l4, l5, l6, l7, l8, l9, l10, l11, l12, l13, l14, l15, l16, l17] (.ref a :: S) σ := (ms_G_at rfl _ _ _).trans rfl
theorem mi_31_310 : ms_G 31 310 L (.ref (ms_ad 40 0) :: S) (ms_Z q w I J) = ms_G 31 313 L (.ref (ms_ad 60 0) :: S) (ms_Z q w I J) := mz_getf (c := (2, 60)) rfl (by decide) rfl (by decide) rfl
theorem mi_31_313 : ms_G 31 313 [l0, l1, l2, l3, l4, l5, l6, l7, l8, l9, l10, l11, l12, l13, l14, l15, l16, .int x] S σ = ms_G 31 315 [l0, l1, l2, l3, l4, l5, l6, l7, l8, l9, l10, l11, l12, l13, l14, l15, l16, .int x] (.int x :: S) σ := (ms_G_at rfl _ _ _).trans rfl
theorem mi_31_315 : ms_G 31 315 L S σ = ms_G 31 317 L (.int (nI 13) :: S) σ := (ms_G_at rfl _ _ _).trans rfl
set_option maxRecDepth 20000 in
theorem mi_31_317 : ms_G 31 317 L (.int (nI 13) :: .int x :: S) σ = ms_G 31 318 L (.int (x / nI 13) :: S) σ := (ms_G_at rfl _ _ _).trans rfl
set_option maxRecDepth 20000 in
theorem mi_31_318 : ms_G 31 318 L (.int (nI i) :: .ref (ms_ad r u) :: S) (ms_Z q w I J) = cond (mo_1 q.1 r u i) (ms_G 31 319 L (.long (J r u i) :: S) (ms_Z q w I J)) (ms_raw 31 318 L (.int (nI i) :: .ref (ms_ad r u) :: S) (ms_Z q w I J)) := mz_lald rfl
set_option maxRecDepth 20000 in
theorem mi_31_319 : ms_G 31 319 [l0, l1, l2, l3, l4, l5, l6, l7, l8, l9, l10, l11, l12, l13, l14, l15, l16, .int x] S σ = ms_G 31 321 [l0, l1, l2, l3, l4, l5, l6, l7, l8, l9, l10, l11, l12, l13, l14, l15, l16, .int x] (.int x :: S) σ := (ms_G_at rfl _ _ _).trans rfl
set_option maxRecDepth 20000 in
theorem mi_31_321 : ms_G 31 321 L S σ = ms_G 31 323 L (.int (nI 13) :: S) σ := (ms_G_at rfl _ _ _).trans rfl
set_option maxRecDepth 20000 in
theorem mi_31_323 : ms_G 31 323 L (.int (nI 13) :: .int x :: S) σ = ms_G 31 324 L (.int (x - x / nI 13 * nI 13) :: S) σ := (ms_G_at rfl _ _ _).trans rfl
set_option maxRecDepth 20000 in
theorem mi_31_324 : ms_G 31 324 L (.int y :: .long X :: S) σ = ms_G 31 325 L (.long (X >>> (y.toInt64 &&& 63)) :: S) σ := (ms_G_at rfl _ _ _).trans rfl
set_option maxRecDepth 20000 in
theorem mi_31_325 : ms_G 31 325 L S σ = ms_G 31 326 L (.long (lN 1) :: S) σ := (ms_G_at rfl _ _ _).trans rfl
set_option maxRecDepth 20000 in
theorem mi_31_326 : ms_G 31 326 L (.long Y :: .long X :: S) σ = ms_G 31 327 L (.long (X &&& Y) :: S) σ := (ms_G_at rfl _ _ _).trans rfl
set_option maxRecDepth 20000 in
theorem mi_31_327 : ms_G 31 327 [l0, l1, l2, l3, l4, l5, l6, l7, l8, l9, l10, l11, l12, l13, l14, l15, .int x, l17] S σ = ms_G 31 329 [l0, l1, l2, l3, l4, l5, l6, l7, l8, l9, l10, l11, l12, l13, l14, l15, .int x, l17] (.int x :: S) σ := (ms_G_at rfl _ _ _).trans rfl
set_option maxRecDepth 20000 in
theorem mi_31_329 : ms_G 31 329 L (.int y :: .long X :: S) σ = ms_G 31 330 L (.long (X <<< (y.toInt64 &&& 63)) :: S) σ := (ms_G_at rfl _ _ _).trans rfl
set_option maxRecDepth 20000 in
theorem mi_31_330 : ms_G 31 330 L (.long Y :: .long X :: S) σ = ms_G 31 331 L (.long (X ||| Y) :: S) σ := (ms_G_at rfl _ _ _).trans rfl
set_option maxRecDepth 20000 in
theorem mi_31_331 : ms_G 31 331 [l0, l1, l2, l3, l4, l5, l6, l7, l8, l9, l10, l11, l12, .int y, l14, l15, l16, l17] (.long X :: S) σ = ms_G 31 333 [l0, l1, l2, l3, l4, l5, l6, l7, l8, l9, l10, l11, l12, .int y, .long X, .null, l16, l17] S σ := (ms_G_at rfl _ _ _).trans rfl
set_option maxRecDepth 20000 in
theorem mi_31_333 : ms_G 31 333 [l0, l1, l2, l3, l4, l5, l6, l7, l8, l9, l10, l11, l12, l13, l14, .null, .int x, l17] S σ = ms_G 31 336 [l0, l1, l2, l3, l4, l5, l6, l7, l8, l9, l10, l11, l12, l13, l14, .null, .int (x + nI 1), l17] S σ := (ms_G_at rfl _ _ _).trans rfl
set_option maxRecDepth 20000 in
theorem mi_31_336 : ms_G 31 336 L S σ = ms_G 31 290 L S σ := (ms_G_at rfl _ _ _).trans rfl
set_option maxRecDepth 20000 in
theorem mi_31_339 : ms_G 31 339 [l0, l1, l2, l3, l4, l5, l6, l7, l8, l9, l10, .long X, l12, l13, l14, l15, l16, l17] S σ = ms_G 31 341 [l0, l1, l2, l3, l4, l5, l6, l7, l8, l9, l10, .long X, l12, l13, l14, l15, l16, l17] (.long X :: S) σ := (ms_G_at rfl _ _ _).trans rfl
set_option maxRecDepth 20000 in
theorem mi_31_341 : ms_G 31 341 [l0, l1, l2, l3, l4, l5, l6, l7, l8, l9, l10, l11, l12, l13, .long X, l15, l16, l17] S σ = ms_G 31 343 [l0, l1, l2, l3, l4, l5, l6, l7, l8, l9, l10, l11, l12, l13, .long X, l15, l16, l17] (.long X :: S) σ := (ms_G_at rfl _ _ _).trans rfl
set_option maxRecDepth 20000 in
theorem mi_31_343 : ms_G 31 343 [.ref a, l1, l2, l3, l4, l5, l6, l7, l8, l9, l10, l11, l12, l13, l14, l15, l16, l17] S σ = ms_G 31 344 [.ref a, l1, l2, l3, l4, l5, l6, l7, l8, l9, l10, l11, l12, l13, l14, l15, l16, l17] (.ref a :: S) σ := (ms_G_at rfl _ _ _).trans rfl
set_option maxRecDepth 20000 in
theorem mi_31_344 : ms_G 31 344 L (.ref (ms_ad 40 0) :: S) (ms_Z q w I J) = ms_G 31 347 L (.ref (ms_ad 64 0) :: S) (ms_Z q w I J) := mz_getf (c := (2, 64)) rfl (by decide) rfl (by decide) rfl
set_option maxRecDepth 20000 in
theorem mi_31_347 : ms_G 31 347 [l0, l1, l2, l3, l4, l5, l6, l7, l8, l9, l10, l11, l12, .int x, l14, l15, l16, l17] S σ = ms_G 31 349 [l0, l1, l2, l3, l4, l5, l6, l7, l8, l9, l10, l11, l12, .int x, l14, l15, l16, l17] (.int x :: S) σ := (ms_G_at rfl _ _ _).trans rfl
set_option maxRecDepth 20000 in
theorem mi_31_349 : ms_G 31 349 L (.int (nI i) :: .ref (ms_ad r u) :: S) (ms_Z q w I J) = cond (mo_0 q.1 r u i) (ms_G 31 350 L (.int (I r u i) :: S) (ms_Z q w I J)) (ms_raw 31 349 L (.int (nI i) :: .ref (ms_ad r u) :: S) (ms_Z q w I J)) := mz_iald rfl
set_option maxRecDepth 20000 in
theorem mi_31_350 : ms_G 31 350 L (.int x :: S) σ = ms_G 31 351 L (.long x.toInt64 :: S) σ := (ms_G_at rfl _ _ _).trans rfl
set_option maxRecDepth 20000 in
theorem mi_31_351 : ms_G 31 351 L S σ = ms_G 31 354 L (.long (lN 4294967295) :: S) σ := (ms_G_at rfl _ _ _).trans rfl
set_option maxRecDepth 20000 in
theorem mi_31_354 : ms_G 31 354 L (.long Y :: .long X :: S) σ = ms_G 31 355 L (.long (X &&& Y) :: S) σ := (ms_G_at rfl _ _ _).trans rfl
set_option maxRecDepth 20000 in
theorem mi_31_355 : ms_G 31 355 L (.long Y :: .long X :: S) σ = ms_G 31 356 L (.long (X + Y) :: S) σ := (ms_G_at rfl _ _ _).trans rfl
set_option maxRecDepth 20000 in
theorem mi_31_356 : ms_G 31 356 L (.long Y :: .long X :: S) σ = ms_G 31 357 L (.long (X + Y) :: S) σ := (ms_G_at rfl _ _ _).trans rfl
set_option maxRecDepth 20000 in
theorem mi_31_357 : ms_G 31 357 [l0, l1, l2, l3, l4, l5, l6, l7, l8, l9, .null, l11, l12, l13, l14, l15, l16, l17] (.long X :: S) σ = ms_G 31 359 [l0, l1, l2, l3, l4, l5, l6, l7, l8, l9, .null, .long X, .null, l13, l14, l15, l16, l17] S σ := (ms_G_at rfl _ _ _).trans rfl
set_option maxRecDepth 20000 in
theorem mi_31_359 : ms_G 31 359 [.ref a, l1, l2, l3, l4, l5, l6, l7, l8, l9, l10, l11, l12, l13, l14, l15, l16, l17] S σ = ms_G 31 360 [.ref a, l1, l2, l3, l4, l5, l6, l7, l8, l9, l10, l11, l12, l13, l14, l15, l16, l17] (.ref a :: S) σ := (ms_G_at rfl _ _ _).trans rfl
set_option maxRecDepth 20000 in
theorem mi_31_360 : ms_G 31 360 L (.ref (ms_ad 40 0) :: S) (ms_Z q w I J) = ms_G 31 363 L (.ref (ms_ad 64 0) :: S) (ms_Z q w I J) := mz_getf (c := (2, 64)) rfl (by decide) rfl (by decide) rfl
set_option maxRecDepth 20000 in
theorem mi_31_363 : ms_G 31 363 [l0, l1, l2, l3, l4, l5, l6, l7, l8, l9, l10, l11, l12, .int x, l14, l15, l16, l17] S σ = ms_G 31 365 [l0, l1, l2, l3, l4, l5, l6, l7, l8, l9, l10, l11, l12, .int x, l14, l15, l16, l17] (.int x :: S) σ := (ms_G_at rfl _ _ _).trans rfl
set_option maxRecDepth 20000 in
theorem mi_31_365 : ms_G 31 365 [l0, l1, l2, l3, l4, l5, l6, l7, l8, l9, l10, .long X, l12, l13, l14, l15, l16, l17] S σ = ms_G 31 367 [l0, l1, l2, l3, l4, l5, l6, l7, l8, l9, l10, .long X, l12, l13, l14, l15, l16, l17] (.long X :: S) σ := (ms_G_at rfl _ _ _).trans rfl
set_option maxRecDepth 20000 in
theorem mi_31_367 : ms_G 31 367 L (.long X :: S) σ = ms_G 31 368 L (.int X.toInt32 :: S) σ := (ms_G_at rfl _ _ _).trans rfl
set_option maxRecDepth 20000 in
theorem mi_31_368 : ms_G 31 368 L (.int x :: .int (nI i) :: .ref (ms_ad r u) :: S) (ms_Z q w I J) = cond (mo_0 q.1 r u i) (ms_G 31 369 L S (ms_Z q true (ms_u I r u (upd (I r u) i x)) J)) (ms_raw 31 368 L (.int x :: .int (nI i) :: .ref (ms_ad r u) :: S) (ms_Z q w I J)) := mz_iast rfl x
set_option maxRecDepth 20000 in
theorem mi_31_369 : ms_G 31 369 [l0, l1, l2, l3, l4, l5, l6, l7, l8, l9, l10, .long X, l12, l13, l14, l15, l16, l17] S σ = ms_G 31 371 [l0, l1, l2, l3, l4, l5, l6, l7, l8, l9, l10, .long X, l12, l13, l14, l15, l16, l17] (.long X :: S) σ := (ms_G_at rfl _ _ _).trans rfl
set_option maxRecDepth 20000 in
theorem mi_31_371 : ms_G 31 371 L S σ = ms_G 31 373 L (.int (nI 32) :: S) σ := (ms_G_at rfl _ _ _).trans rfl
set_option maxRecDepth 20000 in
theorem mi_31_373 : ms_G 31 373 L (.int y :: .long X :: S) σ = ms_G 31 374 L (.long (X >>> (y.toInt64 &&& 63)) :: S) σ := (ms_G_at rfl _ _ _).trans rfl
set_option maxRecDepth 20000 in
theorem mi_31_374 : ms_G 31 374 [l0, l1, l2, l3, l4, l5, l6, l7, l8, l9, .null, l11, l12, l13, l14, l15, l16, l17] (.long X :: S) σ = ms_G 31 376 [l0, l1, l2, l3, l4, l5, l6, l7, l8, l9, .null, .long X, .null, l13, l14, l15, l16, l17] S σ := (ms_G_at rfl _ _ _).trans rfl
set_option maxRecDepth 20000 in
theorem mi_31_376 : ms_G 31 376 [l0, l1, l2, l3, l4, l5, l6, l7, l8, l9, l10, l11, .null, .int x, l14, l15, l16, l17] S σ = ms_G 31 379 [l0, l1, l2, l3, l4, l5, l6, l7, l8, l9, l10, l11, .null, .int (x + nI 1), l14, l15, l16, l17] S σ := (ms_G_at rfl _ _ _).trans rfl
set_option maxRecDepth 20000 in
theorem mi_31_379 : ms_G 31 379 L S σ = ms_G 31 278 L S σ := (ms_G_at rfl _ _ _).trans rfl
set_option maxRecDepth 20000 in
theorem mi_31_382 : ms_G 31 382 L [] σ = some (.inl none, σ) := (ms_G_at rfl _ _ _).trans rfl
-- MaskedSumModel.settle13()V
theorem mi_32_0 : ms_G 32 0 L S σ = ms_G 32 1 L (.long (lN 0) :: S) σ := (ms_G_at rfl _ _ _).trans rfl
theorem mi_32_1 : ms_G 32 1 [.ref b, l1, l2, l3] (.long X :: S) σ = ms_G 32 2 [.ref b, .long X, .null, l3] S σ := (ms_G_at rfl _ _ _).trans rfl
theorem mi_32_2 : ms_G 32 2 L S σ = ms_G 32 3 L (.int (nI 0) :: S) σ := (ms_G_at rfl _ _ _).trans rfl
theorem mi_32_3 : ms_G 32 3 [l0, l1, .null, l3] (.int x :: S) σ = ms_G 32 4 [l0, l1, .null, .int x] S σ := (ms_G_at rfl _ _ _).trans rfl
theorem mi_32_4 : ms_G 32 4 [l0, l1, l2, .int x] S σ = ms_G 32 5 [l0, l1, l2, .int x] (.int x :: S) σ := (ms_G_at rfl _ _ _).trans rfl
theorem mi_32_5 : ms_G 32 5 L S σ = ms_G 32 7 L (.int (nI 10) :: S) σ := (ms_G_at rfl _ _ _).trans rfl
theorem mi_32_7 : ms_G 32 7 L (.int y :: .int x :: S) σ = if y ≤ x then ms_G 32 41 L S σ else ms_G 32 10 L S σ := mz_bra rfl rfl rfl
theorem mi_32_10 : ms_G 32 10 [l0, .long X, l2, l3] S σ = ms_G 32 11 [l0, .long X, l2, l3] (.long X :: S) σ := (ms_G_at rfl _ _ _).trans rfl
theorem mi_32_11 : ms_G 32 11 [.ref a, l1, l2, l3] S σ = ms_G 32 12 [.ref a, l1, l2, l3] (.ref a :: S) σ := (ms_G_at rfl _ _ _).trans rfl
theorem mi_32_12 : ms_G 32 12 L (.ref (ms_ad 40 0) :: S) (ms_Z q w I J) = ms_G 32 15 L (.ref (ms_ad 60 0) :: S) (ms_Z q w I J) := mz_getf (c := (2, 60)) rfl (by decide) rfl (by decide) rfl
theorem mi_32_15 : ms_G 32 15 [l0, l1, l2, .int x] S σ = ms_G 32 16 [l0, l1, l2, .int x] (.int x :: S) σ := (ms_G_at rfl _ _ _).trans rfl
theorem mi_32_16 : ms_G 32 16 L (.int (nI i) :: .ref (ms_ad r u) :: S) (ms_Z q w I J) = cond (mo_1 q.1 r u i) (ms_G 32 17 L (.long (J r u i) :: S) (ms_Z q w I J)) (ms_raw 32 16 L (.int (nI i) :: .ref (ms_ad r u) :: S) (ms_Z q w I J)) := mz_lald rfl
theorem mi_32_17 : ms_G 32 17 L (.long Y :: .long X :: S) σ = ms_G 32 18 L (.long (X + Y) :: S) σ := (ms_G_at rfl _ _ _).trans rfl
theorem mi_32_18 : ms_G 32 18 [.ref b, l1, l2, l3] (.long X :: S) σ = ms_G 32 19 [.ref b, .long X, .null, l3] S σ := (ms_G_at rfl _ _ _).trans rfl
theorem mi_32_19 : ms_G 32 19 [.ref a, l1, l2, l3] S σ = ms_G 32 20 [.ref a, l1, l2, l3] (.ref a :: S) σ := (ms_G_at rfl _ _ _).trans rfl
theorem mi_32_20 : ms_G 32 20 L (.ref (ms_ad 40 0) :: S) (ms_Z q w I J) = ms_G 32 23 L (.ref (ms_ad 60 0) :: S) (ms_Z q w I J) := mz_getf (c := (2, 60)) rfl (by decide) rfl (by decide) rfl
theorem mi_32_23 : ms_G 32 23 [l0, l1, l2, .int x] S σ = ms_G 32 24 [l0, l1, l2, .int x] (.int x :: S) σ := (ms_G_at rfl _ _ _).trans rfl
theorem mi_32_24 : ms_G 32 24 [l0, .long X, l2, l3] S σ = ms_G 32 25 [l0, .long X, l2, l3] (.long X :: S) σ := (ms_G_at rfl _ _ _).trans rfl
theorem mi_32_25 : ms_G 32 25 L S σ = ms_G 32 28 L (.long (lN 8191) :: S) σ := (ms_G_at rfl _ _ _).trans rfl
theorem mi_32_28 : ms_G 32 28 L (.long Y :: .long X :: S) σ = ms_G 32 29 L (.long (X &&& Y) :: S) σ := (ms_G_at rfl _ _ _).trans rfl
theorem mi_32_29 : ms_G 32 29 L (.long X :: .int (nI i) :: .ref (ms_ad r u) :: S) (ms_Z q w I J) = cond (mo_1 q.1 r u i) (ms_G 32 30 L S (ms_Z q true I (ms_u J r u (vp_updL (J r u) i X)))) (ms_raw 32 29 L (.long X :: .int (nI i) :: .ref (ms_ad r u) :: S) (ms_Z q w I J)) := mz_last rfl X
theorem mi_32_30 : ms_G 32 30 [l0, .long X, l2, l3] S σ = ms_G 32 31 [l0, .long X, l2, l3] (.long X :: S) σ := (ms_G_at rfl _ _ _).trans rfl
theorem mi_32_31 : ms_G 32 31 L S σ = ms_G 32 33 L (.int (nI 13) :: S) σ := (ms_G_at rfl _ _ _).trans rfl
theorem mi_32_33 : ms_G 32 33 L (.int y :: .long X :: S) σ = ms_G 32 34 L (.long (X >>> (y.toInt64 &&& 63)) :: S) σ := (ms_G_at rfl _ _ _).trans rfl
theorem mi_32_34 : ms_G 32 34 [.ref b, l1, l2, l3] (.long X :: S) σ = ms_G 32 35 [.ref b, .long X, .null, l3] S σ := (ms_G_at rfl _ _ _).trans rfl
theorem mi_32_35 : ms_G 32 35 [l0, l1, .null, .int x] S σ = ms_G 32 38 [l0, l1, .null, .int (x + nI 1)] S σ := (ms_G_at rfl _ _ _).trans rfl
theorem mi_32_38 : ms_G 32 38 L S σ = ms_G 32 4 L S σ := (ms_G_at rfl _ _ _).trans rfl
theorem mi_32_41 : ms_G 32 41 L [] σ = some (.inl none, σ) := (ms_G_at rfl _ _ _).trans rfl
-- MaskedSumModel.agreed(IIJ)J
theorem mi_33_0 : ms_G 33 0 [l0, .int x, l2, l3, l4] S σ = ms_G 33 1 [l0, .int x, l2, l3, l4] (.int x :: S) σ := (ms_G_at rfl _ _ _).trans rfl
theorem mi_33_1 : ms_G 33 1 [l0, l1, .int x, l3, l4] S σ = ms_G 33 2 [l0, l1, .int x, l3, l4] (.int x :: S) σ := (ms_G_at rfl _ _ _).trans rfl
theorem mi_33_2 : ms_G 33 2 L [.int x1, .int x0] (ms_Z q w I J) = mo_cl 33 2 5 (ms_G 23 0 [.int x0, .int x1, .null, .null] [] (ms_Z q false I J)) w L [] := (mz_call rfl rfl (mz_can0 rfl rfl rfl rfl rfl)).trans rfl
theorem mi_33_5 : ms_G 33 5 [l0, l1, l2, .long X, l4] S σ = ms_G 33 6 [l0, l1, l2, .long X, l4] (.long X :: S) σ := (ms_G_at rfl _ _ _).trans rfl
theorem mi_33_6 : ms_G 33 6 L [.long X1, .long X0] (ms_Z q w I J) = mo_cl 33 6 9 (ms_G 22 0 [.long X0, .null, .long X1, .null, .null, .null, .null] [] (ms_Z q false I J)) w L [] := (mz_call rfl rfl (mz_can0 rfl rfl rfl rfl rfl)).trans rfl
theorem mi_33_9 : ms_G 33 9 L [.long X] σ = some (.inl (some (.long X)), σ) := (ms_G_at rfl _ _ _).trans rfl
-- MaskedSumModel.share(III)J
theorem mi_34_0 : ms_G 34 0 [.ref a, l1, l2, l3, l4, l5, l6, l7, l8, l9, l10, l11, l12, l13, l14] S σ = ms_G 34 1 [.ref a, l1, l2, l3, l4, l5, l6, l7, l8, l9, l10, l11, l12, l13, l14] (.ref a :: S) σ := (ms_G_at rfl _ _ _).trans rfl
theorem mi_34_1 : ms_G 34 1 L (.ref (ms_ad 40 0) :: S) (ms_Z q w I J) = ms_G 34 4 L (.ref (ms_ad 41 0) :: S) (ms_Z q w I J) := mz_getf (c := (2, 41)) rfl (by decide) rfl (by decide) rfl
theorem mi_34_4 : ms_G 34 4 L S σ = ms_G 34 5 L (.int (nI 3) :: S) σ := (ms_G_at rfl _ _ _).trans rfl
theorem mi_34_5 : ms_G 34 5 [l0, .int x, l2, l3, l4, l5, l6, l7, l8, l9, l10, l11, l12, l13, l14] S σ = ms_G 34 6 [l0, .int x, l2, l3, l4, l5, l6, l7, l8, l9, l10, l11, l12, l13, l14] (.int x :: S) σ := (ms_G_at rfl _ _ _).trans rfl
theorem mi_34_6 : ms_G 34 6 L (.int y :: .int x :: S) σ = ms_G 34 7 L (.int (x * y) :: S) σ := (ms_G_at rfl _ _ _).trans rfl
theorem mi_34_7 : ms_G 34 7 L S σ = ms_G 34 8 L (.int (nI 2) :: S) σ := (ms_G_at rfl _ _ _).trans rfl
theorem mi_34_8 : ms_G 34 8 L (.int y :: .int x :: S) σ = ms_G 34 9 L (.int (x + y) :: S) σ := (ms_G_at rfl _ _ _).trans rfl
theorem mi_34_9 : ms_G 34 9 L (.int (nI i) :: .ref (ms_ad r u) :: S) (ms_Z q w I J) = cond (mo_1 q.1 r u i) (ms_G 34 10 L (.long (J r u i) :: S) (ms_Z q w I J)) (ms_raw 34 9 L (.int (nI i) :: .ref (ms_ad r u) :: S) (ms_Z q w I J)) := mz_lald rfl
theorem mi_34_10 : ms_G 34 10 [l0, l1, l2, .int y, l4, l5, l6, l7, l8, l9, l10, l11, l12, l13, l14] (.long X :: S) σ = ms_G 34 12 [l0, l1, l2, .int y, .long X, .null, l6, l7, l8, l9, l10, l11, l12, l13, l14] S σ := (ms_G_at rfl _ _ _).trans rfl
theorem mi_34_12 : ms_G 34 12 [l0, l1, .int x, l3, l4, l5, l6, l7, l8, l9, l10, l11, l12, l13, l14] S σ = ms_G 34 13 [l0, l1, .int x, l3, l4, l5, l6, l7, l8, l9, l10, l11, l12, l13, l14] (.int x :: S) σ := (ms_G_at rfl _ _ _).trans rfl
theorem mi_34_13 : ms_G 34 13 L (.int x :: S) σ = if x = nI 0 then ms_G 34 16 L S σ else ms_G 34 27 L S σ := mz_bra rfl rfl rfl
theorem mi_34_16 : ms_G 34 16 [.ref a, l1, l2, l3, l4, l5, l6, l7, l8, l9, l10, l11, l12, l13, l14] S σ = ms_G 34 17 [.ref a, l1, l2, l3, l4, l5, l6, l7, l8, l9, l10, l11, l12, l13, l14] (.ref a :: S) σ := (ms_G_at rfl _ _ _).trans rfl
theorem mi_34_17 : ms_G 34 17 L (.ref (ms_ad 40 0) :: S) (ms_Z q w I J) = ms_G 34 20 L (.ref (ms_ad 41 0) :: S) (ms_Z q w I J) := mz_getf (c := (2, 41)) rfl (by decide) rfl (by decide) rfl
theorem mi_34_20 : ms_G 34 20 L S σ = ms_G 34 21 L (.int (nI 3) :: S) σ := (ms_G_at rfl _ _ _).trans rfl
theorem mi_34_21 : ms_G 34 21 [l0, .int x, l2, l3, l4, l5, l6, l7, l8, l9, l10, l11, l12, l13, l14] S σ = ms_G 34 22 [l0, .int x, l2, l3, l4, l5, l6, l7, l8, l9, l10, l11, l12, l13, l14] (.int x :: S) σ := (ms_G_at rfl _ _ _).trans rfl
theorem mi_34_22 : ms_G 34 22 L (.int y :: .int x :: S) σ = ms_G 34 23 L (.int (x * y) :: S) σ := (ms_G_at rfl _ _ _).trans rfl
theorem mi_34_23 : ms_G 34 23 L (.int (nI i) :: .ref (ms_ad r u) :: S) (ms_Z q w I J) = cond (mo_1 q.1 r u i) (ms_G 34 24 L (.long (J r u i) :: S) (ms_Z q w I J)) (ms_raw 34 23 L (.int (nI i) :: .ref (ms_ad r u) :: S) (ms_Z q w I J)) := mz_lald rfl
theorem mi_34_24 : ms_G 34 24 L S σ = ms_G 34 29 L S σ := (ms_G_at rfl _ _ _).trans rfl
theorem mi_34_27 : ms_G 34 27 [l0, l1, l2, l3, .long X, l5, l6, l7, l8, l9, l10, l11, l12, l13, l14] S σ = ms_G 34 29 [l0, l1, l2, l3, .long X, l5, l6, l7, l8, l9, l10, l11, l12, l13, l14] (.long X :: S) σ := (ms_G_at rfl _ _ _).trans rfl
theorem mi_34_29 : ms_G 34 29 [l0, l1, l2, l3, l4, .null, l6, l7, l8, l9, l10, l11, l12, l13, l14] (.long X :: S) σ = ms_G 34 31 [l0, l1, l2, l3, l4, .null, .long X, .null, l8, l9, l10, l11, l12, l13, l14] S σ := (ms_G_at rfl _ _ _).trans rfl
theorem mi_34_31 : ms_G 34 31 [l0, l1, l2, .int x, l4, l5, l6, l7, l8, l9, l10, l11, l12, l13, l14] S σ = ms_G 34 32 [l0, l1, l2, .int x, l4, l5, l6, l7, l8, l9, l10, l11, l12, l13, l14] (.int x :: S) σ := (ms_G_at rfl _ _ _).trans rfl
theorem mi_34_32 : ms_G 34 32 L (.int x :: S) σ = ms_G 34 33 L (.long x.toInt64 :: S) σ := (ms_G_at rfl _ _ _).trans rfl
theorem mi_34_33 : ms_G 34 33 L S σ = ms_G 34 34 L (.long (lN 1) :: S) σ := (ms_G_at rfl _ _ _).trans rfl
theorem mi_34_34 : ms_G 34 34 L (.long Y :: .long X :: S) σ = ms_G 34 35 L (.long (X + Y) :: S) σ := (ms_G_at rfl _ _ _).trans rfl
theorem mi_34_35 : ms_G 34 35 [l0, l1, l2, l3, l4, l5, l6, .null, l8, l9, l10, l11, l12, l13, l14] (.long X :: S) σ = ms_G 34 37 [l0, l1, l2, l3, l4, l5, l6, .null, .long X, .null, l10, l11, l12, l13, l14] S σ := (ms_G_at rfl _ _ _).trans rfl
theorem mi_34_37 : ms_G 34 37 L S σ = ms_G 34 38 L (.long (lN 1) :: S) σ := (ms_G_at rfl _ _ _).trans rfl
theorem mi_34_38 : ms_G 34 38 [l0, l1, l2, l3, l4, l5, l6, l7, l8, .null, l10, l11, l12, l13, l14] (.long X :: S) σ = ms_G 34 40 [l0, l1, l2, l3, l4, l5, l6, l7, l8, .null, .long X, .null, l12, l13, l14] S σ := (ms_G_at rfl _ _ _).trans rfl
theorem mi_34_40 : ms_G 34 40 L S σ = ms_G 34 41 L (.int (nI 1) :: S) σ := (ms_G_at rfl _ _ _).trans rfl
theorem mi_34_41 : ms_G 34 41 [l0, l1, l2, l3, l4, l5, l6, l7, l8, l9, l10, .null, l12, l13, l14] (.int x :: S) σ = ms_G 34 43 [l0, l1, l2, l3, l4, l5, l6, l7, l8, l9, l10, .null, .int x, l13, l14] S σ := (ms_G_at rfl _ _ _).trans rfl
theorem mi_34_43 : ms_G 34 43 [l0, l1, l2, l3, l4, l5, l6, l7, l8, l9, l10, l11, .int x, l13, l14] S σ = ms_G 34 45 [l0, l1, l2, l3, l4, l5, l6, l7, l8, l9, l10, l11, .int x, l13, l14] (.int x :: S) σ := (ms_G_at rfl _ _ _).trans rfl
theorem mi_34_45 : ms_G 34 45 [.ref a, l1, l2, l3, l4, l5, l6, l7, l8, l9, l10, l11, l12, l13, l14] S σ = ms_G 34 46 [.ref a, l1, l2, l3, l4, l5, l6, l7, l8, l9, l10, l11, l12, l13, l14] (.ref a :: S) σ := (ms_G_at rfl _ _ _).trans rfl
theorem mi_34_46 : ms_G 34 46 L (.ref (ms_ad 40 0) :: S) (ms_Z q w I J) = ms_G 34 49 L (.int (I 40 0 2) :: S) (ms_Z q w I J) := mz_getf (c := (0, 2)) rfl (by decide) rfl (by decide) rfl
theorem mi_34_49 : ms_G 34 49 L (.int y :: .int x :: S) σ = if y ≤ x then ms_G 34 118 L S σ else ms_G 34 52 L S σ := mz_bra rfl rfl rfl
theorem mi_34_52 : ms_G 34 52 [l0, l1, l2, l3, l4, l5, l6, l7, l8, l9, .long X, l11, l12, l13, l14] S σ = ms_G 34 54 [l0, l1, l2, l3, l4, l5, l6, l7, l8, l9, .long X, l11, l12, l13, l14] (.long X :: S) σ := (ms_G_at rfl _ _ _).trans rfl
theorem mi_34_54 : ms_G 34 54 [l0, l1, l2, l3, l4, l5, l6, l7, .long X, l9, l10, l11, l12, l13, l14] S σ = ms_G 34 56 [l0, l1, l2, l3, l4, l5, l6, l7, .long X, l9, l10, l11, l12, l13, l14] (.long X :: S) σ := (ms_G_at rfl _ _ _).trans rfl
theorem mi_34_56 : ms_G 34 56 L [.long X1, .long X0] (ms_Z q w I J) = mo_cl 34 56 59 (ms_G 21 0 [.long X0, .null, .long X1, .null, .null, .null, .null] [] (ms_Z q false I J)) w L [] := (mz_call rfl rfl (mz_can0 rfl rfl rfl rfl rfl)).trans rfl
theorem mi_34_59 : ms_G 34 59 [l0, l1, l2, l3, l4, l5, l6, l7, l8, .null, l10, l11, l12, l13, l14] (.long X :: S) σ = ms_G 34 61 [l0, l1, l2, l3, l4, l5, l6, l7, l8, .null, .long X, .null, l12, l13, l14] S σ := (ms_G_at rfl _ _ _).trans rfl
theorem mi_34_61 : ms_G 34 61 [.ref a, l1, l2, l3, l4, l5, l6, l7, l8, l9, l10, l11, l12, l13, l14] S σ = ms_G 34 62 [.ref a, l1, l2, l3, l4, l5, l6, l7, l8, l9, l10, l11, l12, l13, l14] (.ref a :: S) σ := (ms_G_at rfl _ _ _).trans rfl
theorem mi_34_62 : ms_G 34 62 [l0, l1, l2, l3, .long X, l5, l6, l7, l8, l9, l10, l11, l12, l13, l14] S σ = ms_G 34 64 [l0, l1, l2, l3, .long X, l5, l6, l7, l8, l9, l10, l11, l12, l13, l14] (.long X :: S) σ := (ms_G_at rfl _ _ _).trans rfl
theorem mi_34_64 : ms_G 34 64 L S σ = ms_G 34 65 L (.int (nI 2) :: S) σ := (ms_G_at rfl _ _ _).trans rfl
theorem mi_34_65 : ms_G 34 65 [l0, l1, .int x, l3, l4, l5, l6, l7, l8, l9, l10, l11, l12, l13, l14] S σ = ms_G 34 66 [l0, l1, .int x, l3, l4, l5, l6, l7, l8, l9, l10, l11, l12, l13, l14] (.int x :: S) σ := (ms_G_at rfl _ _ _).trans rfl
theorem mi_34_66 : ms_G 34 66 L (.int y :: .int x :: S) σ = ms_G 34 67 L (.int (x + y) :: S) σ := (ms_G_at rfl _ _ _).trans rfl
theorem mi_34_67 : ms_G 34 67 [l0, .int x, l2, l3, l4, l5, l6, l7, l8, l9, l10, l11, l12, l13, l14] S σ = ms_G 34 68 [l0, .int x, l2, l3, l4, l5, l6, l7, l8, l9, l10, l11, l12, l13, l14] (.int x :: S) σ := (ms_G_at rfl _ _ _).trans rfl
theorem mi_34_68 : ms_G 34 68 L S σ = ms_G 34 69 L (.int (nI 2) :: S) σ := (ms_G_at rfl _ _ _).trans rfl
theorem mi_34_69 : ms_G 34 69 [l0, l1, l2, l3, l4, l5, l6, l7, l8, l9, l10, l11, .int x, l13, l14] S σ = ms_G 34 71 [l0, l1, l2, l3, l4, l5, l6, l7, l8, l9, l10, l11, .int x, l13, l14] (.int x :: S) σ := (ms_G_at rfl _ _ _).trans rfl
theorem mi_34_71 : ms_G 34 71 L (.int y :: .int x :: S) σ = ms_G 34 72 L (.int (x * y) :: S) σ := (ms_G_at rfl _ _ _).trans rfl
theorem mi_34_72 : ms_G 34 72 L S σ = ms_G 34 73 L (.int (nI 2) :: S) σ := (ms_G_at rfl _ _ _).trans rfl
theorem mi_34_73 : ms_G 34 73 L (.int y :: .int x :: S) σ = ms_G 34 74 L (.int (x - y) :: S) σ := (ms_G_at rfl _ _ _).trans rfl
theorem mi_34_74 : ms_G 34 74 L [.int x3, .int x2, .int x1, .long X0, .ref (ms_ad 40 0)] (ms_Z q w I J) = mo_cl 34 74 77 (ms_G 27 0 [.ref (ms_ad 40 0), .long X0, .null, .int x1, .int x2, .int x3] [] (ms_Z q false I J)) w L [] := (mz_call rfl rfl (mz_can1 rfl rfl rfl rfl rfl (by decide) rfl (by decide))).trans rfl
theorem mi_34_77 : ms_G 34 77 [.ref a, l1, l2, l3, l4, l5, l6, l7, l8, l9, l10, l11, l12, l13, l14] S σ = ms_G 34 78 [.ref a, l1, l2, l3, l4, l5, l6, l7, l8, l9, l10, l11, l12, l13, l14] (.ref a :: S) σ := (ms_G_at rfl _ _ _).trans rfl
theorem mi_34_78 : ms_G 34 78 [l0, l1, l2, l3, .long X, l5, l6, l7, l8, l9, l10, l11, l12, l13, l14] S σ = ms_G 34 80 [l0, l1, l2, l3, .long X, l5, l6, l7, l8, l9, l10, l11, l12, l13, l14] (.long X :: S) σ := (ms_G_at rfl _ _ _).trans rfl
theorem mi_34_80 : ms_G 34 80 L S σ = ms_G 34 81 L (.int (nI 2) :: S) σ := (ms_G_at rfl _ _ _).trans rfl
theorem mi_34_81 : ms_G 34 81 [l0, l1, .int x, l3, l4, l5, l6, l7, l8, l9, l10, l11, l12, l13, l14] S σ = ms_G 34 82 [l0, l1, .int x, l3, l4, l5, l6, l7, l8, l9, l10, l11, l12, l13, l14] (.int x :: S) σ := (ms_G_at rfl _ _ _).trans rfl
theorem mi_34_82 : ms_G 34 82 L (.int y :: .int x :: S) σ = ms_G 34 83 L (.int (x + y) :: S) σ := (ms_G_at rfl _ _ _).trans rfl
theorem mi_34_83 : ms_G 34 83 [l0, .int x, l2, l3, l4, l5, l6, l7, l8, l9, l10, l11, l12, l13, l14] S σ = ms_G 34 84 [l0, .int x, l2, l3, l4, l5, l6, l7, l8, l9, l10, l11, l12, l13, l14] (.int x :: S) σ := (ms_G_at rfl _ _ _).trans rfl
theorem mi_34_84 : ms_G 34 84 L S σ = ms_G 34 85 L (.int (nI 2) :: S) σ := (ms_G_at rfl _ _ _).trans rfl
theorem mi_34_85 : ms_G 34 85 [l0, l1, l2, l3, l4, l5, l6, l7, l8, l9, l10, l11, .int x, l13, l14] S σ = ms_G 34 87 [l0, l1, l2, l3, l4, l5, l6, l7, l8, l9, l10, l11, .int x, l13, l14] (.int x :: S) σ := (ms_G_at rfl _ _ _).trans rfl
theorem mi_34_87 : ms_G 34 87 L (.int y :: .int x :: S) σ = ms_G 34 88 L (.int (x * y) :: S) σ := (ms_G_at rfl _ _ _).trans rfl
theorem mi_34_88 : ms_G 34 88 L S σ = ms_G 34 89 L (.int (nI 1) :: S) σ := (ms_G_at rfl _ _ _).trans rfl
theorem mi_34_89 : ms_G 34 89 L (.int y :: .int x :: S) σ = ms_G 34 90 L (.int (x - y) :: S) σ := (ms_G_at rfl _ _ _).trans rfl
theorem mi_34_90 : ms_G 34 90 L (.int x3 :: .int x2 :: .int x1 :: .long X0 :: .ref (ms_ad 40 0) :: [.int e0]) (ms_Z q w I J) = mo_cl 34 90 93 (ms_G 27 0 [.ref (ms_ad 40 0), .long X0, .null, .int x1, .int x2, .int x3] [] (ms_Z q false I J)) w L [.int e0] := (mz_call rfl rfl (mz_can1 rfl rfl rfl rfl rfl (by decide) rfl (by decide))).trans rfl
theorem mi_34_93 : ms_G 34 93 L [.int x1, .int x0] (ms_Z q w I J) = mo_cl 34 93 96 (ms_G 23 0 [.int x0, .int x1, .null, .null] [] (ms_Z q false I J)) w L [] := (mz_call rfl rfl (mz_can0 rfl rfl rfl rfl rfl)).trans rfl
theorem mi_34_96 : ms_G 34 96 [l0, l1, l2, l3, l4, l5, l6, l7, l8, l9, l10, l11, .int y, l13, l14] (.long X :: S) σ = ms_G 34 98 [l0, l1, l2, l3, l4, l5, l6, l7, l8, l9, l10, l11, .int y, .long X, .null] S σ := (ms_G_at rfl _ _ _).trans rfl
theorem mi_34_98 : ms_G 34 98 [l0, l1, l2, l3, l4, l5, .long X, l7, l8, l9, l10, l11, l12, l13, l14] S σ = ms_G 34 100 [l0, l1, l2, l3, l4, l5, .long X, l7, l8, l9, l10, l11, l12, l13, l14] (.long X :: S) σ := (ms_G_at rfl _ _ _).trans rfl
theorem mi_34_100 : ms_G 34 100 [l0, l1, l2, l3, l4, l5, l6, l7, l8, l9, l10, l11, l12, .long X, l14] S σ = ms_G 34 102 [l0, l1, l2, l3, l4, l5, l6, l7, l8, l9, l10, l11, l12, .long X, l14] (.long X :: S) σ := (ms_G_at rfl _ _ _).trans rfl
theorem mi_34_102 : ms_G 34 102 [l0, l1, l2, l3, l4, l5, l6, l7, l8, l9, .long X, l11, l12, l13, l14] S σ = ms_G 34 104 [l0, l1, l2, l3, l4, l5, l6, l7, l8, l9, .long X, l11, l12, l13, l14] (.long X :: S) σ := (ms_G_at rfl _ _ _).trans rfl
theorem mi_34_104 : ms_G 34 104 L (.long X1 :: .long X0 :: [.long f0]) (ms_Z q w I J) = mo_cl 34 104 107 (ms_G 21 0 [.long X0, .null, .long X1, .null, .null, .null, .null] [] (ms_Z q false I J)) w L [.long f0] := (mz_call rfl rfl (mz_can0 rfl rfl rfl rfl rfl)).trans rfl
theorem mi_34_107 : ms_G 34 107 L [.long X1, .long X0] (ms_Z q w I J) = mo_cl 34 107 110 (ms_G 20 0 [.long X0, .null, .long X1, .null, .null, .null] [] (ms_Z q false I J)) w L [] := (mz_call rfl rfl (mz_can0 rfl rfl rfl rfl rfl)).trans rfl
theorem mi_34_110 : ms_G 34 110 [l0, l1, l2, l3, l4, .null, l6, l7, l8, l9, l10, l11, l12, l13, l14] (.long X :: S) σ = ms_G 34 112 [l0, l1, l2, l3, l4, .null, .long X, .null, l8, l9, l10, l11, l12, l13, l14] S σ := (ms_G_at rfl _ _ _).trans rfl
theorem mi_34_112 : ms_G 34 112 [l0, l1, l2, l3, l4, l5, l6, l7, l8, l9, l10, .null, .int x, l13, l14] S σ = ms_G 34 115 [l0, l1, l2, l3, l4, l5, l6, l7, l8, l9, l10, .null, .int (x + nI 1), l13, l14] S σ := (ms_G_at rfl _ _ _).trans rfl
theorem mi_34_115 : ms_G 34 115 L S σ = ms_G 34 43 L S σ := (ms_G_at rfl _ _ _).trans rfl
theorem mi_34_118 : ms_G 34 118 [l0, l1, l2, l3, l4, l5, .long X, l7, l8, l9, l10, l11, l12, l13, l14] S σ = ms_G 34 120 [l0, l1, l2, l3, l4, l5, .long X, l7, l8, l9, l10, l11, l12, l13, l14] (.long X :: S) σ := (ms_G_at rfl _ _ _).trans rfl
theorem mi_34_120 : ms_G 34 120 L [.long X] σ = some (.inl (some (.long X)), σ) := (ms_G_at rfl _ _ _).trans rfl
-- MaskedSumModel.start(II)V
theorem mi_35_0 : ms_G 35 0 [.ref a, l1, l2, l3] S σ = ms_G 35 1 [.ref a, l1, l2, l3] (.ref a :: S) σ := (ms_G_at rfl _ _ _).trans rfl
theorem mi_35_1 : ms_G 35 1 [l0, .int x, l2, l3] S σ = ms_G 35 2 [l0, .int x, l2, l3] (.int x :: S) σ := (ms_G_at rfl _ _ _).trans rfl
theorem mi_35_2 : ms_G 35 2 L S σ = ms_G 35 3 L (.int (nI 3) :: S) σ := (ms_G_at rfl _ _ _).trans rfl
theorem mi_35_3 : ms_G 35 3 L S σ = ms_G 35 5 L (.int (nI 8) :: S) σ := (ms_G_at rfl _ _ _).trans rfl
theorem mi_35_5 : ms_G 35 5 L (.int x2 :: .int x1 :: .int x0 :: [.ref g0]) (ms_Z q w I J) = mo_cl 35 5 8 (ms_G 19 0 [.int x0, .int x1, .int x2] [] (ms_Z q false I J)) w L [.ref g0] := (mz_call rfl rfl (mz_can0 rfl rfl rfl rfl rfl)).trans rfl
theorem mi_35_8 : ms_G 35 8 L (.int x :: S) σ = if x = nI 0 then ms_G 35 32 L S σ else ms_G 35 11 L S σ := mz_bra rfl rfl rfl
theorem mi_35_11 : ms_G 35 11 [l0, l1, .int x, l3] S σ = ms_G 35 12 [l0, l1, .int x, l3] (.int x :: S) σ := (ms_G_at rfl _ _ _).trans rfl
theorem mi_35_12 : ms_G 35 12 [l0, .int x, l2, l3] S σ = ms_G 35 13 [l0, .int x, l2, l3] (.int x :: S) σ := (ms_G_at rfl _ _ _).trans rfl
theorem mi_35_13 : ms_G 35 13 L (.int y :: .int x :: S) σ = if y < x then ms_G 35 32 L S σ else ms_G 35 16 L S σ := mz_bra rfl rfl rfl
theorem mi_35_16 : ms_G 35 16 L S σ = ms_G 35 19 L (.long (lN 2) :: S) σ := (ms_G_at rfl _ _ _).trans rfl
theorem mi_35_19 : ms_G 35 19 [l0, l1, .int x, l3] S σ = ms_G 35 20 [l0, l1, .int x, l3] (.int x :: S) σ := (ms_G_at rfl _ _ _).trans rfl
theorem mi_35_20 : ms_G 35 20 L (.int x :: S) σ = ms_G 35 21 L (.long x.toInt64 :: S) σ := (ms_G_at rfl _ _ _).trans rfl
theorem mi_35_21 : ms_G 35 21 L (.long Y :: .long X :: S) σ = ms_G 35 22 L (.long (X * Y) :: S) σ := (ms_G_at rfl _ _ _).trans rfl
theorem mi_35_22 : ms_G 35 22 [l0, .int x, l2, l3] S σ = ms_G 35 23 [l0, .int x, l2, l3] (.int x :: S) σ := (ms_G_at rfl _ _ _).trans rfl
theorem mi_35_23 : ms_G 35 23 L (.int x :: S) σ = ms_G 35 24 L (.long x.toInt64 :: S) σ := (ms_G_at rfl _ _ _).trans rfl
theorem mi_35_24 : ms_G 35 24 L (.long Y :: .long X :: S) σ = ms_G 35 25 L (.int (lg_cmp X Y) :: S) σ := (ms_G_at rfl _ _ _).trans rfl
theorem mi_35_25 : ms_G 35 25 L (.int x :: S) σ = if x ≤ nI 0 then ms_G 35 32 L S σ else ms_G 35 28 L S σ := mz_bra rfl rfl rfl
theorem mi_35_28 : ms_G 35 28 L S σ = ms_G 35 29 L (.int (nI 0) :: S) σ := (ms_G_at rfl _ _ _).trans rfl
theorem mi_35_29 : ms_G 35 29 L S σ = ms_G 35 33 L S σ := (ms_G_at rfl _ _ _).trans rfl
theorem mi_35_32 : ms_G 35 32 L S σ = ms_G 35 33 L (.int (nI 1) :: S) σ := (ms_G_at rfl _ _ _).trans rfl
theorem mi_35_33 : ms_G 35 33 L (.int x :: .ref (ms_ad 40 0) :: S) (ms_Z q w I J) = ms_G 35 36 L S (ms_Z q true (ms_u I 40 0 (upd (I 40 0) 0 x)) J) := mz_putf rfl (by decide) rfl (by decide) rfl rfl
theorem mi_35_36 : ms_G 35 36 [.ref a, l1, l2, l3] S σ = ms_G 35 37 [.ref a, l1, l2, l3] (.ref a :: S) σ := (ms_G_at rfl _ _ _).trans rfl
theorem mi_35_37 : ms_G 35 37 L (.ref (ms_ad 40 0) :: S) (ms_Z q w I J) = ms_G 35 40 L (.int (I 40 0 0) :: S) (ms_Z q w I J) := mz_getf (c := (0, 0)) rfl (by decide) rfl (by decide) rfl
theorem mi_35_40 : ms_G 35 40 L (.int x :: S) σ = if x ≤ nI 0 then ms_G 35 44 L S σ else ms_G 35 43 L S σ := mz_bra rfl rfl rfl
theorem mi_35_43 : ms_G 35 43 L [] σ = some (.inl none, σ) := (ms_G_at rfl _ _ _).trans rfl
theorem mi_35_44 : ms_G 35 44 [.ref a, l1, l2, l3] S σ = ms_G 35 45 [.ref a, l1, l2, l3] (.ref a :: S) σ := (ms_G_at rfl _ _ _).trans rfl
theorem mi_35_45 : ms_G 35 45 [l0, .int x, l2, l3] S σ = ms_G 35 46 [l0, .int x, l2, l3] (.int x :: S) σ := (ms_G_at rfl _ _ _).trans rfl
theorem mi_35_46 : ms_G 35 46 L (.int x :: .ref (ms_ad 40 0) :: S) (ms_Z q w I J) = ms_G 35 49 L S (ms_Z q true (ms_u I 40 0 (upd (I 40 0) 1 x)) J) := mz_putf rfl (by decide) rfl (by decide) rfl rfl
theorem mi_35_49 : ms_G 35 49 [.ref a, l1, l2, l3] S σ = ms_G 35 50 [.ref a, l1, l2, l3] (.ref a :: S) σ := (ms_G_at rfl _ _ _).trans rfl
theorem mi_35_50 : ms_G 35 50 [l0, l1, .int x, l3] S σ = ms_G 35 51 [l0, l1, .int x, l3] (.int x :: S) σ := (ms_G_at rfl _ _ _).trans rfl
theorem mi_35_51 : ms_G 35 51 L (.int x :: .ref (ms_ad 40 0) :: S) (ms_Z q w I J) = ms_G 35 54 L S (ms_Z q true (ms_u I 40 0 (upd (I 40 0) 2 x)) J) := mz_putf rfl (by decide) rfl (by decide) rfl rfl
theorem mi_35_54 : ms_G 35 54 [.ref a, l1, l2, l3] S σ = ms_G 35 55 [.ref a, l1, l2, l3] (.ref a :: S) σ := (ms_G_at rfl _ _ _).trans rfl
theorem mi_35_55 : ms_G 35 55 L S σ = ms_G 35 56 L (.int (nI 0) :: S) σ := (ms_G_at rfl _ _ _).trans rfl
theorem mi_35_56 : ms_G 35 56 L (.int x :: .ref (ms_ad 40 0) :: S) (ms_Z q w I J) = ms_G 35 59 L S (ms_Z q true (ms_u I 40 0 (upd (I 40 0) 3 x)) J) := mz_putf rfl (by decide) rfl (by decide) rfl rfl
theorem mi_35_59 : ms_G 35 59 [.ref a, l1, l2, l3] S σ = ms_G 35 60 [.ref a, l1, l2, l3] (.ref a :: S) σ := (ms_G_at rfl _ _ _).trans rfl
theorem mi_35_60 : ms_G 35 60 L S σ = ms_G 35 61 L (.int (nI 0) :: S) σ := (ms_G_at rfl _ _ _).trans rfl
theorem mi_35_61 : ms_G 35 61 L (.int x :: .ref (ms_ad 40 0) :: S) (ms_Z q w I J) = ms_G 35 64 L S (ms_Z q true (ms_u I 40 0 (upd (I 40 0) 4 x)) J) := mz_putf rfl (by decide) rfl (by decide) rfl rfl
theorem mi_35_64 : ms_G 35 64 [.ref a, l1, l2, l3] S σ = ms_G 35 65 [.ref a, l1, l2, l3] (.ref a :: S) σ := (ms_G_at rfl _ _ _).trans rfl
theorem mi_35_65 : ms_G 35 65 L S σ = ms_G 35 66 L (.int (nI 0) :: S) σ := (ms_G_at rfl _ _ _).trans rfl
theorem mi_35_66 : ms_G 35 66 L (.int (ms_b B) :: .ref (ms_ad 40 0) :: S) (ms_Z q w I J) = ms_G 35 69 L S (ms_Z q true (ms_u I 40 0 (upd (I 40 0) 23 (ms_b B))) J) := mz_putf (ci := 8) rfl (by decide) rfl (by decide) rfl (by cases B <;> rfl)
theorem mi_35_66_0 : ms_G 35 66 L (.int (nI 0) :: .ref (ms_ad 40 0) :: S) (ms_Z q w I J) = ms_G 35 69 L S (ms_Z q true (ms_u I 40 0 (upd (I 40 0) 23 (nI 0))) J) := mz_putf rfl (by decide) rfl (by decide) rfl (by decide)
theorem mi_35_66_1 : ms_G 35 66 L (.int (nI 1) :: .ref (ms_ad 40 0) :: S) (ms_Z q w I J) = ms_G 35 69 L S (ms_Z q true (ms_u I 40 0 (upd (I 40 0) 23 (nI 1))) J) := mz_putf rfl (by decide) rfl (by decide) rfl (by decide)
theorem mi_35_69 : ms_G 35 69 [.ref a, l1, l2, l3] S σ = ms_G 35 70 [.ref a, l1, l2, l3] (.ref a :: S) σ := (ms_G_at rfl _ _ _).trans rfl
theorem mi_35_70 : ms_G 35 70 L S σ = ms_G 35 71 L (.int (nI 0) :: S) σ := (ms_G_at rfl _ _ _).trans rfl
theorem mi_35_71 : ms_G 35 71 L (.int x :: .ref (ms_ad 40 0) :: S) (ms_Z q w I J) = ms_G 35 74 L S (ms_Z q true (ms_u I 40 0 (upd (I 40 0) 20 x)) J) := mz_putf rfl (by decide) rfl (by decide) rfl rfl
theorem mi_35_74 : ms_G 35 74 L S σ = ms_G 35 75 L (.int (nI 0) :: S) σ := (ms_G_at rfl _ _ _).trans rfl
theorem mi_35_75 : ms_G 35 75 [l0, l1, .int y, l3] (.int x :: S) σ = ms_G 35 76 [l0, l1, .int y, .int x] S σ := (ms_G_at rfl _ _ _).trans rfl
theorem mi_35_76 : ms_G 35 76 [l0, l1, l2, .int x] S σ = ms_G 35 77 [l0, l1, l2, .int x] (.int x :: S) σ := (ms_G_at rfl _ _ _).trans rfl
theorem mi_35_77 : ms_G 35 77 L S σ = ms_G 35 79 L (.int (nI 8) :: S) σ := (ms_G_at rfl _ _ _).trans rfl
theorem mi_35_79 : ms_G 35 79 L (.int y :: .int x :: S) σ = if y ≤ x then ms_G 35 116 L S σ else ms_G 35 82 L S σ := mz_bra rfl rfl rfl
theorem mi_35_82 : ms_G 35 82 [.ref a, l1, l2, l3] S σ = ms_G 35 83 [.ref a, l1, l2, l3] (.ref a :: S) σ := (ms_G_at rfl _ _ _).trans rfl
theorem mi_35_83 : ms_G 35 83 L (.ref (ms_ad 40 0) :: S) (ms_Z q w I J) = ms_G 35 86 L (.ref (ms_ad 43 0) :: S) (ms_Z q w I J) := mz_getf (c := (2, 43)) rfl (by decide) rfl (by decide) rfl
theorem mi_35_86 : ms_G 35 86 [l0, l1, l2, .int x] S σ = ms_G 35 87 [l0, l1, l2, .int x] (.int x :: S) σ := (ms_G_at rfl _ _ _).trans rfl
theorem mi_35_87 : ms_G 35 87 L S σ = ms_G 35 88 L (.int (nI 0) :: S) σ := (ms_G_at rfl _ _ _).trans rfl
theorem mi_35_88 : ms_G 35 88 L (.int x :: .int (nI i) :: .ref (ms_ad r u) :: S) (ms_Z q w I J) = cond (mo_0 q.1 r u i) (ms_G 35 89 L S (ms_Z q true (ms_u I r u (upd (I r u) i x)) J)) (ms_raw 35 88 L (.int x :: .int (nI i) :: .ref (ms_ad r u) :: S) (ms_Z q w I J)) := mz_iast rfl x
theorem mi_35_89 : ms_G 35 89 [.ref a, l1, l2, l3] S σ = ms_G 35 90 [.ref a, l1, l2, l3] (.ref a :: S) σ := (ms_G_at rfl _ _ _).trans rfl
theorem mi_35_90 : ms_G 35 90 L (.ref (ms_ad 40 0) :: S) (ms_Z q w I J) = ms_G 35 93 L (.ref (ms_ad 44 0) :: S) (ms_Z q w I J) := mz_getf (c := (2, 44)) rfl (by decide) rfl (by decide) rfl
theorem mi_35_93 : ms_G 35 93 [l0, l1, l2, .int x] S σ = ms_G 35 94 [l0, l1, l2, .int x] (.int x :: S) σ := (ms_G_at rfl _ _ _).trans rfl
theorem mi_35_94 : ms_G 35 94 L S σ = ms_G 35 95 L (.int (nI 0) :: S) σ := (ms_G_at rfl _ _ _).trans rfl
theorem mi_35_95 : ms_G 35 95 L (.int x :: .int (nI i) :: .ref (ms_ad r u) :: S) (ms_Z q w I J) = cond (mo_0 q.1 r u i) (ms_G 35 96 L S (ms_Z q true (ms_u I r u (upd (I r u) i x)) J)) (ms_raw 35 95 L (.int x :: .int (nI i) :: .ref (ms_ad r u) :: S) (ms_Z q w I J)) := mz_iast rfl x
theorem mi_35_96 : ms_G 35 96 [.ref a, l1, l2, l3] S σ = ms_G 35 97 [.ref a, l1, l2, l3] (.ref a :: S) σ := (ms_G_at rfl _ _ _).trans rfl
theorem mi_35_97 : ms_G 35 97 L (.ref (ms_ad 40 0) :: S) (ms_Z q w I J) = ms_G 35 100 L (.ref (ms_ad 45 0) :: S) (ms_Z q w I J) := mz_getf (c := (2, 45)) rfl (by decide) rfl (by decide) rfl
theorem mi_35_100 : ms_G 35 100 [l0, l1, l2, .int x] S σ = ms_G 35 101 [l0, l1, l2, .int x] (.int x :: S) σ := (ms_G_at rfl _ _ _).trans rfl
theorem mi_35_101 : ms_G 35 101 L S σ = ms_G 35 102 L (.int (nI 0) :: S) σ := (ms_G_at rfl _ _ _).trans rfl
theorem mi_35_102 : ms_G 35 102 L (.int x :: .int (nI i) :: .ref (ms_ad r u) :: S) (ms_Z q w I J) = cond (mo_0 q.1 r u i) (ms_G 35 103 L S (ms_Z q true (ms_u I r u (upd (I r u) i x)) J)) (ms_raw 35 102 L (.int x :: .int (nI i) :: .ref (ms_ad r u) :: S) (ms_Z q w I J)) := mz_iast rfl x
theorem mi_35_103 : ms_G 35 103 [.ref a, l1, l2, l3] S σ = ms_G 35 104 [.ref a, l1, l2, l3] (.ref a :: S) σ := (ms_G_at rfl _ _ _).trans rfl
theorem mi_35_104 : ms_G 35 104 L (.ref (ms_ad 40 0) :: S) (ms_Z q w I J) = ms_G 35 107 L (.ref (ms_ad 46 0) :: S) (ms_Z q w I J) := mz_getf (c := (2, 46)) rfl (by decide) rfl (by decide) rfl
theorem mi_35_107 : ms_G 35 107 [l0, l1, l2, .int x] S σ = ms_G 35 108 [l0, l1, l2, .int x] (.int x :: S) σ := (ms_G_at rfl _ _ _).trans rfl
theorem mi_35_108 : ms_G 35 108 L S σ = ms_G 35 109 L (.int (nI 0) :: S) σ := (ms_G_at rfl _ _ _).trans rfl
theorem mi_35_109 : ms_G 35 109 L (.int x :: .int (nI i) :: .ref (ms_ad r u) :: S) (ms_Z q w I J) = cond (mo_0 q.1 r u i) (ms_G 35 110 L S (ms_Z q true (ms_u I r u (upd (I r u) i x)) J)) (ms_raw 35 109 L (.int x :: .int (nI i) :: .ref (ms_ad r u) :: S) (ms_Z q w I J)) := mz_iast rfl x
theorem mi_35_110 : ms_G 35 110 [l0, l1, .int y, .int x] S σ = ms_G 35 113 [l0, l1, .int y, .int (x + nI 1)] S σ := (ms_G_at rfl _ _ _).trans rfl
theorem mi_35_113 : ms_G 35 113 L S σ = ms_G 35 76 L S σ := (ms_G_at rfl _ _ _).trans rfl
theorem mi_35_116 : ms_G 35 116 L S σ = ms_G 35 117 L (.int (nI 0) :: S) σ := (ms_G_at rfl _ _ _).trans rfl
theorem mi_35_117 : ms_G 35 117 [l0, l1, .int y, l3] (.int x :: S) σ = ms_G 35 118 [l0, l1, .int y, .int x] S σ := (ms_G_at rfl _ _ _).trans rfl
theorem mi_35_118 : ms_G 35 118 [l0, l1, l2, .int x] S σ = ms_G 35 119 [l0, l1, l2, .int x] (.int x :: S) σ := (ms_G_at rfl _ _ _).trans rfl
theorem mi_35_119 : ms_G 35 119 L S σ = ms_G 35 120 L (.int (nI 4) :: S) σ := (ms_G_at rfl _ _ _).trans rfl
theorem mi_35_120 : ms_G 35 120 L (.int y :: .int x :: S) σ = if y ≤ x then ms_G 35 143 L S σ else ms_G 35 123 L S σ := mz_bra rfl rfl rfl
theorem mi_35_123 : ms_G 35 123 [.ref a, l1, l2, l3] S σ = ms_G 35 124 [.ref a, l1, l2, l3] (.ref a :: S) σ := (ms_G_at rfl _ _ _).trans rfl
theorem mi_35_124 : ms_G 35 124 L (.ref (ms_ad 40 0) :: S) (ms_Z q w I J) = ms_G 35 127 L (.ref (ms_ad 50 0) :: S) (ms_Z q w I J) := mz_getf (c := (2, 50)) rfl (by decide) rfl (by decide) rfl
theorem mi_35_127 : ms_G 35 127 [l0, l1, l2, .int x] S σ = ms_G 35 128 [l0, l1, l2, .int x] (.int x :: S) σ := (ms_G_at rfl _ _ _).trans rfl
theorem mi_35_128 : ms_G 35 128 L S σ = ms_G 35 129 L (.int (nI 0) :: S) σ := (ms_G_at rfl _ _ _).trans rfl
theorem mi_35_129 : ms_G 35 129 L (.int x :: .int (nI i) :: .ref (ms_ad r u) :: S) (ms_Z q w I J) = cond (mo_0 q.1 r u i) (ms_G 35 130 L S (ms_Z q true (ms_u I r u (upd (I r u) i x)) J)) (ms_raw 35 129 L (.int x :: .int (nI i) :: .ref (ms_ad r u) :: S) (ms_Z q w I J)) := mz_iast rfl x
theorem mi_35_130 : ms_G 35 130 [.ref a, l1, l2, l3] S σ = ms_G 35 131 [.ref a, l1, l2, l3] (.ref a :: S) σ := (ms_G_at rfl _ _ _).trans rfl
theorem mi_35_131 : ms_G 35 131 L (.ref (ms_ad 40 0) :: S) (ms_Z q w I J) = ms_G 35 134 L (.ref (ms_ad 51 0) :: S) (ms_Z q w I J) := mz_getf (c := (2, 51)) rfl (by decide) rfl (by decide) rfl
theorem mi_35_134 : ms_G 35 134 [l0, l1, l2, .int x] S σ = ms_G 35 135 [l0, l1, l2, .int x] (.int x :: S) σ := (ms_G_at rfl _ _ _).trans rfl
theorem mi_35_135 : ms_G 35 135 L S σ = ms_G 35 136 L (.int (nI 0) :: S) σ := (ms_G_at rfl _ _ _).trans rfl
theorem mi_35_136 : ms_G 35 136 L (.int x :: .int (nI i) :: .ref (ms_ad r u) :: S) (ms_Z q w I J) = cond (mo_0 q.1 r u i) (ms_G 35 137 L S (ms_Z q true (ms_u I r u (upd (I r u) i x)) J)) (ms_raw 35 136 L (.int x :: .int (nI i) :: .ref (ms_ad r u) :: S) (ms_Z q w I J)) := mz_iast rfl x
theorem mi_35_137 : ms_G 35 137 [l0, l1, .int y, .int x] S σ = ms_G 35 140 [l0, l1, .int y, .int (x + nI 1)] S σ := (ms_G_at rfl _ _ _).trans rfl
theorem mi_35_140 : ms_G 35 140 L S σ = ms_G 35 118 L S σ := (ms_G_at rfl _ _ _).trans rfl
theorem mi_35_143 : ms_G 35 143 L [] σ = some (.inl none, σ) := (ms_G_at rfl _ _ _).trans rfl
-- MaskedSumModel.isOpen()Z
theorem mi_36_0 : ms_G 36 0 [.ref a] S σ = ms_G 36 1 [.ref a] (.ref a :: S) σ := (ms_G_at rfl _ _ _).trans rfl
theorem mi_36_1 : ms_G 36 1 L (.ref (ms_ad 40 0) :: S) (ms_Z q w I J) = ms_G 36 4 L (.int (I 40 0 3) :: S) (ms_Z q w I J) := mz_getf (c := (0, 3)) rfl (by decide) rfl (by decide) rfl
theorem mi_36_4 : ms_G 36 4 L S σ = ms_G 36 5 L (.int (nI 4) :: S) σ := (ms_G_at rfl _ _ _).trans rfl
theorem mi_36_5 : ms_G 36 5 L (.int y :: .int x :: S) σ = if y ≤ x then ms_G 36 12 L S σ else ms_G 36 8 L S σ := mz_bra rfl rfl rfl
theorem mi_36_8 : ms_G 36 8 L S σ = ms_G 36 9 L (.int (nI 1) :: S) σ := (ms_G_at rfl _ _ _).trans rfl
theorem mi_36_9 : ms_G 36 9 L S σ = ms_G 36 13 L S σ := (ms_G_at rfl _ _ _).trans rfl
theorem mi_36_12 : ms_G 36 12 L S σ = ms_G 36 13 L (.int (nI 0) :: S) σ := (ms_G_at rfl _ _ _).trans rfl
theorem mi_36_13 : ms_G 36 13 L [.int (nI 0)] σ = some (.inl (some (.int (nI 0))), σ) := (ms_G_at rfl _ _ _).trans rfl
theorem mi_36_13_1 : ms_G 36 13 L [.int (nI 1)] σ = some (.inl (some (.int (nI 1))), σ) := (ms_G_at rfl _ _ _).trans rfl
theorem mi_36_13_b (B : Bool) : ms_G 36 13 L [.int (ms_b B)] σ = some (.inl (some (.int (ms_b B))), σ) := by cases B <;> exact (ms_G_at rfl _ _ _).trans rfl
-- MaskedSumModel.isPhone(I)Z
theorem mi_37_0 : ms_G 37 0 [l0, .int x] S σ = ms_G 37 1 [l0, .int x] (.int x :: S) σ := (ms_G_at rfl _ _ _).trans rfl
theorem mi_37_1 : ms_G 37 1 L S σ = ms_G 37 2 L (.int (nI 0) :: S) σ := (ms_G_at rfl _ _ _).trans rfl
theorem mi_37_2 : ms_G 37 2 [.ref a, l1] S σ = ms_G 37 3 [.ref a, l1] (.ref a :: S) σ := (ms_G_at rfl _ _ _).trans rfl
theorem mi_37_3 : ms_G 37 3 L (.ref (ms_ad 40 0) :: S) (ms_Z q w I J) = ms_G 37 6 L (.int (I 40 0 1) :: S) (ms_Z q w I J) := mz_getf (c := (0, 1)) rfl (by decide) rfl (by decide) rfl
theorem mi_37_6 : ms_G 37 6 L S σ = ms_G 37 7 L (.int (nI 1) :: S) σ := (ms_G_at rfl _ _ _).trans rfl
theorem mi_37_7 : ms_G 37 7 L (.int y :: .int x :: S) σ = ms_G 37 8 L (.int (x - y) :: S) σ := (ms_G_at rfl _ _ _).trans rfl
theorem mi_37_8 : ms_G 37 8 L [.int x2, .int x1, .int x0] (ms_Z q w I J) = mo_cl 37 8 11 (ms_G 19 0 [.int x0, .int x1, .int x2] [] (ms_Z q false I J)) w L [] := (mz_call rfl rfl (mz_can0 rfl rfl rfl rfl rfl)).trans rfl
theorem mi_37_11 : ms_G 37 11 L [.int (nI 0)] σ = some (.inl (some (.int (nI 0))), σ) := (ms_G_at rfl _ _ _).trans rfl
theorem mi_37_11_1 : ms_G 37 11 L [.int (nI 1)] σ = some (.inl (some (.int (nI 1))), σ) := (ms_G_at rfl _ _ _).trans rfl
theorem mi_37_11_b (B : Bool) : ms_G 37 11 L [.int (ms_b B)] σ = some (.inl (some (.int (ms_b B))), σ) := by cases B <;> exact (ms_G_at rfl _ _ _).trans rfl
-- MaskedSumModel.secret(IIII)V
theorem mi_38_0 : ms_G 38 0 [.ref a, l1, l2, l3, l4] S σ = ms_G 38 1 [.ref a, l1, l2, l3, l4] (.ref a :: S) σ := (ms_G_at rfl _ _ _).trans rfl
theorem mi_38_1 : ms_G 38 1 [l0, .int x, l2, l3, l4] S σ = ms_G 38 2 [l0, .int x, l2, l3, l4] (.int x :: S) σ := (ms_G_at rfl _ _ _).trans rfl
theorem mi_38_2 : ms_G 38 2 L S σ = ms_G 38 3 L (.int (nI 0) :: S) σ := (ms_G_at rfl _ _ _).trans rfl
theorem mi_38_3 : ms_G 38 3 L S σ = ms_G 38 5 L (.int (nI 7) :: S) σ := (ms_G_at rfl _ _ _).trans rfl
theorem mi_38_5 : ms_G 38 5 L (.int x2 :: .int x1 :: .int x0 :: [.ref g0]) (ms_Z q w I J) = mo_cl 38 5 8 (ms_G 19 0 [.int x0, .int x1, .int x2] [] (ms_Z q false I J)) w L [.ref g0] := (mz_call rfl rfl (mz_can0 rfl rfl rfl rfl rfl)).trans rfl
theorem mi_38_8 : ms_G 38 8 L (.int x :: S) σ = if x = nI 0 then ms_G 38 24 L S σ else ms_G 38 11 L S σ := mz_bra rfl rfl rfl
theorem mi_38_11 : ms_G 38 11 [l0, l1, .int x, l3, l4] S σ = ms_G 38 12 [l0, l1, .int x, l3, l4] (.int x :: S) σ := (ms_G_at rfl _ _ _).trans rfl
theorem mi_38_12 : ms_G 38 12 L S σ = ms_G 38 13 L (.int (nI 0) :: S) σ := (ms_G_at rfl _ _ _).trans rfl
theorem mi_38_13 : ms_G 38 13 L S σ = ms_G 38 14 L (.int (nI 2) :: S) σ := (ms_G_at rfl _ _ _).trans rfl
theorem mi_38_14 : ms_G 38 14 L (.int x2 :: .int x1 :: .int x0 :: [.ref g0]) (ms_Z q w I J) = mo_cl 38 14 17 (ms_G 19 0 [.int x0, .int x1, .int x2] [] (ms_Z q false I J)) w L [.ref g0] := (mz_call rfl rfl (mz_can0 rfl rfl rfl rfl rfl)).trans rfl
theorem mi_38_17 : ms_G 38 17 L (.int x :: S) σ = if x = nI 0 then ms_G 38 24 L S σ else ms_G 38 20 L S σ := mz_bra rfl rfl rfl
theorem mi_38_20 : ms_G 38 20 L S σ = ms_G 38 21 L (.int (nI 0) :: S) σ := (ms_G_at rfl _ _ _).trans rfl
theorem mi_38_21 : ms_G 38 21 L S σ = ms_G 38 25 L S σ := (ms_G_at rfl _ _ _).trans rfl
theorem mi_38_24 : ms_G 38 24 L S σ = ms_G 38 25 L (.int (nI 1) :: S) σ := (ms_G_at rfl _ _ _).trans rfl
theorem mi_38_25 : ms_G 38 25 L (.int x :: .ref (ms_ad 40 0) :: S) (ms_Z q w I J) = ms_G 38 28 L S (ms_Z q true (ms_u I 40 0 (upd (I 40 0) 0 x)) J) := mz_putf rfl (by decide) rfl (by decide) rfl rfl
theorem mi_38_28 : ms_G 38 28 [.ref a, l1, l2, l3, l4] S σ = ms_G 38 29 [.ref a, l1, l2, l3, l4] (.ref a :: S) σ := (ms_G_at rfl _ _ _).trans rfl
theorem mi_38_29 : ms_G 38 29 L (.ref (ms_ad 40 0) :: S) (ms_Z q w I J) = ms_G 38 32 L (.int (I 40 0 0) :: S) (ms_Z q w I J) := mz_getf (c := (0, 0)) rfl (by decide) rfl (by decide) rfl
theorem mi_38_32 : ms_G 38 32 L (.int x :: S) σ = if x = nI 0 then ms_G 38 35 L S σ else ms_G 38 64 L S σ := mz_bra rfl rfl rfl
theorem mi_38_35 : ms_G 38 35 [.ref a, l1, l2, l3, l4] S σ = ms_G 38 36 [.ref a, l1, l2, l3, l4] (.ref a :: S) σ := (ms_G_at rfl _ _ _).trans rfl
theorem mi_38_36 : ms_G 38 36 L [.ref (ms_ad 40 0)] (ms_Z q w I J) = mo_cl 38 36 39 (ms_G 36 0 [.ref (ms_ad 40 0)] [] (ms_Z q false I J)) w L [] := (mz_call rfl rfl (mz_can1 rfl rfl rfl rfl rfl (by decide) rfl (by decide))).trans rfl
theorem mi_38_39 : ms_G 38 39 L (.int x :: S) σ = if x = nI 0 then ms_G 38 64 L S σ else ms_G 38 42 L S σ := mz_bra rfl rfl rfl
theorem mi_38_42 : ms_G 38 42 [.ref a, l1, l2, l3, l4] S σ = ms_G 38 43 [.ref a, l1, l2, l3, l4] (.ref a :: S) σ := (ms_G_at rfl _ _ _).trans rfl
theorem mi_38_43 : ms_G 38 43 [l0, .int x, l2, l3, l4] S σ = ms_G 38 44 [l0, .int x, l2, l3, l4] (.int x :: S) σ := (ms_G_at rfl _ _ _).trans rfl
theorem mi_38_44 : ms_G 38 44 L [.int x0, .ref (ms_ad 40 0)] (ms_Z q w I J) = mo_cl 38 44 47 (ms_G 37 0 [.ref (ms_ad 40 0), .int x0] [] (ms_Z q false I J)) w L [] := (mz_call rfl rfl (mz_can1 rfl rfl rfl rfl rfl (by decide) rfl (by decide))).trans rfl
theorem mi_38_47 : ms_G 38 47 L (.int x :: S) σ = if x = nI 0 then ms_G 38 64 L S σ else ms_G 38 50 L S σ := mz_bra rfl rfl rfl
theorem mi_38_50 : ms_G 38 50 [.ref a, l1, l2, l3, l4] S σ = ms_G 38 51 [.ref a, l1, l2, l3, l4] (.ref a :: S) σ := (ms_G_at rfl _ _ _).trans rfl
theorem mi_38_51 : ms_G 38 51 L (.ref (ms_ad 40 0) :: S) (ms_Z q w I J) = ms_G 38 54 L (.ref (ms_ad 43 0) :: S) (ms_Z q w I J) := mz_getf (c := (2, 43)) rfl (by decide) rfl (by decide) rfl
theorem mi_38_54 : ms_G 38 54 [l0, .int x, l2, l3, l4] S σ = ms_G 38 55 [l0, .int x, l2, l3, l4] (.int x :: S) σ := (ms_G_at rfl _ _ _).trans rfl
theorem mi_38_55 : ms_G 38 55 L (.int (nI i) :: .ref (ms_ad r u) :: S) (ms_Z q w I J) = cond (mo_0 q.1 r u i) (ms_G 38 56 L (.int (I r u i) :: S) (ms_Z q w I J)) (ms_raw 38 55 L (.int (nI i) :: .ref (ms_ad r u) :: S) (ms_Z q w I J)) := mz_iald rfl
theorem mi_38_56 : ms_G 38 56 L (.int x :: S) σ = if x ≤ nI 0 then ms_G 38 64 L S σ else ms_G 38 59 L S σ := mz_bra rfl rfl rfl
theorem mi_38_59 : ms_G 38 59 [.ref a, l1, l2, l3, l4] S σ = ms_G 38 60 [.ref a, l1, l2, l3, l4] (.ref a :: S) σ := (ms_G_at rfl _ _ _).trans rfl
theorem mi_38_60 : ms_G 38 60 L S σ = ms_G 38 61 L (.int (nI 2) :: S) σ := (ms_G_at rfl _ _ _).trans rfl
theorem mi_38_61 : ms_G 38 61 L (.int x :: .ref (ms_ad 40 0) :: S) (ms_Z q w I J) = ms_G 38 64 L S (ms_Z q true (ms_u I 40 0 (upd (I 40 0) 0 x)) J) := mz_putf rfl (by decide) rfl (by decide) rfl rfl
theorem mi_38_64 : ms_G 38 64 [.ref a, l1, l2, l3, l4] S σ = ms_G 38 65 [.ref a, l1, l2, l3, l4] (.ref a :: S) σ := (ms_G_at rfl _ _ _).trans rfl
theorem mi_38_65 : ms_G 38 65 L (.ref (ms_ad 40 0) :: S) (ms_Z q w I J) = ms_G 38 68 L (.int (I 40 0 0) :: S) (ms_Z q w I J) := mz_getf (c := (0, 0)) rfl (by decide) rfl (by decide) rfl
theorem mi_38_68 : ms_G 38 68 L (.int x :: S) σ = if x = nI 0 then ms_G 38 71 L S σ else ms_G 38 87 L S σ := mz_bra rfl rfl rfl
theorem mi_38_71 : ms_G 38 71 [.ref a, l1, l2, l3, l4] S σ = ms_G 38 72 [.ref a, l1, l2, l3, l4] (.ref a :: S) σ := (ms_G_at rfl _ _ _).trans rfl
theorem mi_38_72 : ms_G 38 72 L (.ref (ms_ad 40 0) :: S) (ms_Z q w I J) = ms_G 38 75 L (.ref (ms_ad 41 0) :: S) (ms_Z q w I J) := mz_getf (c := (2, 41)) rfl (by decide) rfl (by decide) rfl
theorem mi_38_75 : ms_G 38 75 L S σ = ms_G 38 76 L (.int (nI 3) :: S) σ := (ms_G_at rfl _ _ _).trans rfl
theorem mi_38_76 : ms_G 38 76 [l0, .int x, l2, l3, l4] S σ = ms_G 38 77 [l0, .int x, l2, l3, l4] (.int x :: S) σ := (ms_G_at rfl _ _ _).trans rfl
theorem mi_38_77 : ms_G 38 77 L (.int y :: .int x :: S) σ = ms_G 38 78 L (.int (x * y) :: S) σ := (ms_G_at rfl _ _ _).trans rfl
theorem mi_38_78 : ms_G 38 78 [l0, l1, .int x, l3, l4] S σ = ms_G 38 79 [l0, l1, .int x, l3, l4] (.int x :: S) σ := (ms_G_at rfl _ _ _).trans rfl
theorem mi_38_79 : ms_G 38 79 L (.int y :: .int x :: S) σ = ms_G 38 80 L (.int (x + y) :: S) σ := (ms_G_at rfl _ _ _).trans rfl
theorem mi_38_80 : ms_G 38 80 [l0, l1, l2, .int x, l4] S σ = ms_G 38 81 [l0, l1, l2, .int x, l4] (.int x :: S) σ := (ms_G_at rfl _ _ _).trans rfl
theorem mi_38_81 : ms_G 38 81 [l0, l1, l2, l3, .int x] S σ = ms_G 38 83 [l0, l1, l2, l3, .int x] (.int x :: S) σ := (ms_G_at rfl _ _ _).trans rfl
theorem mi_38_83 : ms_G 38 83 L (.int x1 :: .int x0 :: [.int e0, .ref g1]) (ms_Z q w I J) = mo_cl 38 83 86 (ms_G 23 0 [.int x0, .int x1, .null, .null] [] (ms_Z q false I J)) w L [.int e0, .ref g1] := (mz_call rfl rfl (mz_can0 rfl rfl rfl rfl rfl)).trans rfl
theorem mi_38_86 : ms_G 38 86 L (.long X :: .int (nI i) :: .ref (ms_ad r u) :: S) (ms_Z q w I J) = cond (mo_1 q.1 r u i) (ms_G 38 87 L S (ms_Z q true I (ms_u J r u (vp_updL (J r u) i X)))) (ms_raw 38 86 L (.long X :: .int (nI i) :: .ref (ms_ad r u) :: S) (ms_Z q w I J)) := mz_last rfl X
theorem mi_38_87 : ms_G 38 87 L [] σ = some (.inl none, σ) := (ms_G_at rfl _ _ _).trans rfl
-- MaskedSumModel.input(III)V
theorem mi_39_0 : ms_G 39 0 [.ref a, l1, l2, l3] S σ = ms_G 39 1 [.ref a, l1, l2, l3] (.ref a :: S) σ := (ms_G_at rfl _ _ _).trans rfl
theorem mi_39_1 : ms_G 39 1 [l0, .int x, l2, l3] S σ = ms_G 39 2 [l0, .int x, l2, l3] (.int x :: S) σ := (ms_G_at rfl _ _ _).trans rfl
theorem mi_39_2 : ms_G 39 2 L S σ = ms_G 39 3 L (.int (nI 0) :: S) σ := (ms_G_at rfl _ _ _).trans rfl
theorem mi_39_3 : ms_G 39 3 L S σ = ms_G 39 5 L (.int (nI 7) :: S) σ := (ms_G_at rfl _ _ _).trans rfl
theorem mi_39_5 : ms_G 39 5 L (.int x2 :: .int x1 :: .int x0 :: [.ref g0]) (ms_Z q w I J) = mo_cl 39 5 8 (ms_G 19 0 [.int x0, .int x1, .int x2] [] (ms_Z q false I J)) w L [.ref g0] := (mz_call rfl rfl (mz_can0 rfl rfl rfl rfl rfl)).trans rfl
theorem mi_39_8 : ms_G 39 8 L (.int x :: S) σ = if x = nI 0 then ms_G 39 24 L S σ else ms_G 39 11 L S σ := mz_bra rfl rfl rfl
theorem mi_39_11 : ms_G 39 11 [l0, l1, .int x, l3] S σ = ms_G 39 12 [l0, l1, .int x, l3] (.int x :: S) σ := (ms_G_at rfl _ _ _).trans rfl
theorem mi_39_12 : ms_G 39 12 L S σ = ms_G 39 13 L (.int (nI 0) :: S) σ := (ms_G_at rfl _ _ _).trans rfl
theorem mi_39_13 : ms_G 39 13 L S σ = ms_G 39 14 L (.int (nI 3) :: S) σ := (ms_G_at rfl _ _ _).trans rfl
theorem mi_39_14 : ms_G 39 14 L (.int x2 :: .int x1 :: .int x0 :: [.ref g0]) (ms_Z q w I J) = mo_cl 39 14 17 (ms_G 19 0 [.int x0, .int x1, .int x2] [] (ms_Z q false I J)) w L [.ref g0] := (mz_call rfl rfl (mz_can0 rfl rfl rfl rfl rfl)).trans rfl
theorem mi_39_17 : ms_G 39 17 L (.int x :: S) σ = if x = nI 0 then ms_G 39 24 L S σ else ms_G 39 20 L S σ := mz_bra rfl rfl rfl
theorem mi_39_20 : ms_G 39 20 L S σ = ms_G 39 21 L (.int (nI 0) :: S) σ := (ms_G_at rfl _ _ _).trans rfl
theorem mi_39_21 : ms_G 39 21 L S σ = ms_G 39 25 L S σ := (ms_G_at rfl _ _ _).trans rfl
theorem mi_39_24 : ms_G 39 24 L S σ = ms_G 39 25 L (.int (nI 1) :: S) σ := (ms_G_at rfl _ _ _).trans rfl
theorem mi_39_25 : ms_G 39 25 L (.int x :: .ref (ms_ad 40 0) :: S) (ms_Z q w I J) = ms_G 39 28 L S (ms_Z q true (ms_u I 40 0 (upd (I 40 0) 0 x)) J) := mz_putf rfl (by decide) rfl (by decide) rfl rfl
theorem mi_39_28 : ms_G 39 28 [.ref a, l1, l2, l3] S σ = ms_G 39 29 [.ref a, l1, l2, l3] (.ref a :: S) σ := (ms_G_at rfl _ _ _).trans rfl
theorem mi_39_29 : ms_G 39 29 L (.ref (ms_ad 40 0) :: S) (ms_Z q w I J) = ms_G 39 32 L (.int (I 40 0 0) :: S) (ms_Z q w I J) := mz_getf (c := (0, 0)) rfl (by decide) rfl (by decide) rfl
theorem mi_39_32 : ms_G 39 32 L (.int x :: S) σ = if x = nI 0 then ms_G 39 35 L S σ else ms_G 39 65 L S σ := mz_bra rfl rfl rfl
theorem mi_39_35 : ms_G 39 35 [.ref a, l1, l2, l3] S σ = ms_G 39 36 [.ref a, l1, l2, l3] (.ref a :: S) σ := (ms_G_at rfl _ _ _).trans rfl
theorem mi_39_36 : ms_G 39 36 L [.ref (ms_ad 40 0)] (ms_Z q w I J) = mo_cl 39 36 39 (ms_G 36 0 [.ref (ms_ad 40 0)] [] (ms_Z q false I J)) w L [] := (mz_call rfl rfl (mz_can1 rfl rfl rfl rfl rfl (by decide) rfl (by decide))).trans rfl
theorem mi_39_39 : ms_G 39 39 L (.int x :: S) σ = if x = nI 0 then ms_G 39 65 L S σ else ms_G 39 42 L S σ := mz_bra rfl rfl rfl
theorem mi_39_42 : ms_G 39 42 [.ref a, l1, l2, l3] S σ = ms_G 39 43 [.ref a, l1, l2, l3] (.ref a :: S) σ := (ms_G_at rfl _ _ _).trans rfl
theorem mi_39_43 : ms_G 39 43 [l0, .int x, l2, l3] S σ = ms_G 39 44 [l0, .int x, l2, l3] (.int x :: S) σ := (ms_G_at rfl _ _ _).trans rfl
theorem mi_39_44 : ms_G 39 44 L [.int x0, .ref (ms_ad 40 0)] (ms_Z q w I J) = mo_cl 39 44 47 (ms_G 37 0 [.ref (ms_ad 40 0), .int x0] [] (ms_Z q false I J)) w L [] := (mz_call rfl rfl (mz_can1 rfl rfl rfl rfl rfl (by decide) rfl (by decide))).trans rfl
theorem mi_39_47 : ms_G 39 47 L (.int x :: S) σ = if x = nI 0 then ms_G 39 65 L S σ else ms_G 39 50 L S σ := mz_bra rfl rfl rfl
theorem mi_39_50 : ms_G 39 50 [.ref a, l1, l2, l3] S σ = ms_G 39 51 [.ref a, l1, l2, l3] (.ref a :: S) σ := (ms_G_at rfl _ _ _).trans rfl
theorem mi_39_51 : ms_G 39 51 L (.ref (ms_ad 40 0) :: S) (ms_Z q w I J) = ms_G 39 54 L (.ref (ms_ad 43 0) :: S) (ms_Z q w I J) := mz_getf (c := (2, 43)) rfl (by decide) rfl (by decide) rfl
theorem mi_39_54 : ms_G 39 54 [l0, .int x, l2, l3] S σ = ms_G 39 55 [l0, .int x, l2, l3] (.int x :: S) σ := (ms_G_at rfl _ _ _).trans rfl
theorem mi_39_55 : ms_G 39 55 L (.int (nI i) :: .ref (ms_ad r u) :: S) (ms_Z q w I J) = cond (mo_0 q.1 r u i) (ms_G 39 56 L (.int (I r u i) :: S) (ms_Z q w I J)) (ms_raw 39 55 L (.int (nI i) :: .ref (ms_ad r u) :: S) (ms_Z q w I J)) := mz_iald rfl
theorem mi_39_56 : ms_G 39 56 L S σ = ms_G 39 57 L (.int (nI 2) :: S) σ := (ms_G_at rfl _ _ _).trans rfl
theorem mi_39_57 : ms_G 39 57 L (.int y :: .int x :: S) σ = if x ≤ y then ms_G 39 65 L S σ else ms_G 39 60 L S σ := mz_bra rfl rfl rfl
theorem mi_39_60 : ms_G 39 60 [.ref a, l1, l2, l3] S σ = ms_G 39 61 [.ref a, l1, l2, l3] (.ref a :: S) σ := (ms_G_at rfl _ _ _).trans rfl
theorem mi_39_61 : ms_G 39 61 L S σ = ms_G 39 62 L (.int (nI 2) :: S) σ := (ms_G_at rfl _ _ _).trans rfl
theorem mi_39_62 : ms_G 39 62 L (.int x :: .ref (ms_ad 40 0) :: S) (ms_Z q w I J) = ms_G 39 65 L S (ms_Z q true (ms_u I 40 0 (upd (I 40 0) 0 x)) J) := mz_putf rfl (by decide) rfl (by decide) rfl rfl
theorem mi_39_65 : ms_G 39 65 [.ref a, l1, l2, l3] S σ = ms_G 39 66 [.ref a, l1, l2, l3] (.ref a :: S) σ := (ms_G_at rfl _ _ _).trans rfl
theorem mi_39_66 : ms_G 39 66 L (.ref (ms_ad 40 0) :: S) (ms_Z q w I J) = ms_G 39 69 L (.int (I 40 0 0) :: S) (ms_Z q w I J) := mz_getf (c := (0, 0)) rfl (by decide) rfl (by decide) rfl
theorem mi_39_69 : ms_G 39 69 L (.int x :: S) σ = if x = nI 0 then ms_G 39 72 L S σ else ms_G 39 83 L S σ := mz_bra rfl rfl rfl
theorem mi_39_72 : ms_G 39 72 [.ref a, l1, l2, l3] S σ = ms_G 39 73 [.ref a, l1, l2, l3] (.ref a :: S) σ := (ms_G_at rfl _ _ _).trans rfl
theorem mi_39_73 : ms_G 39 73 L (.ref (ms_ad 40 0) :: S) (ms_Z q w I J) = ms_G 39 76 L (.ref (ms_ad 42 0) :: S) (ms_Z q w I J) := mz_getf (c := (2, 42)) rfl (by decide) rfl (by decide) rfl
theorem mi_39_76 : ms_G 39 76 L S σ = ms_G 39 77 L (.int (nI 4) :: S) σ := (ms_G_at rfl _ _ _).trans rfl
theorem mi_39_77 : ms_G 39 77 [l0, .int x, l2, l3] S σ = ms_G 39 78 [l0, .int x, l2, l3] (.int x :: S) σ := (ms_G_at rfl _ _ _).trans rfl
theorem mi_39_78 : ms_G 39 78 L (.int y :: .int x :: S) σ = ms_G 39 79 L (.int (x * y) :: S) σ := (ms_G_at rfl _ _ _).trans rfl
theorem mi_39_79 : ms_G 39 79 [l0, l1, .int x, l3] S σ = ms_G 39 80 [l0, l1, .int x, l3] (.int x :: S) σ := (ms_G_at rfl _ _ _).trans rfl
theorem mi_39_80 : ms_G 39 80 L (.int y :: .int x :: S) σ = ms_G 39 81 L (.int (x + y) :: S) σ := (ms_G_at rfl _ _ _).trans rfl
theorem mi_39_81 : ms_G 39 81 [l0, l1, l2, .int x] S σ = ms_G 39 82 [l0, l1, l2, .int x] (.int x :: S) σ := (ms_G_at rfl _ _ _).trans rfl
theorem mi_39_82 : ms_G 39 82 L (.int x :: .int (nI i) :: .ref (ms_ad r u) :: S) (ms_Z q w I J) = cond (mo_0 q.1 r u i) (ms_G 39 83 L S (ms_Z q true (ms_u I r u (upd (I r u) i x)) J)) (ms_raw 39 82 L (.int x :: .int (nI i) :: .ref (ms_ad r u) :: S) (ms_Z q w I J)) := mz_iast rfl x
theorem mi_39_83 : ms_G 39 83 L [] σ = some (.inl none, σ) := (ms_G_at rfl _ _ _).trans rfl
-- MaskedSumModel.post(IIZI)I
theorem mi_40_0 : ms_G 40 0 L S σ = ms_G 40 2 L (.int (nI 70) :: S) σ := (ms_G_at rfl _ _ _).trans rfl
theorem mi_40_2 : ms_G 40 2 [.ref a, l1, l2, l3, l4, l5, l6] S σ = ms_G 40 3 [.ref a, l1, l2, l3, l4, l5, l6] (.ref a :: S) σ := (ms_G_at rfl _ _ _).trans rfl
theorem mi_40_3 : ms_G 40 3 L (.ref (ms_ad 40 0) :: S) (ms_Z q w I J) = ms_G 40 6 L (.int (I 40 0 20) :: S) (ms_Z q w I J) := mz_getf (c := (0, 20)) rfl (by decide) rfl (by decide) rfl
theorem mi_40_6 : ms_G 40 6 L (.int y :: .int x :: S) σ = ms_G 40 7 L (.int (x * y) :: S) σ := (ms_G_at rfl _ _ _).trans rfl
theorem mi_40_7 : ms_G 40 7 [l0, l1, l2, l3, .int y, l5, l6] (.int x :: S) σ = ms_G 40 9 [l0, l1, l2, l3, .int y, .int x, l6] S σ := (ms_G_at rfl _ _ _).trans rfl
theorem mi_40_9 : ms_G 40 9 L S σ = ms_G 40 10 L (.int (nI 0) :: S) σ := (ms_G_at rfl _ _ _).trans rfl
theorem mi_40_10 : ms_G 40 10 [l0, l1, l2, l3, l4, .int y, l6] (.int x :: S) σ = ms_G 40 12 [l0, l1, l2, l3, l4, .int y, .int x] S σ := (ms_G_at rfl _ _ _).trans rfl
theorem mi_40_12 : ms_G 40 12 [l0, l1, l2, l3, l4, l5, .int x] S σ = ms_G 40 14 [l0, l1, l2, l3, l4, l5, .int x] (.int x :: S) σ := (ms_G_at rfl _ _ _).trans rfl
theorem mi_40_14 : ms_G 40 14 L S σ = ms_G 40 16 L (.int (nI 70) :: S) σ := (ms_G_at rfl _ _ _).trans rfl
theorem mi_40_16 : ms_G 40 16 L (.int y :: .int x :: S) σ = if y ≤ x then ms_G 40 36 L S σ else ms_G 40 19 L S σ := mz_bra rfl rfl rfl
theorem mi_40_19 : ms_G 40 19 [.ref a, l1, l2, l3, l4, l5, l6] S σ = ms_G 40 20 [.ref a, l1, l2, l3, l4, l5, l6] (.ref a :: S) σ := (ms_G_at rfl _ _ _).trans rfl
theorem mi_40_20 : ms_G 40 20 L (.ref (ms_ad 40 0) :: S) (ms_Z q w I J) = ms_G 40 23 L (.ref (ms_ad 56 0) :: S) (ms_Z q w I J) := mz_getf (c := (2, 56)) rfl (by decide) rfl (by decide) rfl
theorem mi_40_23 : ms_G 40 23 [l0, l1, l2, l3, l4, .int x, l6] S σ = ms_G 40 25 [l0, l1, l2, l3, l4, .int x, l6] (.int x :: S) σ := (ms_G_at rfl _ _ _).trans rfl
theorem mi_40_25 : ms_G 40 25 [l0, l1, l2, l3, l4, l5, .int x] S σ = ms_G 40 27 [l0, l1, l2, l3, l4, l5, .int x] (.int x :: S) σ := (ms_G_at rfl _ _ _).trans rfl
theorem mi_40_27 : ms_G 40 27 L (.int y :: .int x :: S) σ = ms_G 40 28 L (.int (x + y) :: S) σ := (ms_G_at rfl _ _ _).trans rfl
theorem mi_40_28 : ms_G 40 28 L S σ = ms_G 40 29 L (.int (nI 0) :: S) σ := (ms_G_at rfl _ _ _).trans rfl
theorem mi_40_29 : ms_G 40 29 L (.int x :: .int (nI i) :: .ref (ms_ad r u) :: S) (ms_Z q w I J) = cond (mo_0 q.1 r u i) (ms_G 40 30 L S (ms_Z q true (ms_u I r u (upd (I r u) i x)) J)) (ms_raw 40 29 L (.int x :: .int (nI i) :: .ref (ms_ad r u) :: S) (ms_Z q w I J)) := mz_iast rfl x
theorem mi_40_30 : ms_G 40 30 [l0, l1, l2, l3, l4, .int y, .int x] S σ = ms_G 40 33 [l0, l1, l2, l3, l4, .int y, .int (x + nI 1)] S σ := (ms_G_at rfl _ _ _).trans rfl
theorem mi_40_33 : ms_G 40 33 L S σ = ms_G 40 12 L S σ := (ms_G_at rfl _ _ _).trans rfl
theorem mi_40_36 : ms_G 40 36 [.ref a, l1, l2, l3, l4, l5, l6] S σ = ms_G 40 37 [.ref a, l1, l2, l3, l4, l5, l6] (.ref a :: S) σ := (ms_G_at rfl _ _ _).trans rfl
theorem mi_40_37 : ms_G 40 37 L (.ref (ms_ad 40 0) :: S) (ms_Z q w I J) = ms_G 40 40 L (.ref (ms_ad 56 0) :: S) (ms_Z q w I J) := mz_getf (c := (2, 56)) rfl (by decide) rfl (by decide) rfl
theorem mi_40_40 : ms_G 40 40 [l0, l1, l2, l3, l4, .int x, l6] S σ = ms_G 40 42 [l0, l1, l2, l3, l4, .int x, l6] (.int x :: S) σ := (ms_G_at rfl _ _ _).trans rfl
theorem mi_40_42 : ms_G 40 42 [l0, .int x, l2, l3, l4, l5, l6] S σ = ms_G 40 43 [l0, .int x, l2, l3, l4, l5, l6] (.int x :: S) σ := (ms_G_at rfl _ _ _).trans rfl
theorem mi_40_43 : ms_G 40 43 L (.int x :: .int (nI i) :: .ref (ms_ad r u) :: S) (ms_Z q w I J) = cond (mo_0 q.1 r u i) (ms_G 40 44 L S (ms_Z q true (ms_u I r u (upd (I r u) i x)) J)) (ms_raw 40 43 L (.int x :: .int (nI i) :: .ref (ms_ad r u) :: S) (ms_Z q w I J)) := mz_iast rfl x
theorem mi_40_44 : ms_G 40 44 [.ref a, l1, l2, l3, l4, l5, l6] S σ = ms_G 40 45 [.ref a, l1, l2, l3, l4, l5, l6] (.ref a :: S) σ := (ms_G_at rfl _ _ _).trans rfl
theorem mi_40_45 : ms_G 40 45 L (.ref (ms_ad 40 0) :: S) (ms_Z q w I J) = ms_G 40 48 L (.ref (ms_ad 56 0) :: S) (ms_Z q w I J) := mz_getf (c := (2, 56)) rfl (by decide) rfl (by decide) rfl
theorem mi_40_48 : ms_G 40 48 [l0, l1, l2, l3, l4, .int x, l6] S σ = ms_G 40 50 [l0, l1, l2, l3, l4, .int x, l6] (.int x :: S) σ := (ms_G_at rfl _ _ _).trans rfl
theorem mi_40_50 : ms_G 40 50 L S σ = ms_G 40 51 L (.int (nI 1) :: S) σ := (ms_G_at rfl _ _ _).trans rfl
theorem mi_40_51 : ms_G 40 51 L (.int y :: .int x :: S) σ = ms_G 40 52 L (.int (x + y) :: S) σ := (ms_G_at rfl _ _ _).trans rfl
theorem mi_40_52 : ms_G 40 52 [l0, l1, .int x, l3, l4, l5, l6] S σ = ms_G 40 53 [l0, l1, .int x, l3, l4, l5, l6] (.int x :: S) σ := (ms_G_at rfl _ _ _).trans rfl
theorem mi_40_53 : ms_G 40 53 L (.int x :: .int (nI i) :: .ref (ms_ad r u) :: S) (ms_Z q w I J) = cond (mo_0 q.1 r u i) (ms_G 40 54 L S (ms_Z q true (ms_u I r u (upd (I r u) i x)) J)) (ms_raw 40 53 L (.int x :: .int (nI i) :: .ref (ms_ad r u) :: S) (ms_Z q w I J)) := mz_iast rfl x
theorem mi_40_54 : ms_G 40 54 [.ref a, l1, l2, l3, l4, l5, l6] S σ = ms_G 40 55 [.ref a, l1, l2, l3, l4, l5, l6] (.ref a :: S) σ := (ms_G_at rfl _ _ _).trans rfl
theorem mi_40_55 : ms_G 40 55 L (.ref (ms_ad 40 0) :: S) (ms_Z q w I J) = ms_G 40 58 L (.ref (ms_ad 56 0) :: S) (ms_Z q w I J) := mz_getf (c := (2, 56)) rfl (by decide) rfl (by decide) rfl
theorem mi_40_58 : ms_G 40 58 [l0, l1, l2, l3, l4, .int x, l6] S σ = ms_G 40 60 [l0, l1, l2, l3, l4, .int x, l6] (.int x :: S) σ := (ms_G_at rfl _ _ _).trans rfl
theorem mi_40_60 : ms_G 40 60 L S σ = ms_G 40 61 L (.int (nI 2) :: S) σ := (ms_G_at rfl _ _ _).trans rfl
theorem mi_40_61 : ms_G 40 61 L (.int y :: .int x :: S) σ = ms_G 40 62 L (.int (x + y) :: S) σ := (ms_G_at rfl _ _ _).trans rfl
theorem mi_40_62 : ms_G 40 62 [l0, l1, l2, .int x, l4, l5, l6] S σ = ms_G 40 63 [l0, l1, l2, .int x, l4, l5, l6] (.int x :: S) σ := (ms_G_at rfl _ _ _).trans rfl
theorem mi_40_63 : ms_G 40 63 L (.int x :: S) σ = if x = nI 0 then ms_G 40 70 L S σ else ms_G 40 66 L S σ := mz_bra rfl rfl rfl
theorem mi_40_66 : ms_G 40 66 L S σ = ms_G 40 67 L (.int (nI 1) :: S) σ := (ms_G_at rfl _ _ _).trans rfl
theorem mi_40_67 : ms_G 40 67 L S σ = ms_G 40 71 L S σ := (ms_G_at rfl _ _ _).trans rfl
theorem mi_40_70 : ms_G 40 70 L S σ = ms_G 40 71 L (.int (nI 0) :: S) σ := (ms_G_at rfl _ _ _).trans rfl
theorem mi_40_71 : ms_G 40 71 L (.int x :: .int (nI i) :: .ref (ms_ad r u) :: S) (ms_Z q w I J) = cond (mo_0 q.1 r u i) (ms_G 40 72 L S (ms_Z q true (ms_u I r u (upd (I r u) i x)) J)) (ms_raw 40 71 L (.int x :: .int (nI i) :: .ref (ms_ad r u) :: S) (ms_Z q w I J)) := mz_iast rfl x
theorem mi_40_72 : ms_G 40 72 [.ref a, l1, l2, l3, l4, l5, l6] S σ = ms_G 40 73 [.ref a, l1, l2, l3, l4, l5, l6] (.ref a :: S) σ := (ms_G_at rfl _ _ _).trans rfl
theorem mi_40_73 : ms_G 40 73 L (.ref (ms_ad 40 0) :: S) (ms_Z q w I J) = ms_G 40 76 L (.ref (ms_ad 56 0) :: S) (ms_Z q w I J) := mz_getf (c := (2, 56)) rfl (by decide) rfl (by decide) rfl
theorem mi_40_76 : ms_G 40 76 [l0, l1, l2, l3, l4, .int x, l6] S σ = ms_G 40 78 [l0, l1, l2, l3, l4, .int x, l6] (.int x :: S) σ := (ms_G_at rfl _ _ _).trans rfl
theorem mi_40_78 : ms_G 40 78 L S σ = ms_G 40 79 L (.int (nI 3) :: S) σ := (ms_G_at rfl _ _ _).trans rfl
theorem mi_40_79 : ms_G 40 79 L (.int y :: .int x :: S) σ = ms_G 40 80 L (.int (x + y) :: S) σ := (ms_G_at rfl _ _ _).trans rfl
theorem mi_40_80 : ms_G 40 80 [l0, l1, l2, l3, .int x, l5, l6] S σ = ms_G 40 82 [l0, l1, l2, l3, .int x, l5, l6] (.int x :: S) σ := (ms_G_at rfl _ _ _).trans rfl
theorem mi_40_82 : ms_G 40 82 L (.int x :: .int (nI i) :: .ref (ms_ad r u) :: S) (ms_Z q w I J) = cond (mo_0 q.1 r u i) (ms_G 40 83 L S (ms_Z q true (ms_u I r u (upd (I r u) i x)) J)) (ms_raw 40 82 L (.int x :: .int (nI i) :: .ref (ms_ad r u) :: S) (ms_Z q w I J)) := mz_iast rfl x
theorem mi_40_83 : ms_G 40 83 [.ref a, l1, l2, l3, l4, l5, l6] S σ = ms_G 40 84 [.ref a, l1, l2, l3, l4, l5, l6] (.ref a :: S) σ := (ms_G_at rfl _ _ _).trans rfl
theorem mi_40_84 : ms_G 40 84 L (.ref a :: S) σ = ms_G 40 85 L (.ref a :: .ref a :: S) σ := (ms_G_at rfl _ _ _).trans rfl
theorem mi_40_85 : ms_G 40 85 L (.ref (ms_ad 40 0) :: S) (ms_Z q w I J) = ms_G 40 88 L (.int (I 40 0 20) :: S) (ms_Z q w I J) := mz_getf (c := (0, 20)) rfl (by decide) rfl (by decide) rfl
theorem mi_40_88 : ms_G 40 88 L S σ = ms_G 40 89 L (.int (nI 1) :: S) σ := (ms_G_at rfl _ _ _).trans rfl
theorem mi_40_89 : ms_G 40 89 L (.int y :: .int x :: S) σ = ms_G 40 90 L (.int (x + y) :: S) σ := (ms_G_at rfl _ _ _).trans rfl
theorem mi_40_90 : ms_G 40 90 L (.int x :: .ref (ms_ad 40 0) :: S) (ms_Z q w I J) = ms_G 40 93 L S (ms_Z q true (ms_u I 40 0 (upd (I 40 0) 20 x)) J) := mz_putf rfl (by decide) rfl (by decide) rfl rfl
theorem mi_40_93 : ms_G 40 93 [l0, l1, l2, l3, l4, .int x, l6] S σ = ms_G 40 95 [l0, l1, l2, l3, l4, .int x, l6] (.int x :: S) σ := (ms_G_at rfl _ _ _).trans rfl
theorem mi_40_95 : ms_G 40 95 L S σ = ms_G 40 96 L (.int (nI 4) :: S) σ := (ms_G_at rfl _ _ _).trans rfl
theorem mi_40_96 : ms_G 40 96 L (.int y :: .int x :: S) σ = ms_G 40 97 L (.int (x + y) :: S) σ := (ms_G_at rfl _ _ _).trans rfl
theorem mi_40_97 : ms_G 40 97 L [.int x] σ = some (.inl (some (.int x)), σ) := (ms_G_at rfl _ _ _).trans rfl
-- MaskedSumModel.takeOut(I)V
theorem mi_41_0 : ms_G 41 0 L S σ = ms_G 41 2 L (.int (nI 70) :: S) σ := (ms_G_at rfl _ _ _).trans rfl
theorem mi_41_2 : ms_G 41 2 [l0, .int x, l2] S σ = ms_G 41 3 [l0, .int x, l2] (.int x :: S) σ := (ms_G_at rfl _ _ _).trans rfl
theorem mi_41_3 : ms_G 41 3 L (.int y :: .int x :: S) σ = ms_G 41 4 L (.int (x * y) :: S) σ := (ms_G_at rfl _ _ _).trans rfl
theorem mi_41_4 : ms_G 41 4 [l0, .int y, l2] (.int x :: S) σ = ms_G 41 5 [l0, .int y, .int x] S σ := (ms_G_at rfl _ _ _).trans rfl
theorem mi_41_5 : ms_G 41 5 [l0, l1, .int x] S σ = ms_G 41 6 [l0, l1, .int x] (.int x :: S) σ := (ms_G_at rfl _ _ _).trans rfl
theorem mi_41_6 : ms_G 41 6 L S σ = ms_G 41 8 L (.int (nI 70) :: S) σ := (ms_G_at rfl _ _ _).trans rfl
theorem mi_41_8 : ms_G 41 8 [.ref a, l1, l2] S σ = ms_G 41 9 [.ref a, l1, l2] (.ref a :: S) σ := (ms_G_at rfl _ _ _).trans rfl
theorem mi_41_9 : ms_G 41 9 L (.ref (ms_ad 40 0) :: S) (ms_Z q w I J) = ms_G 41 12 L (.int (I 40 0 20) :: S) (ms_Z q w I J) := mz_getf (c := (0, 20)) rfl (by decide) rfl (by decide) rfl
theorem mi_41_12 : ms_G 41 12 L (.int y :: .int x :: S) σ = ms_G 41 13 L (.int (x * y) :: S) σ := (ms_G_at rfl _ _ _).trans rfl
theorem mi_41_13 : ms_G 41 13 L S σ = ms_G 41 15 L (.int (nI 70) :: S) σ := (ms_G_at rfl _ _ _).trans rfl
theorem mi_41_15 : ms_G 41 15 L (.int y :: .int x :: S) σ = ms_G 41 16 L (.int (x - y) :: S) σ := (ms_G_at rfl _ _ _).trans rfl
theorem mi_41_16 : ms_G 41 16 L (.int y :: .int x :: S) σ = if y ≤ x then ms_G 41 40 L S σ else ms_G 41 19 L S σ := mz_bra rfl rfl rfl
theorem mi_41_19 : ms_G 41 19 [.ref a, l1, l2] S σ = ms_G 41 20 [.ref a, l1, l2] (.ref a :: S) σ := (ms_G_at rfl _ _ _).trans rfl
theorem mi_41_20 : ms_G 41 20 L (.ref (ms_ad 40 0) :: S) (ms_Z q w I J) = ms_G 41 23 L (.ref (ms_ad 56 0) :: S) (ms_Z q w I J) := mz_getf (c := (2, 56)) rfl (by decide) rfl (by decide) rfl
theorem mi_41_23 : ms_G 41 23 [l0, l1, .int x] S σ = ms_G 41 24 [l0, l1, .int x] (.int x :: S) σ := (ms_G_at rfl _ _ _).trans rfl
theorem mi_41_24 : ms_G 41 24 [.ref a, l1, l2] S σ = ms_G 41 25 [.ref a, l1, l2] (.ref a :: S) σ := (ms_G_at rfl _ _ _).trans rfl
theorem mi_41_25 : ms_G 41 25 L (.ref (ms_ad 40 0) :: S) (ms_Z q w I J) = ms_G 41 28 L (.ref (ms_ad 56 0) :: S) (ms_Z q w I J) := mz_getf (c := (2, 56)) rfl (by decide) rfl (by decide) rfl
theorem mi_41_28 : ms_G 41 28 [l0, l1, .int x] S σ = ms_G 41 29 [l0, l1, .int x] (.int x :: S) σ := (ms_G_at rfl _ _ _).trans rfl
theorem mi_41_29 : ms_G 41 29 L S σ = ms_G 41 31 L (.int (nI 70) :: S) σ := (ms_G_at rfl _ _ _).trans rfl
theorem mi_41_31 : ms_G 41 31 L (.int y :: .int x :: S) σ = ms_G 41 32 L (.int (x + y) :: S) σ := (ms_G_at rfl _ _ _).trans rfl
theorem mi_41_32 : ms_G 41 32 L (.int (nI i) :: .ref (ms_ad r u) :: S) (ms_Z q w I J) = cond (mo_0 q.1 r u i) (ms_G 41 33 L (.int (I r u i) :: S) (ms_Z q w I J)) (ms_raw 41 32 L (.int (nI i) :: .ref (ms_ad r u) :: S) (ms_Z q w I J)) := mz_iald rfl
theorem mi_41_33 : ms_G 41 33 L (.int x :: .int (nI i) :: .ref (ms_ad r u) :: S) (ms_Z q w I J) = cond (mo_0 q.1 r u i) (ms_G 41 34 L S (ms_Z q true (ms_u I r u (upd (I r u) i x)) J)) (ms_raw 41 33 L (.int x :: .int (nI i) :: .ref (ms_ad r u) :: S) (ms_Z q w I J)) := mz_iast rfl x
theorem mi_41_34 : ms_G 41 34 [l0, .int y, .int x] S σ = ms_G 41 37 [l0, .int y, .int (x + nI 1)] S σ := (ms_G_at rfl _ _ _).trans rfl
theorem mi_41_37 : ms_G 41 37 L S σ = ms_G 41 5 L S σ := (ms_G_at rfl _ _ _).trans rfl
theorem mi_41_40 : ms_G 41 40 [.ref a, l1, l2] S σ = ms_G 41 41 [.ref a, l1, l2] (.ref a :: S) σ := (ms_G_at rfl _ _ _).trans rfl
theorem mi_41_41 : ms_G 41 41 L (.ref a :: S) σ = ms_G 41 42 L (.ref a :: .ref a :: S) σ := (ms_G_at rfl _ _ _).trans rfl
theorem mi_41_42 : ms_G 41 42 L (.ref (ms_ad 40 0) :: S) (ms_Z q w I J) = ms_G 41 45 L (.int (I 40 0 20) :: S) (ms_Z q w I J) := mz_getf (c := (0, 20)) rfl (by decide) rfl (by decide) rfl
theorem mi_41_45 : ms_G 41 45 L S σ = ms_G 41 46 L (.int (nI 1) :: S) σ := (ms_G_at rfl _ _ _).trans rfl
theorem mi_41_46 : ms_G 41 46 L (.int y :: .int x :: S) σ = ms_G 41 47 L (.int (x - y) :: S) σ := (ms_G_at rfl _ _ _).trans rfl
theorem mi_41_47 : ms_G 41 47 L (.int x :: .ref (ms_ad 40 0) :: S) (ms_Z q w I J) = ms_G 41 50 L S (ms_Z q true (ms_u I 40 0 (upd (I 40 0) 20 x)) J) := mz_putf rfl (by decide) rfl (by decide) rfl rfl
theorem mi_41_50 : ms_G 41 50 L [] σ = some (.inl none, σ) := (ms_G_at rfl _ _ _).trans rfl
-- MaskedSumModel.has(II)Z
theorem mi_42_0 : ms_G 42 0 [.int x, l1] S σ = ms_G 42 1 [.int x, l1] (.int x :: S) σ := (ms_G_at rfl _ _ _).trans rfl
theorem mi_42_1 : ms_G 42 1 [l0, .int x] S σ = ms_G 42 2 [l0, .int x] (.int x :: S) σ := (ms_G_at rfl _ _ _).trans rfl
theorem mi_42_2 : ms_G 42 2 L (.int y :: .int x :: S) σ = ms_G 42 3 L (.int (x >>> (y &&& 31)) :: S) σ := (ms_G_at rfl _ _ _).trans rfl
theorem mi_42_3 : ms_G 42 3 L S σ = ms_G 42 4 L (.int (nI 1) :: S) σ := (ms_G_at rfl _ _ _).trans rfl
theorem mi_42_4 : ms_G 42 4 L (.int y :: .int x :: S) σ = ms_G 42 5 L (.int (x &&& y) :: S) σ := (ms_G_at rfl _ _ _).trans rfl
theorem mi_42_5 : ms_G 42 5 L S σ = ms_G 42 6 L (.int (nI 1) :: S) σ := (ms_G_at rfl _ _ _).trans rfl
theorem mi_42_6 : ms_G 42 6 L (.int y :: .int x :: S) σ = if x = y then ms_G 42 9 L S σ else ms_G 42 13 L S σ := mz_bra rfl rfl rfl
theorem mi_42_9 : ms_G 42 9 L S σ = ms_G 42 10 L (.int (nI 1) :: S) σ := (ms_G_at rfl _ _ _).trans rfl
theorem mi_42_10 : ms_G 42 10 L S σ = ms_G 42 14 L S σ := (ms_G_at rfl _ _ _).trans rfl
theorem mi_42_13 : ms_G 42 13 L S σ = ms_G 42 14 L (.int (nI 0) :: S) σ := (ms_G_at rfl _ _ _).trans rfl
theorem mi_42_14 : ms_G 42 14 L [.int (nI 0)] σ = some (.inl (some (.int (nI 0))), σ) := (ms_G_at rfl _ _ _).trans rfl
theorem mi_42_14_1 : ms_G 42 14 L [.int (nI 1)] σ = some (.inl (some (.int (nI 1))), σ) := (ms_G_at rfl _ _ _).trans rfl
theorem mi_42_14_b (B : Bool) : ms_G 42 14 L [.int (ms_b B)] σ = some (.inl (some (.int (ms_b B))), σ) := by cases B <;> exact (ms_G_at rfl _ _ _).trans rfl
-- MaskedSumModel.ones(I)I
theorem mi_43_0 : ms_G 43 0 L S σ = ms_G 43 1 L (.int (nI 0) :: S) σ := (ms_G_at rfl _ _ _).trans rfl
theorem mi_43_1 : ms_G 43 1 [.int y, l1, l2] (.int x :: S) σ = ms_G 43 2 [.int y, .int x, l2] S σ := (ms_G_at rfl _ _ _).trans rfl
theorem mi_43_2 : ms_G 43 2 L S σ = ms_G 43 3 L (.int (nI 0) :: S) σ := (ms_G_at rfl _ _ _).trans rfl
theorem mi_43_3 : ms_G 43 3 [l0, .int y, l2] (.int x :: S) σ = ms_G 43 4 [l0, .int y, .int x] S σ := (ms_G_at rfl _ _ _).trans rfl
theorem mi_43_4 : ms_G 43 4 [l0, l1, .int x] S σ = ms_G 43 5 [l0, l1, .int x] (.int x :: S) σ := (ms_G_at rfl _ _ _).trans rfl
theorem mi_43_5 : ms_G 43 5 L S σ = ms_G 43 7 L (.int (nI 32) :: S) σ := (ms_G_at rfl _ _ _).trans rfl
theorem mi_43_7 : ms_G 43 7 L (.int y :: .int x :: S) σ = if y ≤ x then ms_G 43 24 L S σ else ms_G 43 10 L S σ := mz_bra rfl rfl rfl
theorem mi_43_10 : ms_G 43 10 [l0, .int x, l2] S σ = ms_G 43 11 [l0, .int x, l2] (.int x :: S) σ := (ms_G_at rfl _ _ _).trans rfl
theorem mi_43_11 : ms_G 43 11 [.int x, l1, l2] S σ = ms_G 43 12 [.int x, l1, l2] (.int x :: S) σ := (ms_G_at rfl _ _ _).trans rfl
theorem mi_43_12 : ms_G 43 12 [l0, l1, .int x] S σ = ms_G 43 13 [l0, l1, .int x] (.int x :: S) σ := (ms_G_at rfl _ _ _).trans rfl
theorem mi_43_13 : ms_G 43 13 L (.int y :: .int x :: S) σ = ms_G 43 14 L (.int (x >>> (y &&& 31)) :: S) σ := (ms_G_at rfl _ _ _).trans rfl
theorem mi_43_14 : ms_G 43 14 L S σ = ms_G 43 15 L (.int (nI 1) :: S) σ := (ms_G_at rfl _ _ _).trans rfl
theorem mi_43_15 : ms_G 43 15 L (.int y :: .int x :: S) σ = ms_G 43 16 L (.int (x &&& y) :: S) σ := (ms_G_at rfl _ _ _).trans rfl
theorem mi_43_16 : ms_G 43 16 L (.int y :: .int x :: S) σ = ms_G 43 17 L (.int (x + y) :: S) σ := (ms_G_at rfl _ _ _).trans rfl
theorem mi_43_17 : ms_G 43 17 [.int y, l1, l2] (.int x :: S) σ = ms_G 43 18 [.int y, .int x, l2] S σ := (ms_G_at rfl _ _ _).trans rfl
theorem mi_43_18 : ms_G 43 18 [l0, .int y, .int x] S σ = ms_G 43 21 [l0, .int y, .int (x + nI 1)] S σ := (ms_G_at rfl _ _ _).trans rfl
theorem mi_43_21 : ms_G 43 21 L S σ = ms_G 43 4 L S σ := (ms_G_at rfl _ _ _).trans rfl
theorem mi_43_24 : ms_G 43 24 [l0, .int x, l2] S σ = ms_G 43 25 [l0, .int x, l2] (.int x :: S) σ := (ms_G_at rfl _ _ _).trans rfl
theorem mi_43_25 : ms_G 43 25 L [.int x] σ = some (.inl (some (.int x)), σ) := (ms_G_at rfl _ _ _).trans rfl
-- MaskedSumModel.writeNumber(IJ)V
theorem mi_44_0 : ms_G 44 0 [.ref a, l1, l2, l3] S σ = ms_G 44 1 [.ref a, l1, l2, l3] (.ref a :: S) σ := (ms_G_at rfl _ _ _).trans rfl
theorem mi_44_1 : ms_G 44 1 L (.ref (ms_ad 40 0) :: S) (ms_Z q w I J) = ms_G 44 4 L (.ref (ms_ad 56 0) :: S) (ms_Z q w I J) := mz_getf (c := (2, 56)) rfl (by decide) rfl (by decide) rfl
theorem mi_44_4 : ms_G 44 4 [l0, .int x, l2, l3] S σ = ms_G 44 5 [l0, .int x, l2, l3] (.int x :: S) σ := (ms_G_at rfl _ _ _).trans rfl
theorem mi_44_5 : ms_G 44 5 [l0, l1, .long X, l3] S σ = ms_G 44 6 [l0, l1, .long X, l3] (.long X :: S) σ := (ms_G_at rfl _ _ _).trans rfl
theorem mi_44_6 : ms_G 44 6 L (.long X :: S) σ = ms_G 44 7 L (.int X.toInt32 :: S) σ := (ms_G_at rfl _ _ _).trans rfl
theorem mi_44_7 : ms_G 44 7 L (.int x :: .int (nI i) :: .ref (ms_ad r u) :: S) (ms_Z q w I J) = cond (mo_0 q.1 r u i) (ms_G 44 8 L S (ms_Z q true (ms_u I r u (upd (I r u) i x)) J)) (ms_raw 44 7 L (.int x :: .int (nI i) :: .ref (ms_ad r u) :: S) (ms_Z q w I J)) := mz_iast rfl x
theorem mi_44_8 : ms_G 44 8 [.ref a, l1, l2, l3] S σ = ms_G 44 9 [.ref a, l1, l2, l3] (.ref a :: S) σ := (ms_G_at rfl _ _ _).trans rfl
theorem mi_44_9 : ms_G 44 9 L (.ref (ms_ad 40 0) :: S) (ms_Z q w I J) = ms_G 44 12 L (.ref (ms_ad 56 0) :: S) (ms_Z q w I J) := mz_getf (c := (2, 56)) rfl (by decide) rfl (by decide) rfl
theorem mi_44_12 : ms_G 44 12 [l0, .int x, l2, l3] S σ = ms_G 44 13 [l0, .int x, l2, l3] (.int x :: S) σ := (ms_G_at rfl _ _ _).trans rfl
theorem mi_44_13 : ms_G 44 13 L S σ = ms_G 44 14 L (.int (nI 1) :: S) σ := (ms_G_at rfl _ _ _).trans rfl
theorem mi_44_14 : ms_G 44 14 L (.int y :: .int x :: S) σ = ms_G 44 15 L (.int (x + y) :: S) σ := (ms_G_at rfl _ _ _).trans rfl
theorem mi_44_15 : ms_G 44 15 [l0, l1, .long X, l3] S σ = ms_G 44 16 [l0, l1, .long X, l3] (.long X :: S) σ := (ms_G_at rfl _ _ _).trans rfl
theorem mi_44_16 : ms_G 44 16 L S σ = ms_G 44 18 L (.int (nI 32) :: S) σ := (ms_G_at rfl _ _ _).trans rfl
theorem mi_44_18 : ms_G 44 18 L (.int y :: .long X :: S) σ = ms_G 44 19 L (.long (X >>> (y.toInt64 &&& 63)) :: S) σ := (ms_G_at rfl _ _ _).trans rfl
theorem mi_44_19 : ms_G 44 19 L (.long X :: S) σ = ms_G 44 20 L (.int X.toInt32 :: S) σ := (ms_G_at rfl _ _ _).trans rfl
theorem mi_44_20 : ms_G 44 20 L (.int x :: .int (nI i) :: .ref (ms_ad r u) :: S) (ms_Z q w I J) = cond (mo_0 q.1 r u i) (ms_G 44 21 L S (ms_Z q true (ms_u I r u (upd (I r u) i x)) J)) (ms_raw 44 20 L (.int x :: .int (nI i) :: .ref (ms_ad r u) :: S) (ms_Z q w I J)) := mz_iast rfl x
theorem mi_44_21 : ms_G 44 21 L [] σ = some (.inl none, σ) := (ms_G_at rfl _ _ _).trans rfl
-- MaskedSumModel.sendKeys(I)V
theorem mi_45_0 : ms_G 45 0 [.ref a, l1, l2] S σ = ms_G 45 1 [.ref a, l1, l2] (.ref a :: S) σ := (ms_G_at rfl _ _ _).trans rfl
theorem mi_45_1 : ms_G 45 1 L S σ = ms_G 45 2 L (.int (nI 0) :: S) σ := (ms_G_at rfl _ _ _).trans rfl
theorem mi_45_2 : ms_G 45 2 [l0, .int x, l2] S σ = ms_G 45 3 [l0, .int x, l2] (.int x :: S) σ := (ms_G_at rfl _ _ _).trans rfl
theorem mi_45_3 : ms_G 45 3 L S σ = ms_G 45 4 L (.int (nI 0) :: S) σ := (ms_G_at rfl _ _ _).trans rfl
theorem mi_45_4 : ms_G 45 4 L S σ = ms_G 45 5 L (.int (nI 4) :: S) σ := (ms_G_at rfl _ _ _).trans rfl
theorem mi_45_5 : ms_G 45 5 L [.int x3, .int x2, .int x1, .int x0, .ref (ms_ad 40 0)] (ms_Z q w I J) = mo_cl 45 5 8 (ms_G 40 0 [.ref (ms_ad 40 0), .int x0, .int x1, .int x2, .int x3, .null, .null] [] (ms_Z q false I J)) w L [] := (mz_call rfl rfl (mz_can1 rfl rfl rfl rfl rfl (by decide) rfl (by decide))).trans rfl
theorem mi_45_8 : ms_G 45 8 [l0, .int y, l2] (.int x :: S) σ = ms_G 45 9 [l0, .int y, .int x] S σ := (ms_G_at rfl _ _ _).trans rfl
theorem mi_45_9 : ms_G 45 9 [.ref a, l1, l2] S σ = ms_G 45 10 [.ref a, l1, l2] (.ref a :: S) σ := (ms_G_at rfl _ _ _).trans rfl
theorem mi_45_10 : ms_G 45 10 [l0, l1, .int x] S σ = ms_G 45 11 [l0, l1, .int x] (.int x :: S) σ := (ms_G_at rfl _ _ _).trans rfl
theorem mi_45_11 : ms_G 45 11 L S σ = ms_G 45 14 L (.long (lN 37) :: S) σ := (ms_G_at rfl _ _ _).trans rfl
theorem mi_45_14 : ms_G 45 14 [.ref a, l1, l2] S σ = ms_G 45 15 [.ref a, l1, l2] (.ref a :: S) σ := (ms_G_at rfl _ _ _).trans rfl
theorem mi_45_15 : ms_G 45 15 L (.ref (ms_ad 40 0) :: S) (ms_Z q w I J) = ms_G 45 18 L (.ref (ms_ad 41 0) :: S) (ms_Z q w I J) := mz_getf (c := (2, 41)) rfl (by decide) rfl (by decide) rfl
theorem mi_45_18 : ms_G 45 18 L S σ = ms_G 45 19 L (.int (nI 3) :: S) σ := (ms_G_at rfl _ _ _).trans rfl
theorem mi_45_19 : ms_G 45 19 [l0, .int x, l2] S σ = ms_G 45 20 [l0, .int x, l2] (.int x :: S) σ := (ms_G_at rfl _ _ _).trans rfl
theorem mi_45_20 : ms_G 45 20 L (.int y :: .int x :: S) σ = ms_G 45 21 L (.int (x * y) :: S) σ := (ms_G_at rfl _ _ _).trans rfl
theorem mi_45_21 : ms_G 45 21 L (.int (nI i) :: .ref (ms_ad r u) :: S) (ms_Z q w I J) = cond (mo_1 q.1 r u i) (ms_G 45 22 L (.long (J r u i) :: S) (ms_Z q w I J)) (ms_raw 45 21 L (.int (nI i) :: .ref (ms_ad r u) :: S) (ms_Z q w I J)) := mz_lald rfl
theorem mi_45_22 : ms_G 45 22 L (.long X1 :: .long X0 :: [.int e0, .ref g1]) (ms_Z q w I J) = mo_cl 45 22 25 (ms_G 22 0 [.long X0, .null, .long X1, .null, .null, .null, .null] [] (ms_Z q false I J)) w L [.int e0, .ref g1] := (mz_call rfl rfl (mz_can0 rfl rfl rfl rfl rfl)).trans rfl
theorem mi_45_25 : ms_G 45 25 L [.long X1, .int x0, .ref (ms_ad 40 0)] (ms_Z q w I J) = mo_cl 45 25 28 (ms_G 44 0 [.ref (ms_ad 40 0), .int x0, .long X1, .null] [] (ms_Z q false I J)) w L [] := (mz_call rfl rfl (mz_can1 rfl rfl rfl rfl rfl (by decide) rfl (by decide))).trans rfl
theorem mi_45_28 : ms_G 45 28 [.ref a, l1, l2] S σ = ms_G 45 29 [.ref a, l1, l2] (.ref a :: S) σ := (ms_G_at rfl _ _ _).trans rfl
theorem mi_45_29 : ms_G 45 29 [l0, l1, .int x] S σ = ms_G 45 30 [l0, l1, .int x] (.int x :: S) σ := (ms_G_at rfl _ _ _).trans rfl
theorem mi_45_30 : ms_G 45 30 L S σ = ms_G 45 31 L (.int (nI 2) :: S) σ := (ms_G_at rfl _ _ _).trans rfl
theorem mi_45_31 : ms_G 45 31 L (.int y :: .int x :: S) σ = ms_G 45 32 L (.int (x + y) :: S) σ := (ms_G_at rfl _ _ _).trans rfl
theorem mi_45_32 : ms_G 45 32 L S σ = ms_G 45 35 L (.long (lN 37) :: S) σ := (ms_G_at rfl _ _ _).trans rfl
theorem mi_45_35 : ms_G 45 35 [.ref a, l1, l2] S σ = ms_G 45 36 [.ref a, l1, l2] (.ref a :: S) σ := (ms_G_at rfl _ _ _).trans rfl
theorem mi_45_36 : ms_G 45 36 L (.ref (ms_ad 40 0) :: S) (ms_Z q w I J) = ms_G 45 39 L (.ref (ms_ad 41 0) :: S) (ms_Z q w I J) := mz_getf (c := (2, 41)) rfl (by decide) rfl (by decide) rfl
theorem mi_45_39 : ms_G 45 39 L S σ = ms_G 45 40 L (.int (nI 3) :: S) σ := (ms_G_at rfl _ _ _).trans rfl
theorem mi_45_40 : ms_G 45 40 [l0, .int x, l2] S σ = ms_G 45 41 [l0, .int x, l2] (.int x :: S) σ := (ms_G_at rfl _ _ _).trans rfl
theorem mi_45_41 : ms_G 45 41 L (.int y :: .int x :: S) σ = ms_G 45 42 L (.int (x * y) :: S) σ := (ms_G_at rfl _ _ _).trans rfl
theorem mi_45_42 : ms_G 45 42 L S σ = ms_G 45 43 L (.int (nI 1) :: S) σ := (ms_G_at rfl _ _ _).trans rfl
theorem mi_45_43 : ms_G 45 43 L (.int y :: .int x :: S) σ = ms_G 45 44 L (.int (x + y) :: S) σ := (ms_G_at rfl _ _ _).trans rfl
theorem mi_45_44 : ms_G 45 44 L (.int (nI i) :: .ref (ms_ad r u) :: S) (ms_Z q w I J) = cond (mo_1 q.1 r u i) (ms_G 45 45 L (.long (J r u i) :: S) (ms_Z q w I J)) (ms_raw 45 44 L (.int (nI i) :: .ref (ms_ad r u) :: S) (ms_Z q w I J)) := mz_lald rfl
theorem mi_45_45 : ms_G 45 45 L (.long X1 :: .long X0 :: [.int e0, .ref g1]) (ms_Z q w I J) = mo_cl 45 45 48 (ms_G 22 0 [.long X0, .null, .long X1, .null, .null, .null, .null] [] (ms_Z q false I J)) w L [.int e0, .ref g1] := (mz_call rfl rfl (mz_can0 rfl rfl rfl rfl rfl)).trans rfl
theorem mi_45_48 : ms_G 45 48 L [.long X1, .int x0, .ref (ms_ad 40 0)] (ms_Z q w I J) = mo_cl 45 48 51 (ms_G 44 0 [.ref (ms_ad 40 0), .int x0, .long X1, .null] [] (ms_Z q false I J)) w L [] := (mz_call rfl rfl (mz_can1 rfl rfl rfl rfl rfl (by decide) rfl (by decide))).trans rfl
theorem mi_45_51 : ms_G 45 51 L [] σ = some (.inl none, σ) := (ms_G_at rfl _ _ _).trans rfl
-- MaskedSumModel.sendBoxes(I)V
theorem mi_46_0 : ms_G 46 0 [.ref a, l1, l2, l3, l4, l5, l6, l7, l8, l9, l10, l11, l12, l13, l14] S σ = ms_G 46 1 [.ref a, l1, l2, l3, l4, l5, l6, l7, l8, l9, l10, l11, l12, l13, l14] (.ref a :: S) σ := (ms_G_at rfl _ _ _).trans rfl
theorem mi_46_1 : ms_G 46 1 L S σ = ms_G 46 2 L (.int (nI 1) :: S) σ := (ms_G_at rfl _ _ _).trans rfl
theorem mi_46_2 : ms_G 46 2 [l0, .int x, l2, l3, l4, l5, l6, l7, l8, l9, l10, l11, l12, l13, l14] S σ = ms_G 46 3 [l0, .int x, l2, l3, l4, l5, l6, l7, l8, l9, l10, l11, l12, l13, l14] (.int x :: S) σ := (ms_G_at rfl _ _ _).trans rfl
theorem mi_46_3 : ms_G 46 3 L S σ = ms_G 46 4 L (.int (nI 0) :: S) σ := (ms_G_at rfl _ _ _).trans rfl
theorem mi_46_4 : ms_G 46 4 L S σ = ms_G 46 6 L (.int (nI 64) :: S) σ := (ms_G_at rfl _ _ _).trans rfl
theorem mi_46_6 : ms_G 46 6 L [.int x3, .int x2, .int x1, .int x0, .ref (ms_ad 40 0)] (ms_Z q w I J) = mo_cl 46 6 9 (ms_G 40 0 [.ref (ms_ad 40 0), .int x0, .int x1, .int x2, .int x3, .null, .null] [] (ms_Z q false I J)) w L [] := (mz_call rfl rfl (mz_can1 rfl rfl rfl rfl rfl (by decide) rfl (by decide))).trans rfl
theorem mi_46_9 : ms_G 46 9 [l0, .int y, l2, l3, l4, l5, l6, l7, l8, l9, l10, l11, l12, l13, l14] (.int x :: S) σ = ms_G 46 10 [l0, .int y, .int x, l3, l4, l5, l6, l7, l8, l9, l10, l11, l12, l13, l14] S σ := (ms_G_at rfl _ _ _).trans rfl
theorem mi_46_10 : ms_G 46 10 L S σ = ms_G 46 11 L (.int (nI 0) :: S) σ := (ms_G_at rfl _ _ _).trans rfl
theorem mi_46_11 : ms_G 46 11 [l0, l1, .int y, l3, l4, l5, l6, l7, l8, l9, l10, l11, l12, l13, l14] (.int x :: S) σ = ms_G 46 12 [l0, l1, .int y, .int x, l4, l5, l6, l7, l8, l9, l10, l11, l12, l13, l14] S σ := (ms_G_at rfl _ _ _).trans rfl
theorem mi_46_12 : ms_G 46 12 [l0, l1, l2, .int x, l4, l5, l6, l7, l8, l9, l10, l11, l12, l13, l14] S σ = ms_G 46 13 [l0, l1, l2, .int x, l4, l5, l6, l7, l8, l9, l10, l11, l12, l13, l14] (.int x :: S) σ := (ms_G_at rfl _ _ _).trans rfl
theorem mi_46_13 : ms_G 46 13 [.ref a, l1, l2, l3, l4, l5, l6, l7, l8, l9, l10, l11, l12, l13, l14] S σ = ms_G 46 14 [.ref a, l1, l2, l3, l4, l5, l6, l7, l8, l9, l10, l11, l12, l13, l14] (.ref a :: S) σ := (ms_G_at rfl _ _ _).trans rfl
theorem mi_46_14 : ms_G 46 14 L (.ref (ms_ad 40 0) :: S) (ms_Z q w I J) = ms_G 46 17 L (.int (I 40 0 1) :: S) (ms_Z q w I J) := mz_getf (c := (0, 1)) rfl (by decide) rfl (by decide) rfl
theorem mi_46_17 : ms_G 46 17 L (.int y :: .int x :: S) σ = if y ≤ x then ms_G 46 289 L S σ else ms_G 46 20 L S σ := mz_bra rfl rfl rfl
theorem mi_46_20 : ms_G 46 20 [l0, l1, l2, .int x, l4, l5, l6, l7, l8, l9, l10, l11, l12, l13, l14] S σ = ms_G 46 21 [l0, l1, l2, .int x, l4, l5, l6, l7, l8, l9, l10, l11, l12, l13, l14] (.int x :: S) σ := (ms_G_at rfl _ _ _).trans rfl
theorem mi_46_21 : ms_G 46 21 [l0, .int x, l2, l3, l4, l5, l6, l7, l8, l9, l10, l11, l12, l13, l14] S σ = ms_G 46 22 [l0, .int x, l2, l3, l4, l5, l6, l7, l8, l9, l10, l11, l12, l13, l14] (.int x :: S) σ := (ms_G_at rfl _ _ _).trans rfl
theorem mi_46_22 : ms_G 46 22 L (.int y :: .int x :: S) σ = if x = y then ms_G 46 283 L S σ else ms_G 46 25 L S σ := mz_bra rfl rfl rfl
theorem mi_46_25 : ms_G 46 25 [.ref a, l1, l2, l3, l4, l5, l6, l7, l8, l9, l10, l11, l12, l13, l14] S σ = ms_G 46 26 [.ref a, l1, l2, l3, l4, l5, l6, l7, l8, l9, l10, l11, l12, l13, l14] (.ref a :: S) σ := (ms_G_at rfl _ _ _).trans rfl
theorem mi_46_26 : ms_G 46 26 L (.ref (ms_ad 40 0) :: S) (ms_Z q w I J) = ms_G 46 29 L (.ref (ms_ad 47 0) :: S) (ms_Z q w I J) := mz_getf (c := (2, 47)) rfl (by decide) rfl (by decide) rfl
theorem mi_46_29 : ms_G 46 29 L S σ = ms_G 46 30 L (.int (nI 3) :: S) σ := (ms_G_at rfl _ _ _).trans rfl
theorem mi_46_30 : ms_G 46 30 [l0, .int x, l2, l3, l4, l5, l6, l7, l8, l9, l10, l11, l12, l13, l14] S σ = ms_G 46 31 [l0, .int x, l2, l3, l4, l5, l6, l7, l8, l9, l10, l11, l12, l13, l14] (.int x :: S) σ := (ms_G_at rfl _ _ _).trans rfl
theorem mi_46_31 : ms_G 46 31 L (.int y :: .int x :: S) σ = ms_G 46 32 L (.int (x * y) :: S) σ := (ms_G_at rfl _ _ _).trans rfl
theorem mi_46_32 : ms_G 46 32 L (.int (nI i) :: .ref (ms_ad r u) :: S) (ms_Z q w I J) = cond (mo_0 q.1 r u i) (ms_G 46 33 L (.int (I r u i) :: S) (ms_Z q w I J)) (ms_raw 46 32 L (.int (nI i) :: .ref (ms_ad r u) :: S) (ms_Z q w I J)) := mz_iald rfl
theorem mi_46_33 : ms_G 46 33 [l0, l1, l2, .int x, l4, l5, l6, l7, l8, l9, l10, l11, l12, l13, l14] S σ = ms_G 46 34 [l0, l1, l2, .int x, l4, l5, l6, l7, l8, l9, l10, l11, l12, l13, l14] (.int x :: S) σ := (ms_G_at rfl _ _ _).trans rfl
theorem mi_46_34 : ms_G 46 34 L [.int x1, .int x0] (ms_Z q w I J) = mo_cl 46 34 37 (ms_G 42 0 [.int x0, .int x1] [] (ms_Z q false I J)) w L [] := (mz_call rfl rfl (mz_can0 rfl rfl rfl rfl rfl)).trans rfl
theorem mi_46_37 : ms_G 46 37 L (.int x :: S) σ = if x = nI 0 then ms_G 46 40 L S σ else ms_G 46 43 L S σ := mz_bra rfl rfl rfl
theorem mi_46_40 : ms_G 46 40 L S σ = ms_G 46 283 L S σ := (ms_G_at rfl _ _ _).trans rfl
theorem mi_46_43 : ms_G 46 43 [.ref a, l1, l2, l3, l4, l5, l6, l7, l8, l9, l10, l11, l12, l13, l14] S σ = ms_G 46 44 [.ref a, l1, l2, l3, l4, l5, l6, l7, l8, l9, l10, l11, l12, l13, l14] (.ref a :: S) σ := (ms_G_at rfl _ _ _).trans rfl
theorem mi_46_44 : ms_G 46 44 [.ref a, l1, l2, l3, l4, l5, l6, l7, l8, l9, l10, l11, l12, l13, l14] S σ = ms_G 46 45 [.ref a, l1, l2, l3, l4, l5, l6, l7, l8, l9, l10, l11, l12, l13, l14] (.ref a :: S) σ := (ms_G_at rfl _ _ _).trans rfl
theorem mi_46_45 : ms_G 46 45 L (.ref (ms_ad 40 0) :: S) (ms_Z q w I J) = ms_G 46 48 L (.ref (ms_ad 48 0) :: S) (ms_Z q w I J) := mz_getf (c := (2, 48)) rfl (by decide) rfl (by decide) rfl
theorem mi_46_48 : ms_G 46 48 L S σ = ms_G 46 50 L (.int (nI 32) :: S) σ := (ms_G_at rfl _ _ _).trans rfl
theorem mi_46_50 : ms_G 46 50 [l0, .int x, l2, l3, l4, l5, l6, l7, l8, l9, l10, l11, l12, l13, l14] S σ = ms_G 46 51 [l0, .int x, l2, l3, l4, l5, l6, l7, l8, l9, l10, l11, l12, l13, l14] (.int x :: S) σ := (ms_G_at rfl _ _ _).trans rfl
theorem mi_46_51 : ms_G 46 51 L (.int y :: .int x :: S) σ = ms_G 46 52 L (.int (x * y) :: S) σ := (ms_G_at rfl _ _ _).trans rfl
theorem mi_46_52 : ms_G 46 52 L S σ = ms_G 46 53 L (.int (nI 4) :: S) σ := (ms_G_at rfl _ _ _).trans rfl
theorem mi_46_53 : ms_G 46 53 [l0, l1, l2, .int x, l4, l5, l6, l7, l8, l9, l10, l11, l12, l13, l14] S σ = ms_G 46 54 [l0, l1, l2, .int x, l4, l5, l6, l7, l8, l9, l10, l11, l12, l13, l14] (.int x :: S) σ := (ms_G_at rfl _ _ _).trans rfl
theorem mi_46_54 : ms_G 46 54 L (.int y :: .int x :: S) σ = ms_G 46 55 L (.int (x * y) :: S) σ := (ms_G_at rfl _ _ _).trans rfl
theorem mi_46_55 : ms_G 46 55 L (.int y :: .int x :: S) σ = ms_G 46 56 L (.int (x + y) :: S) σ := (ms_G_at rfl _ _ _).trans rfl
theorem mi_46_56 : ms_G 46 56 L S σ = ms_G 46 57 L (.int (nI 2) :: S) σ := (ms_G_at rfl _ _ _).trans rfl
theorem mi_46_57 : ms_G 46 57 L (.int y :: .int x :: S) σ = ms_G 46 58 L (.int (x + y) :: S) σ := (ms_G_at rfl _ _ _).trans rfl
theorem mi_46_58 : ms_G 46 58 L (.int (nI i) :: .ref (ms_ad r u) :: S) (ms_Z q w I J) = cond (mo_0 q.1 r u i) (ms_G 46 59 L (.int (I r u i) :: S) (ms_Z q w I J)) (ms_raw 46 58 L (.int (nI i) :: .ref (ms_ad r u) :: S) (ms_Z q w I J)) := mz_iald rfl
theorem mi_46_59 : ms_G 46 59 [.ref a, l1, l2, l3, l4, l5, l6, l7, l8, l9, l10, l11, l12, l13, l14] S σ = ms_G 46 60 [.ref a, l1, l2, l3, l4, l5, l6, l7, l8, l9, l10, l11, l12, l13, l14] (.ref a :: S) σ := (ms_G_at rfl _ _ _).trans rfl
theorem mi_46_60 : ms_G 46 60 L (.ref (ms_ad 40 0) :: S) (ms_Z q w I J) = ms_G 46 63 L (.ref (ms_ad 48 0) :: S) (ms_Z q w I J) := mz_getf (c := (2, 48)) rfl (by decide) rfl (by decide) rfl
theorem mi_46_63 : ms_G 46 63 L S σ = ms_G 46 65 L (.int (nI 32) :: S) σ := (ms_G_at rfl _ _ _).trans rfl
theorem mi_46_65 : ms_G 46 65 [l0, .int x, l2, l3, l4, l5, l6, l7, l8, l9, l10, l11, l12, l13, l14] S σ = ms_G 46 66 [l0, .int x, l2, l3, l4, l5, l6, l7, l8, l9, l10, l11, l12, l13, l14] (.int x :: S) σ := (ms_G_at rfl _ _ _).trans rfl
theorem mi_46_66 : ms_G 46 66 L (.int y :: .int x :: S) σ = ms_G 46 67 L (.int (x * y) :: S) σ := (ms_G_at rfl _ _ _).trans rfl
theorem mi_46_67 : ms_G 46 67 L S σ = ms_G 46 68 L (.int (nI 4) :: S) σ := (ms_G_at rfl _ _ _).trans rfl
theorem mi_46_68 : ms_G 46 68 [l0, l1, l2, .int x, l4, l5, l6, l7, l8, l9, l10, l11, l12, l13, l14] S σ = ms_G 46 69 [l0, l1, l2, .int x, l4, l5, l6, l7, l8, l9, l10, l11, l12, l13, l14] (.int x :: S) σ := (ms_G_at rfl _ _ _).trans rfl
theorem mi_46_69 : ms_G 46 69 L (.int y :: .int x :: S) σ = ms_G 46 70 L (.int (x * y) :: S) σ := (ms_G_at rfl _ _ _).trans rfl
theorem mi_46_70 : ms_G 46 70 L (.int y :: .int x :: S) σ = ms_G 46 71 L (.int (x + y) :: S) σ := (ms_G_at rfl _ _ _).trans rfl
theorem mi_46_71 : ms_G 46 71 L S σ = ms_G 46 72 L (.int (nI 3) :: S) σ := (ms_G_at rfl _ _ _).trans rfl
theorem mi_46_72 : ms_G 46 72 L (.int y :: .int x :: S) σ = ms_G 46 73 L (.int (x + y) :: S) σ := (ms_G_at rfl _ _ _).trans rfl
theorem mi_46_73 : ms_G 46 73 L (.int (nI i) :: .ref (ms_ad r u) :: S) (ms_Z q w I J) = cond (mo_0 q.1 r u i) (ms_G 46 74 L (.int (I r u i) :: S) (ms_Z q w I J)) (ms_raw 46 73 L (.int (nI i) :: .ref (ms_ad r u) :: S) (ms_Z q w I J)) := mz_iald rfl
theorem mi_46_74 : ms_G 46 74 [.ref a, l1, l2, l3, l4, l5, l6, l7, l8, l9, l10, l11, l12, l13, l14] S σ = ms_G 46 75 [.ref a, l1, l2, l3, l4, l5, l6, l7, l8, l9, l10, l11, l12, l13, l14] (.ref a :: S) σ := (ms_G_at rfl _ _ _).trans rfl
theorem mi_46_75 : ms_G 46 75 L (.ref (ms_ad 40 0) :: S) (ms_Z q w I J) = ms_G 46 78 L (.ref (ms_ad 41 0) :: S) (ms_Z q w I J) := mz_getf (c := (2, 41)) rfl (by decide) rfl (by decide) rfl
theorem mi_46_78 : ms_G 46 78 L S σ = ms_G 46 79 L (.int (nI 3) :: S) σ := (ms_G_at rfl _ _ _).trans rfl
theorem mi_46_79 : ms_G 46 79 [l0, .int x, l2, l3, l4, l5, l6, l7, l8, l9, l10, l11, l12, l13, l14] S σ = ms_G 46 80 [l0, .int x, l2, l3, l4, l5, l6, l7, l8, l9, l10, l11, l12, l13, l14] (.int x :: S) σ := (ms_G_at rfl _ _ _).trans rfl
theorem mi_46_80 : ms_G 46 80 L (.int y :: .int x :: S) σ = ms_G 46 81 L (.int (x * y) :: S) σ := (ms_G_at rfl _ _ _).trans rfl
theorem mi_46_81 : ms_G 46 81 L S σ = ms_G 46 82 L (.int (nI 1) :: S) σ := (ms_G_at rfl _ _ _).trans rfl
theorem mi_46_82 : ms_G 46 82 L (.int y :: .int x :: S) σ = ms_G 46 83 L (.int (x + y) :: S) σ := (ms_G_at rfl _ _ _).trans rfl
theorem mi_46_83 : ms_G 46 83 L (.int (nI i) :: .ref (ms_ad r u) :: S) (ms_Z q w I J) = cond (mo_1 q.1 r u i) (ms_G 46 84 L (.long (J r u i) :: S) (ms_Z q w I J)) (ms_raw 46 83 L (.int (nI i) :: .ref (ms_ad r u) :: S) (ms_Z q w I J)) := mz_lald rfl
theorem mi_46_84 : ms_G 46 84 L [.long X2, .int x1, .int x0, .ref (ms_ad 40 0)] (ms_Z q w I J) = mo_cl 46 84 87 (ms_G 33 0 [.ref (ms_ad 40 0), .int x0, .int x1, .long X2, .null] [] (ms_Z q false I J)) w L [] := (mz_call rfl rfl (mz_can1 rfl rfl rfl rfl rfl (by decide) rfl (by decide))).trans rfl
theorem mi_46_87 : ms_G 46 87 [l0, l1, l2, .int y, l4, l5, l6, l7, l8, l9, l10, l11, l12, l13, l14] (.long X :: S) σ = ms_G 46 89 [l0, l1, l2, .int y, .long X, .null, l6, l7, l8, l9, l10, l11, l12, l13, l14] S σ := (ms_G_at rfl _ _ _).trans rfl
theorem mi_46_89 : ms_G 46 89 [.ref a, l1, l2, l3, l4, l5, l6, l7, l8, l9, l10, l11, l12, l13, l14] S σ = ms_G 46 90 [.ref a, l1, l2, l3, l4, l5, l6, l7, l8, l9, l10, l11, l12, l13, l14] (.ref a :: S) σ := (ms_G_at rfl _ _ _).trans rfl
theorem mi_46_90 : ms_G 46 90 [l0, .int x, l2, l3, l4, l5, l6, l7, l8, l9, l10, l11, l12, l13, l14] S σ = ms_G 46 91 [l0, .int x, l2, l3, l4, l5, l6, l7, l8, l9, l10, l11, l12, l13, l14] (.int x :: S) σ := (ms_G_at rfl _ _ _).trans rfl
theorem mi_46_91 : ms_G 46 91 L S σ = ms_G 46 92 L (.int (nI 1) :: S) σ := (ms_G_at rfl _ _ _).trans rfl
theorem mi_46_92 : ms_G 46 92 [l0, l1, l2, .int x, l4, l5, l6, l7, l8, l9, l10, l11, l12, l13, l14] S σ = ms_G 46 93 [l0, l1, l2, .int x, l4, l5, l6, l7, l8, l9, l10, l11, l12, l13, l14] (.int x :: S) σ := (ms_G_at rfl _ _ _).trans rfl
theorem mi_46_93 : ms_G 46 93 L [.int x2, .int x1, .int x0, .ref (ms_ad 40 0)] (ms_Z q w I J) = mo_cl 46 93 96 (ms_G 34 0 [.ref (ms_ad 40 0), .int x0, .int x1, .int x2, .null, .null, .null, .null, .null, .null, .null, .null, .null, .null, .null] [] (ms_Z q false I J)) w L [] := (mz_call rfl rfl (mz_can1 rfl rfl rfl rfl rfl (by decide) rfl (by decide))).trans rfl
theorem mi_46_96 : ms_G 46 96 [l0, l1, l2, l3, l4, .null, l6, l7, l8, l9, l10, l11, l12, l13, l14] (.long X :: S) σ = ms_G 46 98 [l0, l1, l2, l3, l4, .null, .long X, .null, l8, l9, l10, l11, l12, l13, l14] S σ := (ms_G_at rfl _ _ _).trans rfl
theorem mi_46_98 : ms_G 46 98 [.ref a, l1, l2, l3, l4, l5, l6, l7, l8, l9, l10, l11, l12, l13, l14] S σ = ms_G 46 99 [.ref a, l1, l2, l3, l4, l5, l6, l7, l8, l9, l10, l11, l12, l13, l14] (.ref a :: S) σ := (ms_G_at rfl _ _ _).trans rfl
theorem mi_46_99 : ms_G 46 99 [l0, .int x, l2, l3, l4, l5, l6, l7, l8, l9, l10, l11, l12, l13, l14] S σ = ms_G 46 100 [l0, .int x, l2, l3, l4, l5, l6, l7, l8, l9, l10, l11, l12, l13, l14] (.int x :: S) σ := (ms_G_at rfl _ _ _).trans rfl
theorem mi_46_100 : ms_G 46 100 L S σ = ms_G 46 101 L (.int (nI 0) :: S) σ := (ms_G_at rfl _ _ _).trans rfl
theorem mi_46_101 : ms_G 46 101 [l0, l1, l2, .int x, l4, l5, l6, l7, l8, l9, l10, l11, l12, l13, l14] S σ = ms_G 46 102 [l0, l1, l2, .int x, l4, l5, l6, l7, l8, l9, l10, l11, l12, l13, l14] (.int x :: S) σ := (ms_G_at rfl _ _ _).trans rfl
theorem mi_46_102 : ms_G 46 102 L [.int x2, .int x1, .int x0, .ref (ms_ad 40 0)] (ms_Z q w I J) = mo_cl 46 102 105 (ms_G 34 0 [.ref (ms_ad 40 0), .int x0, .int x1, .int x2, .null, .null, .null, .null, .null, .null, .null, .null, .null, .null, .null] [] (ms_Z q false I J)) w L [] := (mz_call rfl rfl (mz_can1 rfl rfl rfl rfl rfl (by decide) rfl (by decide))).trans rfl
theorem mi_46_105 : ms_G 46 105 [l0, l1, l2, l3, l4, l5, l6, .null, l8, l9, l10, l11, l12, l13, l14] (.long X :: S) σ = ms_G 46 107 [l0, l1, l2, l3, l4, l5, l6, .null, .long X, .null, l10, l11, l12, l13, l14] S σ := (ms_G_at rfl _ _ _).trans rfl
theorem mi_46_107 : ms_G 46 107 [.ref a, l1, l2, l3, l4, l5, l6, l7, l8, l9, l10, l11, l12, l13, l14] S σ = ms_G 46 108 [.ref a, l1, l2, l3, l4, l5, l6, l7, l8, l9, l10, l11, l12, l13, l14] (.ref a :: S) σ := (ms_G_at rfl _ _ _).trans rfl
theorem mi_46_108 : ms_G 46 108 [l0, l1, l2, l3, .long X, l5, l6, l7, l8, l9, l10, l11, l12, l13, l14] S σ = ms_G 46 110 [l0, l1, l2, l3, .long X, l5, l6, l7, l8, l9, l10, l11, l12, l13, l14] (.long X :: S) σ := (ms_G_at rfl _ _ _).trans rfl
theorem mi_46_110 : ms_G 46 110 [l0, .int x, l2, l3, l4, l5, l6, l7, l8, l9, l10, l11, l12, l13, l14] S σ = ms_G 46 111 [l0, .int x, l2, l3, l4, l5, l6, l7, l8, l9, l10, l11, l12, l13, l14] (.int x :: S) σ := (ms_G_at rfl _ _ _).trans rfl
theorem mi_46_111 : ms_G 46 111 [l0, l1, l2, .int x, l4, l5, l6, l7, l8, l9, l10, l11, l12, l13, l14] S σ = ms_G 46 112 [l0, l1, l2, .int x, l4, l5, l6, l7, l8, l9, l10, l11, l12, l13, l14] (.int x :: S) σ := (ms_G_at rfl _ _ _).trans rfl
theorem mi_46_112 : ms_G 46 112 L S σ = ms_G 46 113 L (.int (nI 1) :: S) σ := (ms_G_at rfl _ _ _).trans rfl
theorem mi_46_113 : ms_G 46 113 L S σ = ms_G 46 114 L (.int (nI 1) :: S) σ := (ms_G_at rfl _ _ _).trans rfl
theorem mi_46_114 : ms_G 46 114 L [.int x4, .int x3, .int x2, .int x1, .long X0, .ref (ms_ad 40 0)] (ms_Z q w I J) = mo_cl 46 114 117 (ms_G 26 0 [.ref (ms_ad 40 0), .long X0, .null, .int x1, .int x2, .int x3, .int x4, .null, .null] [] (ms_Z q false I J)) w L [] := (mz_call rfl rfl (mz_can1 rfl rfl rfl rfl rfl (by decide) rfl (by decide))).trans rfl
theorem mi_46_117 : ms_G 46 117 [l0, l1, l2, l3, l4, l5, .long X, l7, l8, l9, l10, l11, l12, l13, l14] S σ = ms_G 46 119 [l0, l1, l2, l3, l4, l5, .long X, l7, l8, l9, l10, l11, l12, l13, l14] (.long X :: S) σ := (ms_G_at rfl _ _ _).trans rfl
theorem mi_46_119 : ms_G 46 119 L (.long X :: S) σ = ms_G 46 120 L (.int X.toInt32 :: S) σ := (ms_G_at rfl _ _ _).trans rfl
theorem mi_46_120 : ms_G 46 120 [.ref a, l1, l2, l3, l4, l5, l6, l7, l8, l9, l10, l11, l12, l13, l14] S σ = ms_G 46 121 [.ref a, l1, l2, l3, l4, l5, l6, l7, l8, l9, l10, l11, l12, l13, l14] (.ref a :: S) σ := (ms_G_at rfl _ _ _).trans rfl
theorem mi_46_121 : ms_G 46 121 L (.ref (ms_ad 40 0) :: S) (ms_Z q w I J) = ms_G 46 124 L (.ref (ms_ad 59 0) :: S) (ms_Z q w I J) := mz_getf (c := (2, 59)) rfl (by decide) rfl (by decide) rfl
theorem mi_46_124 : ms_G 46 124 L S σ = ms_G 46 125 L (.int (nI 0) :: S) σ := (ms_G_at rfl _ _ _).trans rfl
theorem mi_46_125 : ms_G 46 125 L (.int (nI i) :: .ref (ms_ad r u) :: S) (ms_Z q w I J) = cond (mo_0 q.1 r u i) (ms_G 46 126 L (.int (I r u i) :: S) (ms_Z q w I J)) (ms_raw 46 125 L (.int (nI i) :: .ref (ms_ad r u) :: S) (ms_Z q w I J)) := mz_iald rfl
theorem mi_46_126 : ms_G 46 126 L (.int y :: .int x :: S) σ = ms_G 46 127 L (.int (x ^^^ y) :: S) σ := (ms_G_at rfl _ _ _).trans rfl
theorem mi_46_127 : ms_G 46 127 [l0, l1, l2, l3, l4, l5, l6, l7, l8, .null, l10, l11, l12, l13, l14] (.int x :: S) σ = ms_G 46 129 [l0, l1, l2, l3, l4, l5, l6, l7, l8, .null, .int x, l11, l12, l13, l14] S σ := (ms_G_at rfl _ _ _).trans rfl
theorem mi_46_129 : ms_G 46 129 [l0, l1, l2, l3, l4, l5, .long X, l7, l8, l9, l10, l11, l12, l13, l14] S σ = ms_G 46 131 [l0, l1, l2, l3, l4, l5, .long X, l7, l8, l9, l10, l11, l12, l13, l14] (.long X :: S) σ := (ms_G_at rfl _ _ _).trans rfl
theorem mi_46_131 : ms_G 46 131 L S σ = ms_G 46 133 L (.int (nI 32) :: S) σ := (ms_G_at rfl _ _ _).trans rfl
theorem mi_46_133 : ms_G 46 133 L (.int y :: .long X :: S) σ = ms_G 46 134 L (.long (X >>> (y.toInt64 &&& 63)) :: S) σ := (ms_G_at rfl _ _ _).trans rfl
theorem mi_46_134 : ms_G 46 134 L (.long X :: S) σ = ms_G 46 135 L (.int X.toInt32 :: S) σ := (ms_G_at rfl _ _ _).trans rfl
theorem mi_46_135 : ms_G 46 135 [.ref a, l1, l2, l3, l4, l5, l6, l7, l8, l9, l10, l11, l12, l13, l14] S σ = ms_G 46 136 [.ref a, l1, l2, l3, l4, l5, l6, l7, l8, l9, l10, l11, l12, l13, l14] (.ref a :: S) σ := (ms_G_at rfl _ _ _).trans rfl
theorem mi_46_136 : ms_G 46 136 L (.ref (ms_ad 40 0) :: S) (ms_Z q w I J) = ms_G 46 139 L (.ref (ms_ad 59 0) :: S) (ms_Z q w I J) := mz_getf (c := (2, 59)) rfl (by decide) rfl (by decide) rfl
theorem mi_46_139 : ms_G 46 139 L S σ = ms_G 46 140 L (.int (nI 1) :: S) σ := (ms_G_at rfl _ _ _).trans rfl
theorem mi_46_140 : ms_G 46 140 L (.int (nI i) :: .ref (ms_ad r u) :: S) (ms_Z q w I J) = cond (mo_0 q.1 r u i) (ms_G 46 141 L (.int (I r u i) :: S) (ms_Z q w I J)) (ms_raw 46 140 L (.int (nI i) :: .ref (ms_ad r u) :: S) (ms_Z q w I J)) := mz_iald rfl
theorem mi_46_141 : ms_G 46 141 L (.int y :: .int x :: S) σ = ms_G 46 142 L (.int (x ^^^ y) :: S) σ := (ms_G_at rfl _ _ _).trans rfl
theorem mi_46_142 : ms_G 46 142 [l0, l1, l2, l3, l4, l5, l6, l7, l8, l9, .int y, l11, l12, l13, l14] (.int x :: S) σ = ms_G 46 144 [l0, l1, l2, l3, l4, l5, l6, l7, l8, l9, .int y, .int x, l12, l13, l14] S σ := (ms_G_at rfl _ _ _).trans rfl
theorem mi_46_144 : ms_G 46 144 [l0, l1, l2, l3, l4, l5, l6, l7, .long X, l9, l10, l11, l12, l13, l14] S σ = ms_G 46 146 [l0, l1, l2, l3, l4, l5, l6, l7, .long X, l9, l10, l11, l12, l13, l14] (.long X :: S) σ := (ms_G_at rfl _ _ _).trans rfl
theorem mi_46_146 : ms_G 46 146 L (.long X :: S) σ = ms_G 46 147 L (.int X.toInt32 :: S) σ := (ms_G_at rfl _ _ _).trans rfl
theorem mi_46_147 : ms_G 46 147 [.ref a, l1, l2, l3, l4, l5, l6, l7, l8, l9, l10, l11, l12, l13, l14] S σ = ms_G 46 148 [.ref a, l1, l2, l3, l4, l5, l6, l7, l8, l9, l10, l11, l12, l13, l14] (.ref a :: S) σ := (ms_G_at rfl _ _ _).trans rfl
theorem mi_46_148 : ms_G 46 148 L (.ref (ms_ad 40 0) :: S) (ms_Z q w I J) = ms_G 46 151 L (.ref (ms_ad 59 0) :: S) (ms_Z q w I J) := mz_getf (c := (2, 59)) rfl (by decide) rfl (by decide) rfl
theorem mi_46_151 : ms_G 46 151 L S σ = ms_G 46 152 L (.int (nI 2) :: S) σ := (ms_G_at rfl _ _ _).trans rfl
theorem mi_46_152 : ms_G 46 152 L (.int (nI i) :: .ref (ms_ad r u) :: S) (ms_Z q w I J) = cond (mo_0 q.1 r u i) (ms_G 46 153 L (.int (I r u i) :: S) (ms_Z q w I J)) (ms_raw 46 152 L (.int (nI i) :: .ref (ms_ad r u) :: S) (ms_Z q w I J)) := mz_iald rfl
theorem mi_46_153 : ms_G 46 153 L (.int y :: .int x :: S) σ = ms_G 46 154 L (.int (x ^^^ y) :: S) σ := (ms_G_at rfl _ _ _).trans rfl
theorem mi_46_154 : ms_G 46 154 [l0, l1, l2, l3, l4, l5, l6, l7, l8, l9, l10, .int y, l12, l13, l14] (.int x :: S) σ = ms_G 46 156 [l0, l1, l2, l3, l4, l5, l6, l7, l8, l9, l10, .int y, .int x, l13, l14] S σ := (ms_G_at rfl _ _ _).trans rfl
theorem mi_46_156 : ms_G 46 156 [l0, l1, l2, l3, l4, l5, l6, l7, .long X, l9, l10, l11, l12, l13, l14] S σ = ms_G 46 158 [l0, l1, l2, l3, l4, l5, l6, l7, .long X, l9, l10, l11, l12, l13, l14] (.long X :: S) σ := (ms_G_at rfl _ _ _).trans rfl
theorem mi_46_158 : ms_G 46 158 L S σ = ms_G 46 160 L (.int (nI 32) :: S) σ := (ms_G_at rfl _ _ _).trans rfl
theorem mi_46_160 : ms_G 46 160 L (.int y :: .long X :: S) σ = ms_G 46 161 L (.long (X >>> (y.toInt64 &&& 63)) :: S) σ := (ms_G_at rfl _ _ _).trans rfl
theorem mi_46_161 : ms_G 46 161 L (.long X :: S) σ = ms_G 46 162 L (.int X.toInt32 :: S) σ := (ms_G_at rfl _ _ _).trans rfl
theorem mi_46_162 : ms_G 46 162 [.ref a, l1, l2, l3, l4, l5, l6, l7, l8, l9, l10, l11, l12, l13, l14] S σ = ms_G 46 163 [.ref a, l1, l2, l3, l4, l5, l6, l7, l8, l9, l10, l11, l12, l13, l14] (.ref a :: S) σ := (ms_G_at rfl _ _ _).trans rfl
theorem mi_46_163 : ms_G 46 163 L (.ref (ms_ad 40 0) :: S) (ms_Z q w I J) = ms_G 46 166 L (.ref (ms_ad 59 0) :: S) (ms_Z q w I J) := mz_getf (c := (2, 59)) rfl (by decide) rfl (by decide) rfl
theorem mi_46_166 : ms_G 46 166 L S σ = ms_G 46 167 L (.int (nI 3) :: S) σ := (ms_G_at rfl _ _ _).trans rfl
theorem mi_46_167 : ms_G 46 167 L (.int (nI i) :: .ref (ms_ad r u) :: S) (ms_Z q w I J) = cond (mo_0 q.1 r u i) (ms_G 46 168 L (.int (I r u i) :: S) (ms_Z q w I J)) (ms_raw 46 167 L (.int (nI i) :: .ref (ms_ad r u) :: S) (ms_Z q w I J)) := mz_iald rfl
theorem mi_46_168 : ms_G 46 168 L (.int y :: .int x :: S) σ = ms_G 46 169 L (.int (x ^^^ y) :: S) σ := (ms_G_at rfl _ _ _).trans rfl
theorem mi_46_169 : ms_G 46 169 [l0, l1, l2, l3, l4, l5, l6, l7, l8, l9, l10, l11, .int y, l13, l14] (.int x :: S) σ = ms_G 46 171 [l0, l1, l2, l3, l4, l5, l6, l7, l8, l9, l10, l11, .int y, .int x, l14] S σ := (ms_G_at rfl _ _ _).trans rfl
theorem mi_46_171 : ms_G 46 171 [.ref a, l1, l2, l3, l4, l5, l6, l7, l8, l9, l10, l11, l12, l13, l14] S σ = ms_G 46 172 [.ref a, l1, l2, l3, l4, l5, l6, l7, l8, l9, l10, l11, l12, l13, l14] (.ref a :: S) σ := (ms_G_at rfl _ _ _).trans rfl
theorem mi_46_172 : ms_G 46 172 [l0, l1, l2, l3, .long X, l5, l6, l7, l8, l9, l10, l11, l12, l13, l14] S σ = ms_G 46 174 [l0, l1, l2, l3, .long X, l5, l6, l7, l8, l9, l10, l11, l12, l13, l14] (.long X :: S) σ := (ms_G_at rfl _ _ _).trans rfl
theorem mi_46_174 : ms_G 46 174 [l0, .int x, l2, l3, l4, l5, l6, l7, l8, l9, l10, l11, l12, l13, l14] S σ = ms_G 46 175 [l0, .int x, l2, l3, l4, l5, l6, l7, l8, l9, l10, l11, l12, l13, l14] (.int x :: S) σ := (ms_G_at rfl _ _ _).trans rfl
theorem mi_46_175 : ms_G 46 175 [l0, l1, l2, .int x, l4, l5, l6, l7, l8, l9, l10, l11, l12, l13, l14] S σ = ms_G 46 176 [l0, l1, l2, .int x, l4, l5, l6, l7, l8, l9, l10, l11, l12, l13, l14] (.int x :: S) σ := (ms_G_at rfl _ _ _).trans rfl
theorem mi_46_176 : ms_G 46 176 [l0, l1, l2, l3, l4, l5, l6, l7, l8, l9, .int x, l11, l12, l13, l14] S σ = ms_G 46 178 [l0, l1, l2, l3, l4, l5, l6, l7, l8, l9, .int x, l11, l12, l13, l14] (.int x :: S) σ := (ms_G_at rfl _ _ _).trans rfl
theorem mi_46_178 : ms_G 46 178 [l0, l1, l2, l3, l4, l5, l6, l7, l8, l9, l10, .int x, l12, l13, l14] S σ = ms_G 46 180 [l0, l1, l2, l3, l4, l5, l6, l7, l8, l9, l10, .int x, l12, l13, l14] (.int x :: S) σ := (ms_G_at rfl _ _ _).trans rfl
theorem mi_46_180 : ms_G 46 180 [l0, l1, l2, l3, l4, l5, l6, l7, l8, l9, l10, l11, .int x, l13, l14] S σ = ms_G 46 182 [l0, l1, l2, l3, l4, l5, l6, l7, l8, l9, l10, l11, .int x, l13, l14] (.int x :: S) σ := (ms_G_at rfl _ _ _).trans rfl
theorem mi_46_182 : ms_G 46 182 [l0, l1, l2, l3, l4, l5, l6, l7, l8, l9, l10, l11, l12, .int x, l14] S σ = ms_G 46 184 [l0, l1, l2, l3, l4, l5, l6, l7, l8, l9, l10, l11, l12, .int x, l14] (.int x :: S) σ := (ms_G_at rfl _ _ _).trans rfl
theorem mi_46_184 : ms_G 46 184 L [.int x6, .int x5, .int x4, .int x3, .int x2, .int x1, .long X0, .ref (ms_ad 40 0)] (ms_Z q w I J) = mo_cl 46 184 187 (ms_G 31 0 [.ref (ms_ad 40 0), .long X0, .null, .int x1, .int x2, .int x3, .int x4, .int x5, .int x6, .null, .null, .null, .null, .null, .null, .null, .null, .null] [] (ms_Z q false I J)) w L [] := (mz_call rfl rfl (mz_can1 rfl rfl rfl rfl rfl (by decide) rfl (by decide))).trans rfl
theorem mi_46_187 : ms_G 46 187 [.ref a, l1, l2, l3, l4, l5, l6, l7, l8, l9, l10, l11, l12, l13, l14] S σ = ms_G 46 188 [.ref a, l1, l2, l3, l4, l5, l6, l7, l8, l9, l10, l11, l12, l13, l14] (.ref a :: S) σ := (ms_G_at rfl _ _ _).trans rfl
theorem mi_46_188 : ms_G 46 188 L (.ref (ms_ad 40 0) :: S) (ms_Z q w I J) = ms_G 46 191 L (.ref (ms_ad 56 0) :: S) (ms_Z q w I J) := mz_getf (c := (2, 56)) rfl (by decide) rfl (by decide) rfl
theorem mi_46_191 : ms_G 46 191 [l0, l1, .int x, l3, l4, l5, l6, l7, l8, l9, l10, l11, l12, l13, l14] S σ = ms_G 46 192 [l0, l1, .int x, l3, l4, l5, l6, l7, l8, l9, l10, l11, l12, l13, l14] (.int x :: S) σ := (ms_G_at rfl _ _ _).trans rfl
theorem mi_46_192 : ms_G 46 192 L S σ = ms_G 46 194 L (.int (nI 8) :: S) σ := (ms_G_at rfl _ _ _).trans rfl
theorem mi_46_194 : ms_G 46 194 [l0, l1, l2, .int x, l4, l5, l6, l7, l8, l9, l10, l11, l12, l13, l14] S σ = ms_G 46 195 [l0, l1, l2, .int x, l4, l5, l6, l7, l8, l9, l10, l11, l12, l13, l14] (.int x :: S) σ := (ms_G_at rfl _ _ _).trans rfl
theorem mi_46_195 : ms_G 46 195 L (.int y :: .int x :: S) σ = ms_G 46 196 L (.int (x * y) :: S) σ := (ms_G_at rfl _ _ _).trans rfl
theorem mi_46_196 : ms_G 46 196 L (.int y :: .int x :: S) σ = ms_G 46 197 L (.int (x + y) :: S) σ := (ms_G_at rfl _ _ _).trans rfl
theorem mi_46_197 : ms_G 46 197 [l0, l1, l2, l3, l4, l5, l6, l7, l8, l9, .int x, l11, l12, l13, l14] S σ = ms_G 46 199 [l0, l1, l2, l3, l4, l5, l6, l7, l8, l9, .int x, l11, l12, l13, l14] (.int x :: S) σ := (ms_G_at rfl _ _ _).trans rfl
theorem mi_46_199 : ms_G 46 199 L (.int x :: .int (nI i) :: .ref (ms_ad r u) :: S) (ms_Z q w I J) = cond (mo_0 q.1 r u i) (ms_G 46 200 L S (ms_Z q true (ms_u I r u (upd (I r u) i x)) J)) (ms_raw 46 199 L (.int x :: .int (nI i) :: .ref (ms_ad r u) :: S) (ms_Z q w I J)) := mz_iast rfl x
theorem mi_46_200 : ms_G 46 200 [.ref a, l1, l2, l3, l4, l5, l6, l7, l8, l9, l10, l11, l12, l13, l14] S σ = ms_G 46 201 [.ref a, l1, l2, l3, l4, l5, l6, l7, l8, l9, l10, l11, l12, l13, l14] (.ref a :: S) σ := (ms_G_at rfl _ _ _).trans rfl
theorem mi_46_201 : ms_G 46 201 L (.ref (ms_ad 40 0) :: S) (ms_Z q w I J) = ms_G 46 204 L (.ref (ms_ad 56 0) :: S) (ms_Z q w I J) := mz_getf (c := (2, 56)) rfl (by decide) rfl (by decide) rfl
theorem mi_46_204 : ms_G 46 204 [l0, l1, .int x, l3, l4, l5, l6, l7, l8, l9, l10, l11, l12, l13, l14] S σ = ms_G 46 205 [l0, l1, .int x, l3, l4, l5, l6, l7, l8, l9, l10, l11, l12, l13, l14] (.int x :: S) σ := (ms_G_at rfl _ _ _).trans rfl
theorem mi_46_205 : ms_G 46 205 L S σ = ms_G 46 207 L (.int (nI 8) :: S) σ := (ms_G_at rfl _ _ _).trans rfl
theorem mi_46_207 : ms_G 46 207 [l0, l1, l2, .int x, l4, l5, l6, l7, l8, l9, l10, l11, l12, l13, l14] S σ = ms_G 46 208 [l0, l1, l2, .int x, l4, l5, l6, l7, l8, l9, l10, l11, l12, l13, l14] (.int x :: S) σ := (ms_G_at rfl _ _ _).trans rfl
theorem mi_46_208 : ms_G 46 208 L (.int y :: .int x :: S) σ = ms_G 46 209 L (.int (x * y) :: S) σ := (ms_G_at rfl _ _ _).trans rfl
theorem mi_46_209 : ms_G 46 209 L (.int y :: .int x :: S) σ = ms_G 46 210 L (.int (x + y) :: S) σ := (ms_G_at rfl _ _ _).trans rfl
theorem mi_46_210 : ms_G 46 210 L S σ = ms_G 46 211 L (.int (nI 1) :: S) σ := (ms_G_at rfl _ _ _).trans rfl
theorem mi_46_211 : ms_G 46 211 L (.int y :: .int x :: S) σ = ms_G 46 212 L (.int (x + y) :: S) σ := (ms_G_at rfl _ _ _).trans rfl
theorem mi_46_212 : ms_G 46 212 [l0, l1, l2, l3, l4, l5, l6, l7, l8, l9, l10, .int x, l12, l13, l14] S σ = ms_G 46 214 [l0, l1, l2, l3, l4, l5, l6, l7, l8, l9, l10, .int x, l12, l13, l14] (.int x :: S) σ := (ms_G_at rfl _ _ _).trans rfl
theorem mi_46_214 : ms_G 46 214 L (.int x :: .int (nI i) :: .ref (ms_ad r u) :: S) (ms_Z q w I J) = cond (mo_0 q.1 r u i) (ms_G 46 215 L S (ms_Z q true (ms_u I r u (upd (I r u) i x)) J)) (ms_raw 46 214 L (.int x :: .int (nI i) :: .ref (ms_ad r u) :: S) (ms_Z q w I J)) := mz_iast rfl x
theorem mi_46_215 : ms_G 46 215 [.ref a, l1, l2, l3, l4, l5, l6, l7, l8, l9, l10, l11, l12, l13, l14] S σ = ms_G 46 216 [.ref a, l1, l2, l3, l4, l5, l6, l7, l8, l9, l10, l11, l12, l13, l14] (.ref a :: S) σ := (ms_G_at rfl _ _ _).trans rfl
theorem mi_46_216 : ms_G 46 216 L (.ref (ms_ad 40 0) :: S) (ms_Z q w I J) = ms_G 46 219 L (.ref (ms_ad 56 0) :: S) (ms_Z q w I J) := mz_getf (c := (2, 56)) rfl (by decide) rfl (by decide) rfl
theorem mi_46_219 : ms_G 46 219 [l0, l1, .int x, l3, l4, l5, l6, l7, l8, l9, l10, l11, l12, l13, l14] S σ = ms_G 46 220 [l0, l1, .int x, l3, l4, l5, l6, l7, l8, l9, l10, l11, l12, l13, l14] (.int x :: S) σ := (ms_G_at rfl _ _ _).trans rfl
theorem mi_46_220 : ms_G 46 220 L S σ = ms_G 46 222 L (.int (nI 8) :: S) σ := (ms_G_at rfl _ _ _).trans rfl
theorem mi_46_222 : ms_G 46 222 [l0, l1, l2, .int x, l4, l5, l6, l7, l8, l9, l10, l11, l12, l13, l14] S σ = ms_G 46 223 [l0, l1, l2, .int x, l4, l5, l6, l7, l8, l9, l10, l11, l12, l13, l14] (.int x :: S) σ := (ms_G_at rfl _ _ _).trans rfl
theorem mi_46_223 : ms_G 46 223 L (.int y :: .int x :: S) σ = ms_G 46 224 L (.int (x * y) :: S) σ := (ms_G_at rfl _ _ _).trans rfl
theorem mi_46_224 : ms_G 46 224 L (.int y :: .int x :: S) σ = ms_G 46 225 L (.int (x + y) :: S) σ := (ms_G_at rfl _ _ _).trans rfl
theorem mi_46_225 : ms_G 46 225 L S σ = ms_G 46 226 L (.int (nI 2) :: S) σ := (ms_G_at rfl _ _ _).trans rfl
theorem mi_46_226 : ms_G 46 226 L (.int y :: .int x :: S) σ = ms_G 46 227 L (.int (x + y) :: S) σ := (ms_G_at rfl _ _ _).trans rfl
theorem mi_46_227 : ms_G 46 227 [l0, l1, l2, l3, l4, l5, l6, l7, l8, l9, l10, l11, .int x, l13, l14] S σ = ms_G 46 229 [l0, l1, l2, l3, l4, l5, l6, l7, l8, l9, l10, l11, .int x, l13, l14] (.int x :: S) σ := (ms_G_at rfl _ _ _).trans rfl
theorem mi_46_229 : ms_G 46 229 L (.int x :: .int (nI i) :: .ref (ms_ad r u) :: S) (ms_Z q w I J) = cond (mo_0 q.1 r u i) (ms_G 46 230 L S (ms_Z q true (ms_u I r u (upd (I r u) i x)) J)) (ms_raw 46 229 L (.int x :: .int (nI i) :: .ref (ms_ad r u) :: S) (ms_Z q w I J)) := mz_iast rfl x
theorem mi_46_230 : ms_G 46 230 [.ref a, l1, l2, l3, l4, l5, l6, l7, l8, l9, l10, l11, l12, l13, l14] S σ = ms_G 46 231 [.ref a, l1, l2, l3, l4, l5, l6, l7, l8, l9, l10, l11, l12, l13, l14] (.ref a :: S) σ := (ms_G_at rfl _ _ _).trans rfl
theorem mi_46_231 : ms_G 46 231 L (.ref (ms_ad 40 0) :: S) (ms_Z q w I J) = ms_G 46 234 L (.ref (ms_ad 56 0) :: S) (ms_Z q w I J) := mz_getf (c := (2, 56)) rfl (by decide) rfl (by decide) rfl
theorem mi_46_234 : ms_G 46 234 [l0, l1, .int x, l3, l4, l5, l6, l7, l8, l9, l10, l11, l12, l13, l14] S σ = ms_G 46 235 [l0, l1, .int x, l3, l4, l5, l6, l7, l8, l9, l10, l11, l12, l13, l14] (.int x :: S) σ := (ms_G_at rfl _ _ _).trans rfl
theorem mi_46_235 : ms_G 46 235 L S σ = ms_G 46 237 L (.int (nI 8) :: S) σ := (ms_G_at rfl _ _ _).trans rfl
theorem mi_46_237 : ms_G 46 237 [l0, l1, l2, .int x, l4, l5, l6, l7, l8, l9, l10, l11, l12, l13, l14] S σ = ms_G 46 238 [l0, l1, l2, .int x, l4, l5, l6, l7, l8, l9, l10, l11, l12, l13, l14] (.int x :: S) σ := (ms_G_at rfl _ _ _).trans rfl
theorem mi_46_238 : ms_G 46 238 L (.int y :: .int x :: S) σ = ms_G 46 239 L (.int (x * y) :: S) σ := (ms_G_at rfl _ _ _).trans rfl
theorem mi_46_239 : ms_G 46 239 L (.int y :: .int x :: S) σ = ms_G 46 240 L (.int (x + y) :: S) σ := (ms_G_at rfl _ _ _).trans rfl
theorem mi_46_240 : ms_G 46 240 L S σ = ms_G 46 241 L (.int (nI 3) :: S) σ := (ms_G_at rfl _ _ _).trans rfl
theorem mi_46_241 : ms_G 46 241 L (.int y :: .int x :: S) σ = ms_G 46 242 L (.int (x + y) :: S) σ := (ms_G_at rfl _ _ _).trans rfl
theorem mi_46_242 : ms_G 46 242 [l0, l1, l2, l3, l4, l5, l6, l7, l8, l9, l10, l11, l12, .int x, l14] S σ = ms_G 46 244 [l0, l1, l2, l3, l4, l5, l6, l7, l8, l9, l10, l11, l12, .int x, l14] (.int x :: S) σ := (ms_G_at rfl _ _ _).trans rfl
theorem mi_46_244 : ms_G 46 244 L (.int x :: .int (nI i) :: .ref (ms_ad r u) :: S) (ms_Z q w I J) = cond (mo_0 q.1 r u i) (ms_G 46 245 L S (ms_Z q true (ms_u I r u (upd (I r u) i x)) J)) (ms_raw 46 244 L (.int x :: .int (nI i) :: .ref (ms_ad r u) :: S) (ms_Z q w I J)) := mz_iast rfl x
theorem mi_46_245 : ms_G 46 245 L S σ = ms_G 46 246 L (.int (nI 0) :: S) σ := (ms_G_at rfl _ _ _).trans rfl
theorem mi_46_246 : ms_G 46 246 [l0, l1, l2, l3, l4, l5, l6, l7, l8, l9, l10, l11, l12, .int y, l14] (.int x :: S) σ = ms_G 46 248 [l0, l1, l2, l3, l4, l5, l6, l7, l8, l9, l10, l11, l12, .int y, .int x] S σ := (ms_G_at rfl _ _ _).trans rfl
theorem mi_46_248 : ms_G 46 248 [l0, l1, l2, l3, l4, l5, l6, l7, l8, l9, l10, l11, l12, l13, .int x] S σ = ms_G 46 250 [l0, l1, l2, l3, l4, l5, l6, l7, l8, l9, l10, l11, l12, l13, .int x] (.int x :: S) σ := (ms_G_at rfl _ _ _).trans rfl
theorem mi_46_250 : ms_G 46 250 L S σ = ms_G 46 251 L (.int (nI 4) :: S) σ := (ms_G_at rfl _ _ _).trans rfl
theorem mi_46_251 : ms_G 46 251 L (.int y :: .int x :: S) σ = if y ≤ x then ms_G 46 283 L S σ else ms_G 46 254 L S σ := mz_bra rfl rfl rfl
theorem mi_46_254 : ms_G 46 254 [.ref a, l1, l2, l3, l4, l5, l6, l7, l8, l9, l10, l11, l12, l13, l14] S σ = ms_G 46 255 [.ref a, l1, l2, l3, l4, l5, l6, l7, l8, l9, l10, l11, l12, l13, l14] (.ref a :: S) σ := (ms_G_at rfl _ _ _).trans rfl
theorem mi_46_255 : ms_G 46 255 L (.ref (ms_ad 40 0) :: S) (ms_Z q w I J) = ms_G 46 258 L (.ref (ms_ad 56 0) :: S) (ms_Z q w I J) := mz_getf (c := (2, 56)) rfl (by decide) rfl (by decide) rfl
theorem mi_46_258 : ms_G 46 258 [l0, l1, .int x, l3, l4, l5, l6, l7, l8, l9, l10, l11, l12, l13, l14] S σ = ms_G 46 259 [l0, l1, .int x, l3, l4, l5, l6, l7, l8, l9, l10, l11, l12, l13, l14] (.int x :: S) σ := (ms_G_at rfl _ _ _).trans rfl
theorem mi_46_259 : ms_G 46 259 L S σ = ms_G 46 261 L (.int (nI 8) :: S) σ := (ms_G_at rfl _ _ _).trans rfl
theorem mi_46_261 : ms_G 46 261 [l0, l1, l2, .int x, l4, l5, l6, l7, l8, l9, l10, l11, l12, l13, l14] S σ = ms_G 46 262 [l0, l1, l2, .int x, l4, l5, l6, l7, l8, l9, l10, l11, l12, l13, l14] (.int x :: S) σ := (ms_G_at rfl _ _ _).trans rfl
theorem mi_46_262 : ms_G 46 262 L (.int y :: .int x :: S) σ = ms_G 46 263 L (.int (x * y) :: S) σ := (ms_G_at rfl _ _ _).trans rfl
theorem mi_46_263 : ms_G 46 263 L (.int y :: .int x :: S) σ = ms_G 46 264 L (.int (x + y) :: S) σ := (ms_G_at rfl _ _ _).trans rfl
theorem mi_46_264 : ms_G 46 264 L S σ = ms_G 46 265 L (.int (nI 4) :: S) σ := (ms_G_at rfl _ _ _).trans rfl
theorem mi_46_265 : ms_G 46 265 L (.int y :: .int x :: S) σ = ms_G 46 266 L (.int (x + y) :: S) σ := (ms_G_at rfl _ _ _).trans rfl
set_option maxRecDepth 20000 in
theorem mi_46_266 : ms_G 46 266 [l0, l1, l2, l3, l4, l5, l6, l7, l8, l9, l10, l11, l12, l13, .int x] S σ = ms_G 46 268 [l0, l1, l2, l3, l4, l5, l6, l7, l8, l9, l10, l11, l12, l13, .int x] (.int x :: S) σ := (ms_G_at rfl _ _ _).trans rfl
set_option maxRecDepth 20000 in
theorem mi_46_268 : ms_G 46 268 L (.int y :: .int x :: S) σ = ms_G 46 269 L (.int (x + y) :: S) σ := (ms_G_at rfl _ _ _).trans rfl
set_option maxRecDepth 20000 in
theorem mi_46_269 : ms_G 46 269 [.ref a, l1, l2, l3, l4, l5, l6, l7, l8, l9, l10, l11, l12, l13, l14] S σ = ms_G 46 270 [.ref a, l1, l2, l3, l4, l5, l6, l7, l8, l9, l10, l11, l12, l13, l14] (.ref a :: S) σ := (ms_G_at rfl _ _ _).trans rfl
set_option maxRecDepth 20000 in
theorem mi_46_270 : ms_G 46 270 L (.ref (ms_ad 40 0) :: S) (ms_Z q w I J) = ms_G 46 273 L (.ref (ms_ad 64 0) :: S) (ms_Z q w I J) := mz_getf (c := (2, 64)) rfl (by decide) rfl (by decide) rfl
set_option maxRecDepth 20000 in
theorem mi_46_273 : ms_G 46 273 [l0, l1, l2, l3, l4, l5, l6, l7, l8, l9, l10, l11, l12, l13, .int x] S σ = ms_G 46 275 [l0, l1, l2, l3, l4, l5, l6, l7, l8, l9, l10, l11, l12, l13, .int x] (.int x :: S) σ := (ms_G_at rfl _ _ _).trans rfl
set_option maxRecDepth 20000 in
theorem mi_46_275 : ms_G 46 275 L (.int (nI i) :: .ref (ms_ad r u) :: S) (ms_Z q w I J) = cond (mo_0 q.1 r u i) (ms_G 46 276 L (.int (I r u i) :: S) (ms_Z q w I J)) (ms_raw 46 275 L (.int (nI i) :: .ref (ms_ad r u) :: S) (ms_Z q w I J)) := mz_iald rfl
set_option maxRecDepth 20000 in
theorem mi_46_276 : ms_G 46 276 L (.int x :: .int (nI i) :: .ref (ms_ad r u) :: S) (ms_Z q w I J) = cond (mo_0 q.1 r u i) (ms_G 46 277 L S (ms_Z q true (ms_u I r u (upd (I r u) i x)) J)) (ms_raw 46 276 L (.int x :: .int (nI i) :: .ref (ms_ad r u) :: S) (ms_Z q w I J)) := mz_iast rfl x
set_option maxRecDepth 20000 in
theorem mi_46_277 : ms_G 46 277 [l0, l1, l2, l3, l4, l5, l6, l7, l8, l9, l10, l11, l12, .int y, .int x] S σ = ms_G 46 280 [l0, l1, l2, l3, l4, l5, l6, l7, l8, l9, l10, l11, l12, .int y, .int (x + nI 1)] S σ := (ms_G_at rfl _ _ _).trans rfl
set_option maxRecDepth 20000 in
theorem mi_46_280 : ms_G 46 280 L S σ = ms_G 46 248 L S σ := (ms_G_at rfl _ _ _).trans rfl
set_option maxRecDepth 20000 in
theorem mi_46_283 : ms_G 46 283 [l0, l1, .int y, .int x, l4, l5, l6, l7, l8, l9, l10, l11, l12, l13, l14] S σ = ms_G 46 286 [l0, l1, .int y, .int (x + nI 1), l4, l5, l6, l7, l8, l9, l10, l11, l12, l13, l14] S σ := (ms_G_at rfl _ _ _).trans rfl
set_option maxRecDepth 20000 in
theorem mi_46_286 : ms_G 46 286 L S σ = ms_G 46 12 L S σ := (ms_G_at rfl _ _ _).trans rfl
set_option maxRecDepth 20000 in
theorem mi_46_289 : ms_G 46 289 L [] σ = some (.inl none, σ) := (ms_G_at rfl _ _ _).trans rfl
end MsI
