/-! THE LAW'S CLOSE. -/
section LClose
variable {q : Nat × Nat} {w : Bool} {I : ms_i} {J : ms_j} {σ : ms_M}
theorem lo_close {f : Nat → Int32} (h : ms_iv f I J) : ∃ (q' : Nat × Nat) (k : Nat) (v : Int32) (w1 w2 : Bool) (I1 : ms_i) (J1 : ms_j) (I2 : ms_i) (J2 : ms_j), ms_G 137 0 [.ref (ms_ad 3 0), .ref (ms_ad 66 0), .null] [] (ms_Z q false I J) = some (.inl (some (.int (nI k))), ms_Z q' w1 I1 J1) ∧ ms_G 60 0 [.ref (ms_ad 40 0), .null, .null] [] (ms_Z q' false I1 J1) = some (.inl (some (.int v)), ms_Z q' w2 I2 J2) ∧ I2 40 0 0 = nI k ∧ k < 3 ∧ (k = 0 → J2 66 0 0 = v.toInt64) ∧ q'.1 = q.1 ∧ q'.2 ≤ q.2 + 1 ∧ I1 0 0 = f ∧ ms_iv f I2 J2 := by
  have hiv := h
  obtain ⟨h0, n, t, g, nm, hd, S, T, X, m, Q, h⟩ := h
  have hinv := h
  obtain ⟨hA, hSm, hH, hP, hX, hI, hN, hK, hF, hR, hM, hZ⟩ := h
  have hA' := hA
  have hH' := hH
  obtain ⟨a0, a1, a2, b1, b2, b3, b4, b5, n8, tn, g5, t2⟩ := hA
  obtain ⟨c1, c2, c3, c4, c5⟩ := hH
  have p8 := p2_8 n8
  have pcl := pc_le hd
  by_cases hg : g < 4
  · obtain ⟨c6, c7, c8⟩ := c4 hg
    have cnt := fun σ => sp_146 (σ := σ) (n := hd) (by omega)
    have mcnt := fun σ => sp_43 (σ := σ) (n := hd) (by omega)
    -- the model, up to the count
    have mpre : ∀ (I1 I0 : ms_i) (J1 : ms_j), I0 = ms_u I1 40 0 (upd (I1 40 0) 0 (nI 0)) → I1 40 0 = I 40 0 → I1 51 0 = I 51 0 → ms_G 60 0 [.ref (ms_ad 40 0), .null, .null] [] (ms_Z q false I1 J1) = ms_G 60 43 [.ref (ms_ad 40 0), .int (nI g), .null] [.int (nI t), .int (nI (ms_pc hd))] (ms_Z q true I0 J1) := by
      intro I1 I0 J1 e0 e40 e51
      have o := sp_36 (q := q) (I := I1) (J := J1) g5 (by rw [e40]; exact b3)
      rw [decide_eq_true hg] at o
      have z0 : I0 40 0 0 = nI 0 := by rw [e0, ms_u_s, pk_us]
      have z3 : I0 40 0 3 = nI g := by rw [e0, ms_u_s, pk_un (by decide), e40]; exact b3
      have z2 : I0 40 0 2 = nI t := by rw [e0, ms_u_s, pk_un (by decide), e40]; exact b2
      have z51 : I0 51 0 g = nI hd := by rw [e0, ms_u_r _ _ _ _ (by decide), e51]; exact c6
      simp (disch := omega) only [↓mi_60_0, ↓mi_60_1, ↓mi_60_2, ↓mi_60_5, ↓mi_60_8, ↓mi_60_9, ↓mi_60_12, ↓mi_60_13, cond_true, mz_clv, mz_cln, Bool.false_or, Bool.true_or, Bool.or_false, Bool.or_true, if_true, if_false, ite_self, o, if_neg b_t, ← e0]
      simp (disch := omega) only [↓mi_60_16, ↓mi_60_17, ↓mi_60_20, ↓mi_60_23, ↓mi_60_24, ↓mi_60_25, ↓mi_60_26, ↓mi_60_29, ↓mi_60_30, ↓mi_60_31, ↓mi_60_34, ↓mi_60_35, ↓mi_60_36, ↓mi_60_39, ↓mi_60_40, cond_true, mz_clv, mz_cln, Bool.false_or, Bool.true_or, Bool.or_false, Bool.or_true, if_true, if_false, ite_self, o0_51, z0, z3, z2, z51, na_le, if_pos, mcnt]
    by_cases hp : t ≤ ms_pc hd
    · by_cases hg3 : g < 3
      · -- the next stage
        obtain ⟨Ia, ea⟩ : ∃ Ia, Ia = ms_u I 20 0 (upd (I 20 0) g (nI hd)) := ⟨_, rfl⟩
        have fa : ms_fq [20] I Ia := by rw [ea]; exact fr_u rfl
        have ya : Ia 20 0 = upd (I 20 0) g (nI hd) := by rw [ea, ms_u_s]
        obtain ⟨x, ex⟩ : ∃ x, x = (if g = 2 then nI (nm 1) else nI hd) := ⟨_, rfl⟩
        have xa : Ia 20 0 (if g = 2 then 1 else g) = x := by
          rw [ya, ex]
          by_cases z : g = 2
          · rw [if_pos z, if_pos z, pk_un (by omega)]
            exact (c1 1 (by decide)).2.1
          · rw [if_neg z, if_neg z, pk_us]
        have bh : ∀ v, n ≤ v → v < 8 → ms_bit (nI hd) v = false := fun v a _ => bit_hi rfl c2 n8 a
        have bx : ∀ v, n ≤ v → v < 8 → ms_bit x v = false := fun v a _ => by
          rw [ex]
          by_cases z : g = 2
          · rw [if_pos z]; exact bit_hi rfl (c1 1 (by decide)).1 n8 a
          · rw [if_neg z]; exact bit_hi rfl c2 n8 a
        have m48 := ml_48 hM hg3
        obtain ⟨Ib, wb, rb, s1, s2, s3, s4, fb⟩ := aa_l (q := q) (J := J) (s := g) (m := m) (nm := nI hd) (x := x) (ky := fun v j => I 22 v j) (bx := fun v j => I 24 v j) hg3 m48 8 0 Ia false rfl (by rw [fr_at fa 14 rfl 0]; exact hM.2.1) (by rw [fr_at fa 19 rfl 0]; exact a2) (by rw [ya, pk_us]) (fun v _ j _ => by rw [fr_at fa 22 rfl v]) (fun v _ j _ => by rw [fr_at fa 24 rfl v])
        have r124 := sp_124 (q := q) (I := Ia) (J := J) hg3 (by rw [fr_at fa 19 rfl 0]; exact a2) xa rb
        obtain ⟨Ic, ec⟩ : ∃ Ic, Ic = ms_u Ib 19 0 (upd (upd (Ib 19 0) 4 (nI 0)) 2 (nI (g + 1))) := ⟨_, rfl⟩
        have fab : ms_fq [14, 16, 18, 20] I Ib := fr_tr (fr_up fa rfl) (fr_up fb rfl)
        have fac : ms_fq [14, 16, 18, 19, 20] I Ic := fr_tr (fr_up fab rfl) (by rw [ec]; exact fr_u rfl)
        have g19 : Ib 19 0 2 = nI g := by rw [fr_at fab 19 rfl 0]; exact a2
        have y19 : Ic 19 0 = upd (upd (I 19 0) 4 (nI 0)) 2 (nI (g + 1)) := by rw [ec, ms_u_s, fr_at fab 19 rfl 0]
        have r122 : ms_G 122 0 [.ref (ms_ad 19 0), .ref (ms_ad 14 0), .ref (ms_ad 4 0)] [] (ms_Z q false I J) = some (.inl none, ms_Z q true Ic J) := by
          simp (disch := omega) only [↓mi_122_0, ↓mi_122_1, ↓mi_122_4, ↓mi_122_7, ↓mi_122_8, ↓mi_122_11, ↓mi_122_27, ↓mi_122_28, ↓mi_122_31, ↓mi_122_32, ↓mi_122_35, ↓mi_122_36, ↓mi_122_39, ↓mi_122_40, ↓mi_122_43, ↓mi_122_44, ↓mi_122_47, ↓mi_122_48, ↓mi_122_49, ↓mi_122_50, cond_true, mz_clv, mz_cln, Bool.false_or, Bool.true_or, Bool.or_false, Bool.or_true, if_true, if_false, ite_self, o0_20, c3, cnt, a1, a2, na_le, if_pos, if_neg, ← ea, r124]
          simp (disch := omega) only [↓mi_122_53, ↓mi_122_54, ↓mi_122_55, ↓mi_122_58, ↓mi_122_59, ↓mi_122_60, ↓mi_122_63, ↓mi_122_64, ↓mi_122_65, ↓mi_122_68, ↓mi_122_92, cond_true, mz_clv, mz_cln, Bool.false_or, Bool.true_or, Bool.or_false, Bool.or_true, if_true, if_false, ite_self, ms_u_s, ms_u_r, ms_u_i, ms_u_u, pk_un, g19, na_up, ← ec]
        have r5 := sp_5 (v := nI (g + 1)) hg a2 r122 (by rw [y19, pk_us])
        obtain ⟨J1, ej⟩ : ∃ J1, J1 = ms_u J 66 0 (vp_updL (J 66 0) 0 (nI (g + 1)).toInt64) := ⟨_, rfl⟩
        have w1 := wr_137v r5
        rw [← ej] at w1
        -- the model
        obtain ⟨I0, e0⟩ : ∃ I0, I0 = ms_u Ic 40 0 (upd (Ic 40 0) 0 (nI 0)) := ⟨_, rfl⟩
        have pre := mpre Ic I0 J1 e0 (fr_at fac 40 rfl 0) (fr_at fac 51 rfl 0)
        have z40 : ∀ k, k ≠ 0 → I0 40 0 k = I 40 0 k := fun k hk => by rw [e0, ms_u_s, pk_un hk, fr_at fac 40 rfl 0]
        have f0 : ms_fq [14, 16, 18, 19, 20, 40] I I0 := fr_tr (fr_up fac rfl) (by rw [e0]; exact fr_u rfl)
        obtain ⟨Id, ed⟩ : ∃ Id, Id = ms_u I0 50 0 (upd (I0 50 0) g (nI hd)) := ⟨_, rfl⟩
        have fd : ms_fq [14, 16, 18, 19, 20, 40, 50] I Id := fr_tr (fr_up f0 rfl) (by rw [ed]; exact fr_u rfl)
        have yd : Id 50 0 = upd (I 50 0) g (nI hd) := by rw [ed, ms_u_s, fr_at f0 50 rfl 0]
        have d40 : Id 40 0 = I0 40 0 := by rw [ed, ms_u_r _ _ _ _ (by decide)]
        obtain ⟨Ie, re, t1, t2', t3, t4, fe⟩ := ax_l (q := q) (J := J1) (s := g) (m := m) (n := n) (nm := nI hd) (x := x) (ky := fun v j => I 22 v j) (bx := fun v j => I 24 v j) hg3 n8 m48 bh n 0 Id rfl (by rw [d40, z40 20 (by decide)]; exact hM.2.2.1) (by rw [d40, z40 1 (by decide)]; exact b1) (by rw [yd, pk_us]) (by
          rw [yd, ex]
          by_cases z : g = 2
          · rw [if_pos z, if_pos z, pk_un (by omega)]
            exact (c1 1 (by decide)).2.2
          · rw [if_neg z, if_neg z, pk_us]) (fun v hv j hj => by rw [fr_at fd 52 rfl 0]; exact ((hR v hv).1 j hj).symm) (fun v hv j hj => by rw [fr_at fd 53 rfl 0]; exact ((hR v hv).2.1 j hj).symm)
        obtain ⟨I2, e2⟩ : ∃ I2, I2 = ms_u Ie 40 0 (upd (Ie 40 0) 3 (nI (g + 1))) := ⟨_, rfl⟩
        have z51 : I0 51 0 g = nI hd := by rw [fr_at f0 51 rfl 0]; exact c6
        have e3 : Ie 40 0 3 = nI g := by rw [t2' 3 (by decide), d40, z40 3 (by decide)]; exact b3
        have y40 : I2 40 0 = upd (Ie 40 0) 3 (nI (g + 1)) := by rw [e2, ms_u_s]
        have r60 : ms_G 60 0 [.ref (ms_ad 40 0), .null, .null] [] (ms_Z q false Ic J1) = some (.inl (some (.int (nI (g + 1)))), ms_Z q true I2 J1) := by
          rw [pre]
          simp (disch := omega) only [↓mi_60_43, ↓mi_60_68, ↓mi_60_69, ↓mi_60_72, ↓mi_60_73, ↓mi_60_74, ↓mi_60_77, ↓mi_60_78, ↓mi_60_79, ↓mi_60_80, ↓mi_60_81, ↓mi_60_82, ↓mi_60_135, ↓mi_60_136, cond_true, mz_clv, mz_cln, Bool.false_or, Bool.true_or, Bool.or_false, Bool.or_true, if_true, if_false, ite_self, o0_50, o0_51, na_le, na_eq, if_pos, if_neg, z51, ← ed]
          rw [re]
          simp (disch := omega) only [↓mi_60_179, ↓mi_60_180, ↓mi_60_181, ↓mi_60_184, ↓mi_60_185, ↓mi_60_186, ↓mi_60_189, ↓mi_60_190, ↓mi_60_193, cond_true, mz_clv, mz_cln, Bool.false_or, Bool.true_or, Bool.or_false, Bool.or_true, if_true, if_false, ite_self, ms_u_s, ms_u_r, ms_u_i, ms_u_u, pk_us, e3, na_up, ← e2]
        have f2 : ms_fq [40, 56] Id I2 := fr_tr fe (by rw [e2]; exact fr_u rfl)
        have fall : ms_fq [14, 16, 18, 19, 20, 40, 50, 56] I I2 := fr_tr (fr_up fd rfl) (fr_up f2 rfl)
        have k40 : ∀ k, k ≠ 0 → k ≠ 3 → k ≠ 20 → I2 40 0 k = I 40 0 k := fun k x1 x2 x3 => by rw [y40, pk_un x2, t2' k x3, d40, z40 k x1]
        -- what was the phones' and the server's side is as after the first half
        have h2c : ∀ r, [40, 50, 56].contains r = false → ∀ v, I2 r v = Ic r v := fun r hr v => by
          rw [fr_at (fr_up (R' := [40, 50, 56]) f2 rfl) r hr v, ed, ms_u_r _ _ _ _ (fun z => by subst z; cases hr), e0, ms_u_r _ _ _ _ (fun z => by subst z; cases hr)]
        have i16 : I2 16 0 = Ib 16 0 := by rw [h2c 16 rfl, ec, ms_u_r _ _ _ _ (by decide)]
        have i18 : ∀ p, I2 18 p = Ib 18 p := fun p => by rw [h2c 18 rfl, ec, ms_u_r _ _ _ _ (by decide)]
        have i14 : I2 14 0 = Ib 14 0 := by rw [h2c 14 rfl, ec, ms_u_r _ _ _ _ (by decide)]
        have i19 : I2 19 0 = upd (upd (I 19 0) 4 (nI 0)) 2 (nI (g + 1)) := by rw [h2c 19 rfl, y19]
        have i20 : I2 20 0 = upd (I 20 0) g (nI hd) := by rw [h2c 20 rfl, ec, ms_u_r _ _ _ _ (by decide), fr_at fb 20 rfl 0, ya]
        have i50 : I2 50 0 = upd (I 50 0) g (nI hd) := by rw [fr_at f2 50 rfl 0, yd]
        have i56 : I2 56 0 = Ie 56 0 := by rw [e2, ms_u_r _ _ _ _ (by decide)]
        refine ⟨q, 0, nI (g + 1), true, true, Ic, J1, I2, J1, w1, r60, ?_, by decide, fun _ => by rw [ej, ms_u_s, pk_uLs], rfl, by omega, by rw [fr_at fac 0 rfl 0]; exact h0, ?_⟩
        · rw [y40, pk_un (by decide), t2' 0 (by decide), d40, e0, ms_u_s, pk_us]
        · refine ⟨by rw [fr_at fall 0 rfl 0]; exact h0, n, t, g + 1, ms_sN nm g hd, 0, S, T, X, m + ms_ct x 8, ms_qa Q m g x 8, ?_⟩
          refine ⟨?_, ?_, ?_, ?_, ?_, ?_, ?_, ?_, ?_, ?_, ?_, ?_⟩
          · refine ⟨by rw [i19]; exact a0, by rw [i19]; exact a1, by rw [i19, pk_us], by rw [k40 1 (by decide) (by decide) (by decide)]; exact b1, by rw [k40 2 (by decide) (by decide) (by decide)]; exact b2, by rw [y40, pk_us], ?_, ?_, n8, tn, by omega, fun _ => t2 hg⟩
            · rw [k40 4 (by decide) (by decide) (by decide), i19, pk_un (by decide), pk_un (by decide)]
              exact b4
            · rw [k40 23 (by decide) (by decide) (by decide), b5, decide_eq_false (by omega), decide_eq_false (by omega)]
          · intro z
            omega
          · refine ⟨fun k hk => ?_, Nat.two_pow_pos n, by rw [i19, pk_un (by decide), pk_us], fun z => ?_, fun z => by omega⟩
            · rw [i20, i50]
              by_cases e : k = g
              · subst e
                rw [sN_s, pk_us, pk_us]
                exact ⟨c2, rfl, rfl⟩
              · rw [sN_n e, pk_un e, pk_un e]
                exact c1 k hk
            · rw [fr_at fall 51 rfl 0, i19]
              refine ⟨c7 (g + 1) (by omega) z, fun k k1 k2 => c7 k (by omega) k2, ?_⟩
              rw [pk_un (by decide), pk_un (by decide)]
              exact c8
          · intro u hu
            rw [fr_at fall 31 rfl u, fr_at fall 43 rfl 0, fr_at fall 44 rfl 0, fr_at fall 45 rfl 0, fr_at fall 46 rfl 0]
            exact hP u hu
          · intro u hu k hk
            rw [ej, ms_u_r _ _ _ _ (by decide), ms_u_r _ _ _ _ (by decide)]
            exact hX u hu k hk
          · intro u hu k hk
            rw [fr_at fall 33 rfl u, fr_at fall 42 rfl 0]
            exact hI u hu k hk
          · intro u hu
            rw [fr_at fall 36 rfl u, fr_at fall 47 rfl 0]
            exact hN u hu
          · intro u hu
            rw [fr_at fall 37 rfl u, fr_at fall 48 rfl 0, fr_at fall 38 rfl u, fr_at fall 49 rfl 0]
            exact hK u hu
          · intro _ u hu hs v hv
            rw [ej, ms_u_r _ _ _ _ (by decide), ms_u_r _ _ _ _ (by decide)]
            exact hF hg u hu hs v hv
          · intro u hu
            rw [fr_at fall 22 rfl u, fr_at fall 52 rfl 0, fr_at fall 24 rfl u, fr_at fall 53 rfl 0, fr_at fall 26 rfl u, fr_at fall 54 rfl 0, fr_at fall 28 rfl u, fr_at fall 55 rfl 0]
            exact hR u hu
          · have vn : ∀ v, v < 8 → ms_bit x v = true → v < n := fun v hv hb => by
              rcases Nat.lt_or_ge v n with z | z
              · exact z
              · rw [bx v z hv] at hb; cases hb
            have core := mc_l2 (I := I) (I' := I2) (x := x) (W := fun v i => ms_an g v (nI hd) (fun v j => I 22 v j) (fun v j => I 24 v j) i) hM hg3 (fun k hk => by rw [i16, s3 k (by omega), fr_at fa 16 rfl 0]) (fun i hi => by rw [i56, t4 i (by omega), fr_at fd 56 rfl 0]) (fun p hp => by rw [i18, s4 p (fun v _ hv hb => hp v hv hb), fr_at fa 18 rfl p]) (fun v hv hb => by rw [i16]; exact (s2 v (by omega) hv hb).1) (fun v hv hb i hi => by rw [i18]; exact (s2 v (by omega) hv hb).2 i hi) (fun v hv hb => by rw [i56]; exact t3 v (by omega) (vn v hv hb) hb) 8 (Nat.le_refl 8)
            have lc := ct_le x 8
            refine ⟨by omega, by rw [i14]; exact s1, ?_, fun k hk => ?_, core.2⟩
            · rw [y40, pk_un (by decide), t1, ct_hi bx 8 n8 (Nat.le_refl 8)]
            · obtain ⟨d1, d2, d3, d4⟩ := core.1 k hk
              refine ⟨d1, d2, ?_, d4⟩
              rcases d3 with d3 | ⟨v, d5, d6⟩
              · exact ⟨d3.1, fun z => by have := d3.2 z; omega⟩
              · rw [d6]
                exact ⟨fun z => by omega, fun _ => by omega⟩
          · intro j a b
            rw [fr_at fall 6 rfl 0]
            exact hZ j a b
      · -- the end
        have eg : g = 3 := by omega
        subst eg
        obtain ⟨Ia, ra, sa, fa, za⟩ := sp_127 (q := q) (I := I) (J := J) (t := t) (n1 := nI (nm 1)) (n2 := nI (nm 2)) (hd := nI hd) (shr := fun w i => I 28 w i) (msk := fun v i => I 26 v i) (ky := fun v i => I 22 v i) (by omega) hZ a1 c3 (c1 1 (by decide)).2.1 (c1 2 (by decide)).2.1 (fun _ _ _ _ => rfl) (fun _ _ _ _ => rfl) (fun _ _ _ _ => rfl)
        obtain ⟨B, eB⟩ : ∃ B, B = ms_ao (ms_okv t (nI (nm 1)) (nI hd) (fun w i => I 28 w i)) 8 0 := ⟨_, rfl⟩
        rw [← eB] at ra sa
        have fa' : ms_fq [6, 7, 12, 13, 29] I Ia := fun r hr => by
          funext u
          simp only [List.mem_cons, List.not_mem_nil, or_false, not_or] at hr
          exact fa r u (by omega) (by omega) (by omega) (by omega) (Or.inl (by omega))
        obtain ⟨g', eg'⟩ : ∃ g', g' = if B = true then 4 else 5 := ⟨_, rfl⟩
        obtain ⟨f19, ef⟩ : ∃ f19 : Nat → Int32, f19 = if B = true then upd (I 19 0) 2 (nI 4) else upd (upd (I 19 0) 2 (nI 5)) 3 (nI 5) := ⟨_, rfl⟩
        obtain ⟨Ic, ec⟩ : ∃ Ic, Ic = ms_u Ia 19 0 f19 := ⟨_, rfl⟩
        have y19 : Ic 19 0 = f19 := by rw [ec, ms_u_s]
        have a19 : Ia 19 0 = I 19 0 := fr_at fa' 19 rfl 0
        have v19 : f19 2 = nI g' := by
          rw [ef, eg']
          cases B with
          | true => rfl
          | false => rfl
        have r122 : ms_G 122 0 [.ref (ms_ad 19 0), .ref (ms_ad 14 0), .ref (ms_ad 4 0)] [] (ms_Z q false I J) = some (.inl none, ms_Z q true Ic J) := by
          cases hB : B with
          | true =>
            rw [hB] at ra
            rw [hB, if_pos rfl, ← a19] at ef
            rw [ef] at ec
            simp (disch := omega) only [↓mi_122_0, ↓mi_122_1, ↓mi_122_4, ↓mi_122_7, ↓mi_122_8, ↓mi_122_11, ↓mi_122_27, ↓mi_122_28, ↓mi_122_31, ↓mi_122_32, ↓mi_122_71, ↓mi_122_72, ↓mi_122_73, ↓mi_122_76, ↓mi_122_79, ↓mi_122_80, ↓mi_122_81, ↓mi_122_84, ↓mi_122_92, cond_true, mz_clv, mz_cln, Bool.false_or, Bool.true_or, Bool.or_false, Bool.or_true, if_true, if_false, ite_self, c3, cnt, a1, a2, na_le, if_pos, ra, if_neg b_t, ← ec]
          | false =>
            rw [hB] at ra
            rw [hB, if_neg Bool.false_ne_true, ← a19] at ef
            rw [ef] at ec
            simp (disch := omega) only [↓mi_122_0, ↓mi_122_1, ↓mi_122_4, ↓mi_122_7, ↓mi_122_8, ↓mi_122_11, ↓mi_122_27, ↓mi_122_28, ↓mi_122_31, ↓mi_122_32, ↓mi_122_71, ↓mi_122_72, ↓mi_122_73, ↓mi_122_76, ↓mi_122_87, ↓mi_122_88, ↓mi_122_89, ↓mi_122_92, cond_true, mz_clv, mz_cln, Bool.false_or, Bool.true_or, Bool.or_false, Bool.or_true, if_true, if_false, ite_self, c3, cnt, a1, a2, na_le, if_pos, ra, if_pos b_f, sp_123, ← ec]
        have r5 := sp_5 (v := nI g') (by decide) a2 r122 (by rw [y19, v19])
        obtain ⟨J1, ej⟩ : ∃ J1, J1 = ms_u J 66 0 (vp_updL (J 66 0) 0 (nI g').toInt64) := ⟨_, rfl⟩
        have w1 := wr_137v r5
        rw [← ej] at w1
        have fac : ms_fq [6, 7, 12, 13, 19, 29] I Ic := fr_tr (fr_up fa' rfl) (by rw [ec]; exact fr_u rfl)
        obtain ⟨I0, e0⟩ : ∃ I0, I0 = ms_u Ic 40 0 (upd (Ic 40 0) 0 (nI 0)) := ⟨_, rfl⟩
        have pre := mpre Ic I0 J1 e0 (fr_at fac 40 rfl 0) (fr_at fac 51 rfl 0)
        have z40 : ∀ k, k ≠ 0 → I0 40 0 k = I 40 0 k := fun k hk => by rw [e0, ms_u_s, pk_un hk, fr_at fac 40 rfl 0]
        have f0 : ms_fq [6, 7, 12, 13, 19, 29, 40] I I0 := fr_tr (fr_up fac rfl) (by rw [e0]; exact fr_u rfl)
        obtain ⟨Id, ed⟩ : ∃ Id, Id = ms_u (ms_u I0 50 0 (upd (I0 50 0) 3 (nI hd))) 40 0 (upd (I0 40 0) 33 (nI 3)) := ⟨_, rfl⟩
        have fd : ms_fq [6, 7, 12, 13, 19, 29, 40, 50] I Id := fr_tr (fr_up f0 rfl) (by rw [ed]; exact fr_tr (fr_u rfl) (fr_u rfl))
        have d50 : Id 50 0 = upd (I 50 0) 3 (nI hd) := by rw [ed, ms_u_r _ _ _ _ (by decide), ms_u_s, fr_at f0 50 rfl 0]
        have d40 : Id 40 0 = upd (I0 40 0) 33 (nI 3) := by rw [ed, ms_u_s]
        obtain ⟨Ie, Je, re, se, fe, fje⟩ := sp_59 (q := q) (I := Id) (J := J1) (t := t) (n := n) (n1 := nI (nm 1)) (n2 := nI (nm 2)) (hd := nI hd) (shr := fun w i => I 28 w i) (msk := fun v i => I 26 v i) (ky := fun v i => I 22 v i) (by omega) n8 (by have := t2 (by decide); omega) (fun u a _ => bit_hi rfl (c1 1 (by decide)).1 n8 a) (fun u a _ => bit_hi rfl (c1 2 (by decide)).1 n8 a) (fun u a => bit_hi rfl c2 n8 a) (by rw [d40, pk_un (by decide), z40 1 (by decide)]; exact b1) (by rw [d40, pk_un (by decide), z40 2 (by decide)]; exact b2) (by rw [d50, pk_un (by decide)]; exact (c1 1 (by decide)).2.2) (by rw [d50, pk_un (by decide)]; exact (c1 2 (by decide)).2.2) (by rw [fr_at fd 51 rfl 0]; exact c6) (fun u hu i hi => by rw [fr_at fd 52 rfl 0]; exact ((hR u hu).1 i (by omega)).symm) (fun u hu i hi => by rw [fr_at fd 54 rfl 0]; exact ((hR u hu).2.2.1 i hi).symm) (fun u hu i hi => by rw [fr_at fd 55 rfl 0]; exact ((hR u hu).2.2.2 i hi).symm)
        rw [← eB] at re se
        obtain ⟨I2, e2⟩ : ∃ I2, I2 = ms_u Ie 40 0 (upd (upd (upd (Ie 40 0) 23 (ms_b B)) 4 (if B = true then nI 0 else nI 5)) 3 (nI g')) := ⟨_, rfl⟩
        have z51 : I0 51 0 3 = nI hd := by rw [fr_at f0 51 rfl 0]; exact c6
        have r60 : ms_G 60 0 [.ref (ms_ad 40 0), .null, .null] [] (ms_Z q false Ic J1) = some (.inl (some (.int (nI g'))), ms_Z q true I2 Je) := by
          rw [pre]
          simp (disch := omega) only [↓mi_60_43, ↓mi_60_68, ↓mi_60_69, ↓mi_60_72, ↓mi_60_73, ↓mi_60_74, ↓mi_60_77, ↓mi_60_78, ↓mi_60_79, ↓mi_60_80, ↓mi_60_81, ↓mi_60_82, ↓mi_60_85, ↓mi_60_86, ↓mi_60_87, cond_true, mz_clv, mz_cln, Bool.false_or, Bool.true_or, Bool.or_false, Bool.or_true, if_true, if_false, ite_self, ms_u_s, ms_u_r, ms_u_i, ms_u_u, o0_50, o0_51, na_le, na_eq, if_pos, z51, ← ed]
          cases hB : B with
          | true =>
            rw [hB] at re e2 eg'
            rw [if_pos rfl] at eg' e2
            subst eg'
            simp (disch := omega) only [↓mi_60_90, ↓mi_60_91, ↓mi_60_92, mi_60_95, ↓mi_60_98, ↓mi_60_99, ↓mi_60_100, ↓mi_60_103, ↓mi_60_106, ↓mi_60_107, ↓mi_60_110, ↓mi_60_111, ↓mi_60_114, ↓mi_60_115, ↓mi_60_116, ↓mi_60_119, ↓mi_60_122, ↓mi_60_123, ↓mi_60_126, ↓mi_60_127, ↓mi_60_130, ↓mi_60_131, ↓mi_60_134, cond_true, mz_clv, mz_cln, Bool.false_or, Bool.true_or, Bool.or_false, Bool.or_true, if_true, if_false, ite_self, ms_u_s, ms_u_r, ms_u_i, ms_u_u, pk_us, pk_un, re, if_neg b_t, ← e2]
          | false =>
            rw [hB] at re e2 eg'
            rw [if_neg Bool.false_ne_true] at eg' e2
            subst eg'
            simp (disch := omega) only [↓mi_60_90, ↓mi_60_91, ↓mi_60_92, mi_60_95, ↓mi_60_98, ↓mi_60_99, ↓mi_60_100, ↓mi_60_103, ↓mi_60_106, ↓mi_60_107, ↓mi_60_110, ↓mi_60_111, ↓mi_60_114, ↓mi_60_115, ↓mi_60_116, ↓mi_60_119, ↓mi_60_122, ↓mi_60_123, ↓mi_60_126, ↓mi_60_127, ↓mi_60_130, ↓mi_60_131, ↓mi_60_134, cond_true, mz_clv, mz_cln, Bool.false_or, Bool.true_or, Bool.or_false, Bool.or_true, if_true, if_false, ite_self, ms_u_s, ms_u_r, ms_u_i, ms_u_u, pk_us, pk_un, re, if_pos b_f, ← e2]
        have f2 : ms_fq [40, 57, 58, 59] Id I2 := fr_tr (fr_up fe rfl) (by rw [e2]; exact fr_u rfl)
        have fall : ms_fq [6, 7, 12, 13, 19, 29, 40, 50, 57, 58, 59] I I2 := fr_tr (fr_up fd rfl) (fr_up f2 rfl)
        have e40 : Ie 40 0 = upd (I0 40 0) 33 (nI 3) := by rw [fr_at fe 40 rfl 0, d40]
        have y40 : I2 40 0 = upd (upd (upd (upd (I0 40 0) 33 (nI 3)) 23 (ms_b B)) 4 (if B = true then nI 0 else nI 5)) 3 (nI g') := by rw [e2, ms_u_s, e40]
        have h2c : ∀ r, [40, 50, 57, 58, 59].contains r = false → ∀ v, I2 r v = Ic r v := fun r hr v => by
          rw [fr_at (fr_up (R' := [40, 50, 57, 58, 59]) f2 rfl) r hr v, ed, ms_u_r _ _ _ _ (fun z => by subst z; cases hr), ms_u_r _ _ _ _ (fun z => by subst z; cases hr), e0, ms_u_r _ _ _ _ (fun z => by subst z; cases hr)]
        have i19 : I2 19 0 = f19 := by rw [h2c 19 rfl, y19]
        have i20 : I2 20 0 = I 20 0 := fr_at fall 20 rfl 0
        have i50 : I2 50 0 = upd (I 50 0) 3 (nI hd) := by rw [fr_at f2 50 rfl 0, d50]
        have l45 : 4 ≤ g' ∧ g' ≤ 5 := by rw [eg']; cases B <;> decide
        have fj : ms_fq [40, 66] J Je := fr_tr (by rw [ej]; exact fr_u rfl) (fr_up fje rfl)
        refine ⟨q, 0, nI g', true, true, Ic, J1, I2, Je, w1, r60, ?_, by decide, fun _ => by rw [fr_at fje 66 rfl 0, ej, ms_u_s, pk_uLs], rfl, by omega, by rw [fr_at fac 0 rfl 0]; exact h0, ?_⟩
        · rw [y40, pk_un (by decide), pk_un (by decide), pk_un (by decide), pk_un (by decide), e0, ms_u_s, pk_us]
        · refine ⟨by rw [fr_at fall 0 rfl 0]; exact h0, n, t, g', nm, hd, S, T, X, m, Q, ?_⟩
          refine ⟨?_, ?_, ?_, ?_, ?_, ?_, ?_, ?_, ?_, ?_, ?_, ?_⟩
          · refine ⟨?_, ?_, by rw [i19, v19], ?_, ?_, by rw [y40, pk_us], ?_, ?_, n8, tn, l45.2, fun z => by omega⟩
            · rw [i19, ef]; cases B <;> exact a0
            · rw [i19, ef]; cases B <;> exact a1
            · rw [y40, pk_un (by decide), pk_un (by decide), pk_un (by decide), pk_un (by decide), z40 1 (by decide)]; exact b1
            · rw [y40, pk_un (by decide), pk_un (by decide), pk_un (by decide), pk_un (by decide), z40 2 (by decide)]; exact b2
            · rw [y40, pk_un (by decide), pk_us, i19, ef]
              cases B with
              | true => exact c8.symm
              | false => rfl
            · rw [y40, pk_un (by decide), pk_un (by decide), pk_us, eg']
              cases B <;> rfl
          · intro z i hi
            have hB : B = true := by
              cases B with
              | true => rfl
              | false => rw [if_neg Bool.false_ne_true] at eg'; omega
            rw [e2, ms_u_r _ _ _ _ (by decide), se hB i hi, ← e2, h2c 29 rfl, ec, ms_u_r _ _ _ _ (by decide), sa hB i hi]
          · refine ⟨fun k hk => ?_, c2, ?_, fun z => by omega, fun _ => ⟨3, by decide, ?_, ?_⟩⟩
            · rw [i20, i50, pk_un (by omega)]
              exact c1 k hk
            · rw [i19, ef]; cases B <;> exact c3
            · rw [y40, pk_un (by decide), pk_un (by decide), pk_un (by decide), pk_us]
            · rw [fr_at fall 51 rfl 0]; exact c6
          · intro u hu
            rw [fr_at fall 31 rfl u, fr_at fall 43 rfl 0, fr_at fall 44 rfl 0, fr_at fall 45 rfl 0, fr_at fall 46 rfl 0]
            exact hP u hu
          · intro u hu k hk
            rw [fr_at fj 32 rfl u, fr_at fj 41 rfl 0]
            exact hX u hu k hk
          · intro u hu k hk
            rw [fr_at fall 33 rfl u, fr_at fall 42 rfl 0]
            exact hI u hu k hk
          · intro u hu
            rw [fr_at fall 36 rfl u, fr_at fall 47 rfl 0]
            exact hN u hu
          · intro u hu
            rw [fr_at fall 37 rfl u, fr_at fall 48 rfl 0, fr_at fall 38 rfl u, fr_at fall 49 rfl 0]
            exact hK u hu
          · intro z
            omega
          · intro u hu
            rw [fr_at fall 22 rfl u, fr_at fall 52 rfl 0, fr_at fall 24 rfl u, fr_at fall 53 rfl 0, fr_at fall 26 rfl u, fr_at fall 54 rfl 0, fr_at fall 28 rfl u, fr_at fall 55 rfl 0]
            exact hR u hu
          · refine ml_keep hM (fun p z => ⟨z.1, fun z2 => by have := z.2 z2; omega⟩) (by rw [fr_at fall 14 rfl 0]) ?_ (fr_at fall 16 rfl 0) (fun p => fr_at fall 18 rfl p) (fr_at fall 56 rfl 0)
            rw [y40, pk_un (by decide), pk_un (by decide), pk_un (by decide), pk_un (by decide), z40 20 (by decide)]
          · intro j a b
            rw [h2c 6 rfl, ec, ms_u_r _ _ _ _ (by decide)]
            exact za j a b
    · -- too few
      obtain ⟨Ic, ec⟩ : ∃ Ic, Ic = ms_u I 19 0 (upd (upd (I 19 0) 2 (nI 5)) 3 (nI (1 + g))) := ⟨_, rfl⟩
      have fac : ms_fq [19] I Ic := by rw [ec]; exact fr_u rfl
      have y19 : Ic 19 0 = upd (upd (I 19 0) 2 (nI 5)) 3 (nI (1 + g)) := by rw [ec, ms_u_s]
      have r122 : ms_G 122 0 [.ref (ms_ad 19 0), .ref (ms_ad 14 0), .ref (ms_ad 4 0)] [] (ms_Z q false I J) = some (.inl none, ms_Z q true Ic J) := by
        simp (disch := omega) only [↓mi_122_0, ↓mi_122_1, ↓mi_122_4, ↓mi_122_7, ↓mi_122_8, ↓mi_122_11, ↓mi_122_14, ↓mi_122_15, ↓mi_122_16, ↓mi_122_17, ↓mi_122_20, ↓mi_122_21, ↓mi_122_24, ↓mi_122_92, cond_true, mz_clv, mz_cln, Bool.false_or, Bool.true_or, Bool.or_false, Bool.or_true, if_true, if_false, ite_self, c3, cnt, a1, a2, na_le, na_up, if_neg, sp_123, ← ec]
      have r5 := sp_5 (v := nI 5) hg a2 r122 (by rw [y19]; rfl)
      obtain ⟨J1, ej⟩ : ∃ J1, J1 = ms_u J 66 0 (vp_updL (J 66 0) 0 (nI 5).toInt64) := ⟨_, rfl⟩
      have w1 := wr_137v r5
      rw [← ej] at w1
      obtain ⟨I0, e0⟩ : ∃ I0, I0 = ms_u Ic 40 0 (upd (Ic 40 0) 0 (nI 0)) := ⟨_, rfl⟩
      have pre := mpre Ic I0 J1 e0 (fr_at fac 40 rfl 0) (fr_at fac 51 rfl 0)
      have z40 : ∀ k, k ≠ 0 → I0 40 0 k = I 40 0 k := fun k hk => by rw [e0, ms_u_s, pk_un hk, fr_at fac 40 rfl 0]
      obtain ⟨I2, e2⟩ : ∃ I2, I2 = ms_u I0 40 0 (upd (upd (upd (I0 40 0) 4 (nI (1 + g))) 33 (nI g)) 3 (nI 5)) := ⟨_, rfl⟩
      have r60 : ms_G 60 0 [.ref (ms_ad 40 0), .null, .null] [] (ms_Z q false Ic J1) = some (.inl (some (.int (nI 5))), ms_Z q true I2 J1) := by
        rw [pre]
        simp (disch := omega) only [↓mi_60_43, ↓mi_60_46, ↓mi_60_47, ↓mi_60_48, ↓mi_60_49, ↓mi_60_50, ↓mi_60_53, ↓mi_60_54, ↓mi_60_55, ↓mi_60_58, ↓mi_60_59, ↓mi_60_60, ↓mi_60_63, ↓mi_60_64, ↓mi_60_67, cond_true, mz_clv, mz_cln, Bool.false_or, Bool.true_or, Bool.or_false, Bool.or_true, if_true, if_false, ite_self, ms_u_s, ms_u_r, ms_u_i, ms_u_u, pk_us, na_le, na_up, if_neg, ← e2]
      have fall : ms_fq [19, 40] I I2 := by
        refine fr_tr (fr_up fac rfl) ?_
        rw [e2, e0]
        exact fr_tr (fr_u rfl) (fr_u rfl)
      have y40 : I2 40 0 = upd (upd (upd (I0 40 0) 4 (nI (1 + g))) 33 (nI g)) 3 (nI 5) := by rw [e2, ms_u_s]
      have i19 : I2 19 0 = upd (upd (I 19 0) 2 (nI 5)) 3 (nI (1 + g)) := by rw [e2, ms_u_r _ _ _ _ (by decide), e0, ms_u_r _ _ _ _ (by decide), y19]
      refine ⟨q, 0, nI 5, true, true, Ic, J1, I2, J1, w1, r60, ?_, by decide, fun _ => by rw [ej, ms_u_s, pk_uLs], rfl, by omega, by rw [fr_at fac 0 rfl 0]; exact h0, ?_⟩
      · rw [y40, pk_un (by decide), pk_un (by decide), pk_un (by decide), e0, ms_u_s, pk_us]
      · refine ⟨by rw [fr_at fall 0 rfl 0]; exact h0, n, t, 5, nm, hd, S, T, X, m, Q, ?_⟩
        refine ⟨?_, ?_, ?_, ?_, ?_, ?_, ?_, ?_, ?_, ?_, ?_, ?_⟩
        · refine ⟨by rw [i19]; exact a0, by rw [i19]; exact a1, by rw [i19]; rfl, ?_, ?_, by rw [y40, pk_us], ?_, ?_, n8, tn, Nat.le_refl 5, fun z => by omega⟩
          · rw [y40, pk_un (by decide), pk_un (by decide), pk_un (by decide), z40 1 (by decide)]; exact b1
          · rw [y40, pk_un (by decide), pk_un (by decide), pk_un (by decide), z40 2 (by decide)]; exact b2
          · rw [y40, pk_un (by decide), pk_un (by decide), pk_us, i19, pk_us]
          · rw [y40, pk_un (by decide), pk_un (by decide), pk_un (by decide), z40 23 (by decide), b5, decide_eq_false (by omega)]
            rfl
        · intro z
          cases z
        · refine ⟨fun k hk => ?_, c2, by rw [i19]; exact c3, fun z => by omega, fun _ => ⟨g, hg, ?_, ?_⟩⟩
          · rw [fr_at fall 20 rfl 0, fr_at fall 50 rfl 0]
            exact c1 k hk
          · rw [y40, pk_un (by decide), pk_us]
          · rw [fr_at fall 51 rfl 0]; exact c6
        · intro u hu
          rw [fr_at fall 31 rfl u, fr_at fall 43 rfl 0, fr_at fall 44 rfl 0, fr_at fall 45 rfl 0, fr_at fall 46 rfl 0]
          exact hP u hu
        · intro u hu k hk
          rw [ej, ms_u_r _ _ _ _ (by decide), ms_u_r _ _ _ _ (by decide)]
          exact hX u hu k hk
        · intro u hu k hk
          rw [fr_at fall 33 rfl u, fr_at fall 42 rfl 0]
          exact hI u hu k hk
        · intro u hu
          rw [fr_at fall 36 rfl u, fr_at fall 47 rfl 0]
          exact hN u hu
        · intro u hu
          rw [fr_at fall 37 rfl u, fr_at fall 48 rfl 0, fr_at fall 38 rfl u, fr_at fall 49 rfl 0]
          exact hK u hu
        · intro z
          omega
        · intro u hu
          rw [fr_at fall 22 rfl u, fr_at fall 52 rfl 0, fr_at fall 24 rfl u, fr_at fall 53 rfl 0, fr_at fall 26 rfl u, fr_at fall 54 rfl 0, fr_at fall 28 rfl u, fr_at fall 55 rfl 0]
          exact hR u hu
        · refine ml_keep hM (fun p z => ⟨z.1, fun z2 => by have := z.2 z2; omega⟩) (by rw [fr_at fall 14 rfl 0]) ?_ (fr_at fall 16 rfl 0) (fun p => fr_at fall 18 rfl p) (fr_at fall 56 rfl 0)
          rw [y40, pk_un (by decide), pk_un (by decide), pk_un (by decide), z40 20 (by decide)]
        · intro j a b
          rw [fr_at fall 6 rfl 0]
          exact hZ j a b
  · have o1 := sp_117 (q := q) (I := I) (J := J) g5 a2
    rw [decide_eq_false hg] at o1
    have o2 := sp_36 (q := (q.1, q.2 + 1)) (I := I) (J := J) g5 b3
    rw [decide_eq_false hg] at o2
    have r5 : ms_G 5 0 [.ref (ms_ad 3 0)] [] (ms_Z q false I J) = some (.inr 1, ms_Z (q.1, q.2 + 1) true I J) := by
      simp (disch := omega) only [↓mi_5_0, ↓mi_5_1, ↓mi_5_4, ↓mi_5_7, ↓mi_5_10, cond_true, mz_clv, mz_cln, Bool.false_or, Bool.true_or, Bool.or_false, Bool.or_true, if_true, if_false, ite_self, o1, if_pos b_f]
    have r60 : ms_G 60 0 [.ref (ms_ad 40 0), .null, .null] [] (ms_Z (q.1, q.2 + 1) false I J) = some (.inl (some (.int (nI 0))), ms_Z (q.1, q.2 + 1) true (ms_u I 40 0 (upd (I 40 0) 0 (nI 1))) J) := by
      simp (disch := omega) only [↓mi_60_0, ↓mi_60_1, ↓mi_60_2, ↓mi_60_5, ↓mi_60_12, ↓mi_60_13, ↓mi_60_16, ↓mi_60_17, ↓mi_60_20, ↓mi_60_23, ↓mi_60_24, cond_true, mz_clv, mz_cln, Bool.false_or, Bool.true_or, Bool.or_false, Bool.or_true, if_true, if_false, ite_self, ms_u_s, ms_u_r, ms_u_i, ms_u_u, pk_us, o2, if_pos b_f, na_le, if_neg]
    exact ⟨(q.1, q.2 + 1), 1, nI 0, true, true, I, J, _, J, wr_137b r5, r60, by rw [ms_u_s, pk_us], by decide, fun z => absurd z (by decide), rfl, Nat.le_refl _, hiv.1, iv_code hiv _⟩
end LClose
