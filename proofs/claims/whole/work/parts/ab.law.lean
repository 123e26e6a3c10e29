/-! THE OBJECTS OF THE LAW; THE PURE RUN. -/
section Boot2
variable {Lq : Nat} {xs : Nat → Int32}
theorem t_ph {u : Nat} (hu : u < 8) : ms_mem Lq (ms_I0 xs) ms_J0 (169 + 9 * u) = .inr (7, [.int (nI u), .ref (169 + 9 * u + 1), .ref (169 + 9 * u + 1 + 1), .ref (169 + 9 * u + 1 + 1 + 1), .ref (169 + 9 * u + 1 + 1 + 1 + 1), .ref (169 + 9 * u + 1 + 1 + 1 + 1 + 1), .ref (169 + 9 * u + 1 + 1 + 1 + 1 + 1 + 1), .ref (169 + 9 * u + 1 + 1 + 1 + 1 + 1 + 1 + 1), .ref (169 + 9 * u + 1 + 1 + 1 + 1 + 1 + 1 + 1 + 1), .int 0, .int 0, .int 0, .int 0]) := by
  refine (ms_mem_at (r := 31) (u := u) hu Lq _ _).trans ?_
  show (.inr (7, [.int (nI u), .ref (170 + 9 * u), .ref (171 + 9 * u), .ref (172 + 9 * u), .ref (173 + 9 * u), .ref (174 + 9 * u), .ref (175 + 9 * u), .ref (176 + 9 * u), .ref (177 + 9 * u), .int 0, .int 0, .int 0, .int 0]) : ms_E) = _
  rw [show 170 + 9 * u = 169 + 9 * u + 1 by omega, show 171 + 9 * u = 169 + 9 * u + 1 + 1 by omega, show 172 + 9 * u = 169 + 9 * u + 1 + 1 + 1 by omega, show 173 + 9 * u = 169 + 9 * u + 1 + 1 + 1 + 1 by omega, show 174 + 9 * u = 169 + 9 * u + 1 + 1 + 1 + 1 + 1 by omega, show 175 + 9 * u = 169 + 9 * u + 1 + 1 + 1 + 1 + 1 + 1 by omega, show 176 + 9 * u = 169 + 9 * u + 1 + 1 + 1 + 1 + 1 + 1 + 1 by omega, show 177 + 9 * u = 169 + 9 * u + 1 + 1 + 1 + 1 + 1 + 1 + 1 + 1 by omega]
theorem tp_0 {r u a : Nat} (hu : u < ms_cn r) (hk : ms_kr r = 0) (h1 : 3 ≤ r) (h3 : r ≠ 19) (h4 : r ≠ 40) (ea : ms_ad r u = a) : ms_mem Lq (ms_I0 xs) ms_J0 a = .inl (0, ms_arr 0 (ms_nr Lq r u)) := by
  rw [← ea]
  exact tz_0 hu hk (tz_i (by omega) (by omega) (by omega) h3 h4)
theorem tp_1 {r u a : Nat} (hu : u < ms_cn r) (hk : ms_kr r = 1) (ea : ms_ad r u = a) : ms_mem Lq (ms_I0 xs) ms_J0 a = .inl (1, ms_arr 1 (ms_nr Lq r u)) := by
  rw [← ea]
  exact tz_1 hu hk
theorem tp_2 {r a c : Nat} (hu : 0 < ms_cn r) (hk : ms_kr r = 2) (hn : ms_nr Lq r 0 = 8) (ea : ms_ad r 0 = a) (ec : ∀ j, ms_ad (ms_er r) j = c + j) : ms_mem Lq (ms_I0 xs) ms_J0 a = .inl (2, 8, .inr (.inr (.inr (.inr (fun j => some (c + j)))))) := by
  rw [← ea, ms_mem_at hu]
  unfold ms_cell
  rw [hk]
  show (.inl (2, ms_nr Lq r 0, .inr (.inr (.inr (.inr (fun i => some (ms_ad (ms_er r) i)))))) : ms_E) = _
  have e : (fun i => some (ms_ad (ms_er r) i)) = fun j => some (c + j) := by
    funext j
    rw [ec]
  rw [hn, e]
theorem mk_p {N : Nat → ms_E} {u z : Nat} {X : ms_E} (hu : u < 8) : ms_G 92 0 [.ref (169 + 9 * u), .int (nI u)] [] (169 + 9 * u + 1, z, false, ms_up (ms_mm (ms_mem Lq (ms_I0 xs) ms_J0) N 169 (169 + 9 * u) 168 (ms_hf 4 8 169 9 u) 3 X) (169 + 9 * u) (.inr (7, [.int 0, .null, .null, .null, .null, .null, .null, .null, .null, .int 0, .int 0, .int 0, .int 0]))) = some (.inl none, (169 + 9 * u + 1 + 1 + 1 + 1 + 1 + 1 + 1 + 1 + 1, z + 3 + 4 + 8 + 8 + 3 + 33 + 65 + 4, true, ms_up (ms_fi (ms_mem Lq (ms_I0 xs) ms_J0) (ms_mm (ms_mem Lq (ms_I0 xs) ms_J0) N 169 (169 + 9 * u) 168 (ms_hf 4 8 169 9 u) 3 X) (169 + 9 * u + 1) (169 + 9 * u + 1 + 1 + 1 + 1 + 1 + 1 + 1 + 1 + 1)) (169 + 9 * u) (.inr (7, [.int (nI u), .ref (169 + 9 * u + 1), .ref (169 + 9 * u + 1 + 1), .ref (169 + 9 * u + 1 + 1 + 1), .ref (169 + 9 * u + 1 + 1 + 1 + 1), .ref (169 + 9 * u + 1 + 1 + 1 + 1 + 1), .ref (169 + 9 * u + 1 + 1 + 1 + 1 + 1 + 1), .ref (169 + 9 * u + 1 + 1 + 1 + 1 + 1 + 1 + 1), .ref (169 + 9 * u + 1 + 1 + 1 + 1 + 1 + 1 + 1 + 1), .int 0, .int 0, .int 0, .int 0])))) := by
  refine ctr_92 (T := ms_mem Lq (ms_I0 xs) ms_J0) (by omega) (tp_1 (r := 32) (u := u) hu rfl (show 170 + 9 * u = _ by omega)) (tp_0 (r := 33) (u := u) hu rfl (by decide) (by decide) (by decide) (show 171 + 9 * u = _ by omega)) (tp_1 (r := 34) (u := u) hu rfl (show 172 + 9 * u = _ by omega)) (tp_1 (r := 35) (u := u) hu rfl (show 173 + 9 * u = _ by omega)) (tp_0 (r := 36) (u := u) hu rfl (by decide) (by decide) (by decide) (show 174 + 9 * u = _ by omega)) (tp_0 (r := 37) (u := u) hu rfl (by decide) (by decide) (by decide) (show 175 + 9 * u = _ by omega)) (tp_0 (r := 38) (u := u) hu rfl (by decide) (by decide) (by decide) (show 176 + 9 * u = _ by omega)) (tp_0 (r := 39) (u := u) hu rfl (by decide) (by decide) (by decide) (show 177 + 9 * u = _ by omega))
theorem ph_l {N : Nat → ms_E} {z : Nat} : ∀ d u, d + u = 8 → ms_G 0 48 [.ref 3, .int (nI u)] [] (169 + 9 * u, z + 141 * u, true, ms_mm (ms_mem Lq (ms_I0 xs) ms_J0) N 169 (169 + 9 * u) 168 (ms_hf 4 8 169 9 u) 3 (.inr (0, [.ref 4, .ref 14, .ref 129, .ref 168]))) = some (.inl none, (241, z + 1128, true, ms_mm (ms_mem Lq (ms_I0 xs) ms_J0) N 169 241 168 (ms_hf 4 8 169 9 8) 3 (.inr (0, [.ref 4, .ref 14, .ref 129, .ref 168]))))
  | 0, u, hu => by
    have : u = 8 := by omega
    subst this
    rw [ct_0_48, ct_0_49, ct_0_51, if_pos (by decide), ct_0_74]
  | d + 1, u, hu => by
    have ih := ph_l (N := N) (z := z) d (u + 1) (by omega)
    have mk := mk_p (Lq := Lq) (xs := xs) (N := N) (u := u) (z := z + 141 * u + 13) (X := .inr (0, [.ref 4, .ref 14, .ref 129, .ref 168])) (by omega)
    rw [ct_0_48, ct_0_49, ct_0_51, if_neg (by rw [na_le (by decide) (by omega)]; omega), ct_0_54, ct_0_55 mm_o rfl, ct_0_58, ct_0_59, ct_0_62, ct_0_63, ct_0_64, mk, mr_cl]
    rw [ct_0_67 (k := 4) (n := 8) (g := fun i => if i < u then some (169 + 9 * i) else none) (c := 7) (by rw [up_l (by omega), fi_l (by omega), mm_r (by decide)]; rfl) up_t (by omega) (by omega) rfl, hf_s]
    rw [show (.inl (4, 8, .inr (.inr (.inr (.inr (fun i => if i < u + 1 then some (169 + 9 * i) else none))))) : ms_E) = ms_hf 4 8 169 9 (u + 1) from rfl]
    rw [mm_s (by decide) (by decide) (by decide) (by omega) (by omega) (t_ph (by omega))]
    rw [ct_0_68, ct_0_71, na_up]
    rw [show 169 + 9 * u + 1 + 1 + 1 + 1 + 1 + 1 + 1 + 1 + 1 = 169 + 9 * (u + 1) by omega, show z + 141 * u + 13 + 3 + 4 + 8 + 8 + 3 + 33 + 65 + 4 = z + 141 * (u + 1) by omega]
    exact ih
theorem ctr_115' {N : Nat → ms_E} {z : Nat} : ms_G 115 0 [.ref 129] [] (130, z, false, ms_up N 129 (.inr (6, [.int 0, .int 0, .int 0, .int 0, .int 0, .null, .null, .null, .null, .null, .null]))) = some (.inl none, (168, z + 3 + 8 + 8 * 4 + 8 + 8 * 64 + 8 + 8 * 4 + 8 + 8 * 17 + 4, true, ms_up (ms_fi (ms_mem Lq (ms_I0 xs) ms_J0) N 130 168) 129 (.inr (6, [.int 0, .int 0, .int (nI 5), .int 0, .int 0, .ref 130, .ref 131, .ref 140, .ref 149, .ref 158, .ref 167])))) :=
  ctr_115 (T := ms_mem Lq (ms_I0 xs) ms_J0) (N := N) (o := 129) (a := 130) (z := z) (by decide) rfl (tp_2 (r := 21) (by decide) rfl rfl rfl (fun j => show 132 + 1 * j = 132 + j by omega)) (fun k hk => tp_0 (r := 22) (u := k) hk rfl (by decide) (by decide) (by decide) (show 132 + 1 * k = _ by omega)) (tp_2 (r := 23) (by decide) rfl rfl rfl (fun j => show 141 + 1 * j = 141 + j by omega)) (fun k hk => tp_0 (r := 24) (u := k) hk rfl (by decide) (by decide) (by decide) (show 141 + 1 * k = _ by omega)) (tp_2 (r := 25) (by decide) rfl rfl rfl (fun j => show 150 + 1 * j = 150 + j by omega)) (fun k hk => tp_0 (r := 26) (u := k) hk rfl (by decide) (by decide) (by decide) (show 150 + 1 * k = _ by omega)) (tp_2 (r := 27) (by decide) rfl rfl rfl (fun j => show 159 + 1 * j = 159 + j by omega)) (fun k hk => tp_0 (r := 28) (u := k) hk rfl (by decide) (by decide) (by decide) (show 159 + 1 * k = _ by omega)) rfl
theorem ctr_0 {N : Nat → ms_E} {z : Nat} (h1 : N 1 = .inl (5, 4, .inl ms_sw)) (h2 : N 2 = .inl (5, 3, .inl ms_aw)) : ms_G 0 0 [.ref 3, .null] [] (4, z, false, ms_up N 3 (.inr (0, [.null, .null, .null, .null]))) = some (.inl none, (241, z + 2 + (2 + 16 + 16 + 5 + 5 + 5 + 5 + 4 + 4) + 3 + (56 + 56 + 1728) + 11 + (3 + 8 + 8 * 4 + 8 + 8 * 64 + 8 + 8 * 4 + 8 + 8 * 17 + 4) + 8 + 1128, true, ms_up (ms_fi (ms_mem Lq (ms_I0 xs) ms_J0) N 4 241) 3 (.inr (0, [.ref 4, .ref 14, .ref 129, .ref 168])))) := by
  rw [show ms_up N 3 (.inr (0, [.null, .null, .null, .null])) = ms_up (ms_fi (ms_mem Lq (ms_I0 xs) ms_J0) N 4 4) 3 (.inr (0, [.null, .null, .null, .null])) by rw [fi_0]]
  rw [ct_0_0, ct_0_1, ct_0_4, ct_0_5, ct_0_8, ct_0_9]
  rw [show (4 + 1 : Nat) = 5 from rfl, ctr_68 (Lq := Lq) (xs := xs), mr_cl]
  rw [fi_o (o := 3) (a := 4) (b := 4) (c := 5) (b' := 14) (by decide) (by decide) (by decide) rfl (show ms_mem Lq (ms_I0 xs) ms_J0 4 = .inr (1, [.ref 5, .ref 8]) from rfl)]
  rw [ct_0_12 (fs := [.null, .null, .null, .null]) (by decide) rfl, show ([.null, .null, .null, .null] : List Value).set 0 (.ref 4) = [.ref 4, .null, .null, .null] from rfl, ct_0_15, ct_0_16, ct_0_19, ct_0_20]
  rw [show (14 + 1 : Nat) = 15 from rfl, ctr_74 (Lq := Lq) (xs := xs) (by rw [up_l (by decide), fi_l (by decide)]; exact h1) (by rw [up_l (by decide), fi_l (by decide)]; exact h2), mr_cl]
  rw [fi_o (o := 3) (a := 4) (b := 14) (c := 15) (b' := 129) (by decide) (by decide) (by decide) rfl (show ms_mem Lq (ms_I0 xs) ms_J0 14 = .inr (4, [.ref 15, .ref 16, .int 0]) from rfl)]
  rw [ct_0_23 (fs := [.ref 4, .null, .null, .null]) (by decide) rfl, show ([.ref 4, .null, .null, .null] : List Value).set 1 (.ref 14) = [.ref 4, .ref 14, .null, .null] from rfl, ct_0_26, ct_0_27, ct_0_30, ct_0_31]
  rw [show (129 + 1 : Nat) = 130 from rfl, ctr_115' (Lq := Lq) (xs := xs), mr_cl]
  rw [fi_o (o := 3) (a := 4) (b := 129) (c := 130) (b' := 168) (by decide) (by decide) (by decide) rfl (show ms_mem Lq (ms_I0 xs) ms_J0 129 = .inr (6, [.int 0, .int 0, .int (nI 5), .int 0, .int 0, .ref 130, .ref 131, .ref 140, .ref 149, .ref 158, .ref 167]) from rfl)]
  rw [ct_0_34 (fs := [.ref 4, .ref 14, .null, .null]) (by decide) rfl, show ([.ref 4, .ref 14, .null, .null] : List Value).set 2 (.ref 129) = [.ref 4, .ref 14, .ref 129, .null] from rfl, ct_0_37, ct_0_38, ct_0_40, hf_04 8 169 9, up_cm (by decide), ct_0_43 (fs := [.ref 4, .ref 14, .ref 129, .null]) (by decide) rfl, show ([.ref 4, .ref 14, .ref 129, .null] : List Value).set 3 (.ref 168) = [.ref 4, .ref 14, .ref 129, .ref 168] from rfl, ct_0_46, ct_0_47]
  have e : ∀ X, ms_up (ms_up (ms_fi (ms_mem Lq (ms_I0 xs) ms_J0) N 4 168) 168 (ms_hf 4 8 169 9 0)) 3 X = ms_mm (ms_mem Lq (ms_I0 xs) ms_J0) (ms_fi (ms_mem Lq (ms_I0 xs) ms_J0) N 4 168) 169 169 168 (ms_hf 4 8 169 9 0) 3 X := by
    intro X
    unfold ms_mm
    rw [fi_0]
  rw [e]
  refine Eq.trans (ph_l (Lq := Lq) (xs := xs) 8 0 rfl) ?_
  have f : ms_mm (ms_mem Lq (ms_I0 xs) ms_J0) (ms_fi (ms_mem Lq (ms_I0 xs) ms_J0) N 4 168) 169 241 168 (ms_hf 4 8 169 9 8) 3 (.inr (0, [.ref 4, .ref 14, .ref 129, .ref 168])) = ms_up (ms_fi (ms_mem Lq (ms_I0 xs) ms_J0) N 4 241) 3 (.inr (0, [.ref 4, .ref 14, .ref 129, .ref 168])) := by
    unfold ms_mm
    rw [show ms_up (ms_fi (ms_mem Lq (ms_I0 xs) ms_J0) (ms_fi (ms_mem Lq (ms_I0 xs) ms_J0) N 4 168) 169 241) 168 (ms_hf 4 8 169 9 8) = ms_fi (ms_mem Lq (ms_I0 xs) ms_J0) N 4 241 from ?_]
    funext k
    unfold ms_up ms_fi
    by_cases h : k = 168
    · rw [if_pos h, if_pos (by omega), h]
      rfl
    · rw [if_neg h]
      by_cases h3 : 169 ≤ k ∧ k < 241
      · rw [if_pos h3, if_pos (by omega)]
      · rw [if_neg h3]
        by_cases h4 : 4 ≤ k ∧ k < 168
        · rw [if_pos h4, if_pos (by omega)]
        · rw [if_neg h4, if_neg (by omega)]
  rw [f]
theorem mem_end {M : Nat → ms_E} (hM : M = ms_up (ms_up (ms_fi (ms_mem Lq (ms_I0 xs) ms_J0) (ms_up (ms_fi (ms_mem Lq (ms_I0 xs) ms_J0) (ms_M0 Lq xs) 4 241) 3 (ms_mem Lq (ms_I0 xs) ms_J0 3)) 242 267) 241 (ms_mem Lq (ms_I0 xs) ms_J0 241)) 267 (ms_mem Lq (ms_I0 xs) ms_J0 267)) : M = ms_mem Lq (ms_I0 xs) ms_J0 := by
  rw [hM]
  funext k
  unfold ms_up ms_fi
  dsimp only
  by_cases h1 : k = 267
  · rw [if_pos h1, h1]
  · rw [if_neg h1]
    by_cases h2 : k = 241
    · rw [if_pos h2, h2]
    · rw [if_neg h2]
      by_cases h3 : 242 ≤ k ∧ k < 267
      · rw [if_pos h3]
      · rw [if_neg h3]
        by_cases h4 : k = 3
        · rw [if_pos h4, h4]
        · rw [if_neg h4]
          by_cases h5 : 4 ≤ k ∧ k < 241
          · rw [if_pos h5]
          · rw [if_neg h5]
            have c : k = 0 ∨ k = 1 ∨ k = 2 ∨ 268 ≤ k := by omega
            rcases c with h | h | h | h
            · subst h; rfl
            · subst h; rfl
            · subst h; rfl
            · have e : ms_mem Lq (ms_I0 xs) ms_J0 k = .inr (99, []) := by
                unfold ms_mem
                rw [ms_rg_hi h]
                rfl
              rw [e]
              match k, h with
              | k + 3, _ => rfl
theorem bt_e {a b z : Nat} {X Y W : ms_E} (ha : a = 268) (hb : b = 267) (hz : z = 10019) (h3 : X = ms_mem Lq (ms_I0 xs) ms_J0 3) (h4 : Y = ms_mem Lq (ms_I0 xs) ms_J0 241) (h5 : W = ms_mem Lq (ms_I0 xs) ms_J0 267) : ms_G 145 23 [.ref 0, .ref 3, .ref 241, .ref b, .int (nI 0), .null, .null] [] (a, z, true, ms_up (ms_up (ms_fi (ms_mem Lq (ms_I0 xs) ms_J0) (ms_up (ms_fi (ms_mem Lq (ms_I0 xs) ms_J0) (ms_M0 Lq xs) 4 241) 3 X) 242 b) 241 Y) b W) = ms_G 145 23 [.ref 0, .ref 3, .ref 241, .ref 267, .int (nI 0), .null, .null] [] (ms_Z (Lq, 0) true (ms_I0 xs) ms_J0) := by
  subst ha hb hz h3 h4 h5
  rw [mem_end rfl]
  rfl
theorem bt_1 : ms_G 145 0 [.ref 0, .null, .null, .null, .null, .null, .null] [] (3, 0, false, ms_M0 Lq xs) = ms_G 145 23 [.ref 0, .ref 3, .ref 241, .ref 267, .int (nI 0), .null, .null] [] (ms_Z (Lq, 0) true (ms_I0 xs) ms_J0) := by
  rw [ct_145_0, mi_145_3, ct_145_4]
  rw [show (3 + 1 : Nat) = 4 from rfl, ctr_0 (Lq := Lq) (xs := xs) rfl rfl, mr_cl, mi_145_7, ct_145_8, mi_145_11, ct_145_12]
  have c := fun (N : Nat → ms_E) z => ctr_16 (T := ms_mem Lq (ms_I0 xs) ms_J0) (N := N) (o := 241) (a := 242) (z := z) (by decide) rfl rfl rfl rfl rfl rfl rfl rfl rfl rfl rfl rfl rfl rfl rfl rfl rfl rfl rfl rfl rfl rfl rfl rfl rfl
  rw [show (241 + 1 : Nat) = 242 from rfl, c, mr_cl, mi_145_15, mi_145_16, ct_145_17, mi_145_19, mi_145_20, mi_145_21]
  exact bt_e rfl rfl rfl rfl rfl rfl
end Boot2
theorem hpure (L : Nat) (xs : Nat → Int32) (hL : L ≤ 3072) : ms_pure L xs := by
  obtain ⟨q', w', I', J', r, d⟩ := lw_l (f := xs) 512 0 (L, 0) true (ms_I0 xs) ms_J0 .null .null hL (Nat.zero_le _) (show L ≤ 0 + 6 * 512 + 5 by omega) (iv_0 xs)
  refine ⟨ms_Z q' w' I' J', ?_, ?_, ?_⟩
  · exact (bt_1 (Lq := L) (xs := xs)).trans r
  · show 268 + q'.2 ≤ 601027
    have : q'.2 ≤ 0 + 512 := d
    omega
  · show 10019 + 6 * q'.2 ≤ 7293034
    have : q'.2 ≤ 0 + 512 := d
    omega
theorem i_vc : Claimed_1_1 ∧ Claimed_1_2 := ms_claim hpure
