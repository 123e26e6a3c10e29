/-! FROM THE LAW'S ENTRY TO ITS LOOP. -/
def ms_I0 (xs : Nat → Int32) : ms_i := fun r _ i => if r = 0 then xs i else if r = 1 then ms_sw i else if r = 2 then ms_aw i else if (r = 19 ∧ i = 2) ∨ (r = 40 ∧ i = 3) then nI 5 else 0
def ms_J0 : ms_j := fun _ _ _ => 0
theorem iv_0 (xs : Nat → Int32) : ms_iv xs (ms_I0 xs) ms_J0 := by
  refine ⟨rfl, 0, 0, 5, fun _ => 0, 0, fun _ => 0, fun _ => 0, fun _ _ => 0, 0, fun _ => 0, ?_⟩
  refine ⟨⟨rfl, rfl, rfl, rfl, rfl, rfl, rfl, rfl, by decide, by decide, by decide, fun z => absurd z (by decide)⟩, fun z => absurd z (by decide), ⟨fun k _ => ⟨Nat.two_pow_pos 0, ?_, ?_⟩, by decide, rfl, fun z => absurd z (by decide), fun _ => ⟨0, by decide, rfl, rfl⟩⟩, fun u _ => ⟨rfl, rfl, rfl, rfl, Nat.le_refl _, Nat.zero_le _, Nat.zero_le _, fun _ => rfl, rfl, rfl, fun _ => ⟨rfl, rfl⟩⟩, fun u _ k _ => ⟨rfl, rfl, by show 0 < 2305843009213693951; decide⟩, fun u _ k _ => rfl, fun u _ => ⟨fun k _ => rfl, fun k z => absurd z (Nat.not_lt_zero k), fun z => absurd z (Nat.not_lt_zero 1)⟩, fun u _ => ⟨fun k _ => rfl, fun k _ => rfl⟩, fun z => absurd z (by decide), fun u _ => ⟨fun k _ => rfl, fun k _ => rfl, fun k _ => rfl, fun k _ => rfl⟩, ml_zero rfl rfl, fun k _ _ => rfl⟩
  · exact if_neg (by rintro (z | z) <;> omega)
  · exact if_neg (by rintro (z | z) <;> omega)
section Boot
variable {Lq : Nat} {xs : Nat → Int32}
theorem tz_0 {r u : Nat} (hu : u < ms_cn r) (hk : ms_kr r = 0) (h0 : ms_I0 xs r u = fun _ => 0) : ms_mem Lq (ms_I0 xs) ms_J0 (ms_ad r u) = .inl (0, ms_arr 0 (ms_nr Lq r u)) := by
  rw [ms_mem_at hu, mz_c0 hk, h0]
  rfl
theorem tz_1 {r u : Nat} (hu : u < ms_cn r) (hk : ms_kr r = 1) : ms_mem Lq (ms_I0 xs) ms_J0 (ms_ad r u) = .inl (1, ms_arr 1 (ms_nr Lq r u)) := by
  rw [ms_mem_at hu, mz_c1 hk]
  rfl
theorem tz_i {r u : Nat} (h0 : r ≠ 0) (h1 : r ≠ 1) (h2 : r ≠ 2) (h3 : r ≠ 19) (h4 : r ≠ 40) : ms_I0 xs r u = fun _ => 0 := by
  funext i
  unfold ms_I0
  rw [if_neg h0, if_neg h1, if_neg h2, if_neg (by rintro (z | z) <;> omega)]
theorem ctr_68 {N : Nat → ms_E} {z : Nat} : ms_G 68 0 [.ref 4] [] (5, z, false, ms_up N 4 (.inr (1, [.null, .null]))) = some (.inl none, (14, z + 2 + 16 + 16 + 5 + 5 + 5 + 5 + 4 + 4, true, ms_up (ms_fi (ms_mem Lq (ms_I0 xs) ms_J0) N 5 14) 4 (.inr (1, [.ref 5, .ref 8])))) := by
  have c1 := fun (N : Nat → ms_E) z => ctr_65 (T := ms_mem Lq (ms_I0 xs) ms_J0) (N := N) (o := 5) (a := 6) (z := z) (by decide) rfl rfl
  have c2 := fun (N : Nat → ms_E) z => ctr_105 (T := ms_mem Lq (ms_I0 xs) ms_J0) (N := N) (o := 8) (a := 9) (z := z) (by decide) rfl rfl rfl rfl rfl
  rw [show ms_up N 4 (.inr (1, [.null, .null])) = ms_up (ms_fi (ms_mem Lq (ms_I0 xs) ms_J0) N 5 5) 4 (.inr (1, [.null, .null])) by rw [fi_0]]
  rw [ct_68_0, ct_68_1, ct_68_4, ct_68_5, ct_68_8, ct_68_9, c1, mr_cl]
  rw [fi_o (o := 4) (a := 5) (b := 5) (c := 6) (b' := 6 + 1 + 1) (by decide) (by decide) (by decide) rfl (show ms_mem Lq (ms_I0 xs) ms_J0 5 = .inr (2, [.ref 6, .ref (6 + 1)]) from rfl)]
  rw [ct_68_12 (fs := [.null, .null]) (by decide) rfl, show ([.null, .null] : List Value).set 0 (.ref 5) = [.ref 5, .null] from rfl]
  rw [ct_68_15, ct_68_16, ct_68_19, ct_68_20]
  rw [show (6 + 1 + 1 + 1 : Nat) = 9 from rfl, show (6 + 1 + 1 : Nat) = 8 from rfl, c2, mr_cl]
  rw [fi_o (o := 4) (a := 5) (b := 8) (c := 9) (b' := 9 + 1 + 1 + 1 + 1 + 1) (by decide) (by decide) (by decide) rfl (show ms_mem Lq (ms_I0 xs) ms_J0 8 = .inr (3, [.ref 9, .ref (9 + 1), .ref (9 + 1 + 1), .ref (9 + 1 + 1 + 1), .ref (9 + 1 + 1 + 1 + 1)]) from rfl)]
  rw [ct_68_23 (fs := [.ref 5, .null]) (by decide) rfl, ct_68_26]
  rfl
theorem up_cm {N : Nat → ms_E} {p r : Nat} {X E : ms_E} (h : p ≠ r) : ms_up (ms_up N p X) r E = ms_up (ms_up N r E) p X := by
  funext k
  unfold ms_up
  by_cases h1 : k = r
  · rw [if_pos h1, if_neg (by omega), if_pos h1]
  · rw [if_neg h1]
    by_cases h2 : k = p
    · rw [if_pos h2, if_pos h2]
    · rw [if_neg h2, if_neg h2, if_neg h1]
-- an array of places that is half filled
def ms_hf (t n b s c : Nat) : ms_E := .inl (t, n, .inr (.inr (.inr (.inr (fun i => if i < c then some (b + s * i) else none)))))
theorem hf_0 (n b s : Nat) : (.inl (3, ms_arr 3 n) : ms_E) = ms_hf 3 n b s 0 := by
  have : (fun _ : Nat => (none : Option Nat)) = fun i => if i < 0 then some (b + s * i) else none := by
    funext i
    exact (if_neg (Nat.not_lt_zero i)).symm
  show (.inl (3, n, .inr (.inr (.inr (.inr (fun _ : Nat => (none : Option Nat)))))) : ms_E) = _
  rw [this]
  rfl
theorem hf_04 (n b s : Nat) : (.inl (4, ms_arr 4 n) : ms_E) = ms_hf 4 n b s 0 := by
  have : (fun _ : Nat => (none : Option Nat)) = fun i => if i < 0 then some (b + s * i) else none := by
    funext i
    exact (if_neg (Nat.not_lt_zero i)).symm
  show (.inl (4, n, .inr (.inr (.inr (.inr (fun _ : Nat => (none : Option Nat)))))) : ms_E) = _
  rw [this]
  rfl
theorem hf_s (b s c : Nat) : va_up (fun i => if i < c then some (b + s * i) else none) c (some (b + s * c)) = fun i => if i < c + 1 then some (b + s * i) else none := by
  funext i
  unfold va_up
  dsimp only
  by_cases h : i = c
  · rw [if_pos h, if_pos (by omega), h]
  · rw [if_neg h]
    by_cases h2 : i < c
    · rw [if_pos h2, if_pos (by omega)]
    · rw [if_neg h2, if_neg (by omega)]
/-- a memory with an object and an array under way -/
def ms_mm (T N : Nat → ms_E) (a b r : Nat) (R : ms_E) (o : Nat) (X : ms_E) : Nat → ms_E := ms_up (ms_up (ms_fi T N a b) r R) o X
theorem mm_s {T N : Nat → ms_E} {a b b' r o : Nat} {R R' X F : ms_E} (ho : o < a) (hr : r < a) (hor : o ≠ r) (ha : a ≤ b) (hb : b < b') (hT : T b = F) : ms_up (ms_up (ms_fi T (ms_mm T N a b r R o X) (b + 1) b') b F) r R' = ms_mm T N a b' r R' o X := by
  funext k
  unfold ms_mm ms_up ms_fi
  dsimp only
  by_cases h1 : k = r
  · rw [if_pos h1, if_neg (by omega), if_pos h1]
  · rw [if_neg h1]
    by_cases h2 : k = b
    · rw [if_pos h2, if_neg (by omega), if_neg (by omega), if_pos (by omega), h2, hT]
    · rw [if_neg h2]
      by_cases h3 : b + 1 ≤ k ∧ k < b'
      · rw [if_pos h3, if_neg (by omega), if_neg (by omega), if_pos (by omega)]
      · rw [if_neg h3]
        by_cases h4 : k = o
        · rw [if_pos h4, if_pos h4]
        · rw [if_neg h4, if_neg h4, if_neg h1, if_neg h1]
          by_cases h5 : a ≤ k ∧ k < b
          · rw [if_pos h5, if_pos (by omega)]
          · rw [if_neg h5, if_neg (by omega)]
theorem mm_o {T N : Nat → ms_E} {a b r o : Nat} {R X : ms_E} : ms_mm T N a b r R o X o = X := if_pos rfl
theorem mm_r {T N : Nat → ms_E} {a b r o : Nat} {R X : ms_E} (h : o ≠ r) : ms_mm T N a b r R o X r = R := by
  unfold ms_mm ms_up
  rw [if_neg (by omega), if_pos rfl]
theorem mm_l {T N : Nat → ms_E} {a b r o k : Nat} {R X : ms_E} (h1 : k < a) (h2 : k ≠ o) (h3 : k ≠ r) : ms_mm T N a b r R o X k = N k := by
  unfold ms_mm ms_up ms_fi
  rw [if_neg h2, if_neg h3, if_neg (by omega)]
theorem up_l {N : Nat → ms_E} {o k : Nat} {X : ms_E} (h : k ≠ o) : ms_up N o X k = N k := if_neg h
theorem up_t {N : Nat → ms_E} {o : Nat} {X : ms_E} : ms_up N o X o = X := if_pos rfl
theorem fi_l {T N : Nat → ms_E} {a b k : Nat} (h : k < a ∨ b ≤ k) : ms_fi T N a b k = N k := if_neg (by omega)
def ms_zs : Nat → Nat
  | 0 => 0
  | p + 1 => ms_zs p + (4 + ms_wl p)
theorem zs_56 : ms_zs 56 = 1728 := by decide +kernel
theorem t_msg {p : Nat} (hp : p < 56) : ms_mem Lq (ms_I0 xs) ms_J0 (17 + 2 * p) = .inr (5, [.int (nI (ms_sv 0 p)), .int (nI (ms_sv 1 p)), .int (nI (ms_sv 2 p)), .ref (17 + 2 * p + 1)]) := by
  refine (ms_mem_at (r := 17) (u := p) hp Lq _ _).trans ?_
  show (.inr (5, [.int (nI (ms_sv 0 p)), .int (nI (ms_sv 1 p)), .int (nI (ms_sv 2 p)), .ref (18 + 2 * p)]) : ms_E) = _
  rw [show 18 + 2 * p = 17 + 2 * p + 1 by omega]
theorem t_wds {p : Nat} (hp : p < 56) : ms_mem Lq (ms_I0 xs) ms_J0 (17 + 2 * p + 1) = .inl (0, ms_arr 0 (ms_wl p)) := by
  have h := tz_0 (Lq := Lq) (xs := xs) (r := 18) (u := p) hp rfl (tz_i (by decide) (by decide) (by decide) (by decide) (by decide))
  rw [show ms_ad 18 p = 17 + 2 * p + 1 from (show 18 + 2 * p = 17 + 2 * p + 1 by omega)] at h
  exact h
/-- a message is made and put in its place -/
theorem mk_m {N : Nat → ms_E} {p z : Nat} {X : ms_E} (hp : p < 56) {x1 x2 x3 : Int32} (e1 : x1 = nI (ms_sv 0 p)) (e2 : x2 = nI (ms_sv 1 p)) (e3 : x3 = nI (ms_sv 2 p)) : ms_G 82 0 [.ref (17 + 2 * p), .int x1, .int x2, .int x3, .int (nI (ms_wl p))] [] (17 + 2 * p + 1, z, false, ms_up (ms_mm (ms_mem Lq (ms_I0 xs) ms_J0) N 16 (17 + 2 * p) 15 (ms_hf 3 56 17 2 p) 14 X) (17 + 2 * p) (.inr (5, [.int 0, .int 0, .int 0, .null]))) = some (.inl none, (17 + 2 * p + 1 + 1, z + ms_wl p, true, ms_up (ms_fi (ms_mem Lq (ms_I0 xs) ms_J0) (ms_mm (ms_mem Lq (ms_I0 xs) ms_J0) N 16 (17 + 2 * p) 15 (ms_hf 3 56 17 2 p) 14 X) (17 + 2 * p + 1) (17 + 2 * p + 1 + 1)) (17 + 2 * p) (.inr (5, [.int x1, .int x2, .int x3, .ref (17 + 2 * p + 1)])))) := by
  have l := ms_wl_le p
  refine ctr_82 (T := ms_mem Lq (ms_I0 xs) ms_J0) (by omega) ?_ (by omega) (t_wds hp)
  rw [e3]
  unfold ms_sv
  rw [if_neg (by decide), if_neg (by decide), if_pos rfl]
  by_cases h : p % 7 < 4
  · rw [if_pos h]; rfl
  · rw [if_neg h]; rfl
theorem sw_v {s : Nat} (hs : s < 4) (u : Nat) : ms_sw s = nI (ms_wl (7 * u + s)) := by
  have c : s = 0 ∨ s = 1 ∨ s = 2 ∨ s = 3 := by omega
  rcases c with h | h | h | h
  · rw [wl_0 h, h]; rfl
  · rw [wl_1 h, h]; rfl
  · rw [wl_2 h, h]; rfl
  · rw [wl_3 h, h]; rfl
theorem aw_v {s : Nat} (hs : s < 3) (u : Nat) : ms_aw s = nI (ms_wl (7 * u + 4 + s)) := by
  have c : s = 0 ∨ s = 1 ∨ s = 2 := by omega
  rcases c with h | h | h
  · rw [Nat.add_assoc, wl_4 (by omega), h]; rfl
  · rw [Nat.add_assoc, wl_5 (by omega), h]; rfl
  · rw [Nat.add_assoc, wl_6 (by omega), h]; rfl
theorem ma_s {N : Nat → ms_E} {z u : Nat} (hu : u < 8) (h1 : N 1 = .inl (5, 4, .inl ms_sw)) : ∀ d s, d + s = 4 → ms_G 74 31 [.ref 14, .int (nI u), .int (nI s)] [] (17 + 2 * (7 * u + s), z + ms_zs (7 * u + s), true, ms_mm (ms_mem Lq (ms_I0 xs) ms_J0) N 16 (17 + 2 * (7 * u + s)) 15 (ms_hf 3 56 17 2 (7 * u + s)) 14 (.inr (4, [.ref 15, .ref 16, .int 0]))) = ms_G 74 68 [.ref 14, .int (nI u), .int (nI 4)] [] (17 + 2 * (7 * u + 4), z + ms_zs (7 * u + 4), true, ms_mm (ms_mem Lq (ms_I0 xs) ms_J0) N 16 (17 + 2 * (7 * u + 4)) 15 (ms_hf 3 56 17 2 (7 * u + 4)) 14 (.inr (4, [.ref 15, .ref 16, .int 0])))
  | 0, s, hs => by
    have : s = 4 := by omega
    subst this
    rw [ct_74_31, ct_74_32, ct_74_33, if_pos (by decide)]
  | d + 1, s, hs => by
    have ih := ma_s (z := z) hu h1 d (s + 1) (by omega)
    obtain ⟨p, ep⟩ : ∃ p, p = 7 * u + s := ⟨_, rfl⟩
    have lp : p < 56 := by omega
    rw [show 7 * u + (s + 1) = p + 1 by omega] at ih
    rw [← ep]
    have mk := mk_m (Lq := Lq) (xs := xs) (N := N) (p := p) (z := z + ms_zs p + 4) (X := .inr (4, [.ref 15, .ref 16, .int 0])) lp (x1 := nI s) (x2 := nI u) (x3 := nI 0) (by rw [ep, svs_0 (by omega)]) (by rw [ep, svs_1 (by omega)]) (by rw [ep, svs_2 (by omega)])
    have ix : nI u * nI 7 + nI s = nI p := by rw [pk_mul, na_up, ep, Nat.mul_comm]
    rw [ct_74_31, ct_74_32, ct_74_33, if_neg (by rw [na_le (by decide) (by omega)]; omega), ct_74_36, ct_74_37 mm_o rfl, ct_74_40, ct_74_41, ct_74_43, ct_74_44, ct_74_45, ix, ct_74_46, ct_74_49, ct_74_50, ct_74_51, ct_74_52, ct_74_53, ct_74_56]
    rw [ct_74_57 (f := ms_sw) (n := 4) (by rw [up_l (by omega), mm_l (by decide) (by decide) (by decide)]; exact h1) (by omega) (by omega), sw_v (by omega) u, ← ep, ct_74_58, mk, mr_cl]
    rw [ct_74_61 (k := 3) (n := 56) (g := fun i => if i < p then some (17 + 2 * i) else none) (c := 5) (fs := [.int (nI s), .int (nI u), .int (nI 0), .ref (17 + 2 * p + 1)]) (by rw [up_l (by omega), fi_l (by omega), mm_r (by decide)]; rfl) up_t (by omega) (by omega) rfl, hf_s]
    rw [show (.inl (3, 56, .inr (.inr (.inr (.inr (fun i => if i < p + 1 then some (17 + 2 * i) else none))))) : ms_E) = ms_hf 3 56 17 2 (p + 1) from rfl]
    rw [mm_s (by decide) (by decide) (by decide) (by omega) (by omega) (by rw [t_msg lp, ep, svs_0 (by omega), svs_1 (by omega), svs_2 (by omega)])]
    rw [ct_74_62, ct_74_65, na_up]
    rw [show 17 + 2 * p + 1 + 1 = 17 + 2 * (p + 1) by omega, show z + ms_zs p + 4 + ms_wl p = z + ms_zs (p + 1) by show _ = z + (ms_zs p + (4 + ms_wl p)); omega]
    exact ih
theorem ma_a {N : Nat → ms_E} {z u : Nat} (hu : u < 8) (h2 : N 2 = .inl (5, 3, .inl ms_aw)) : ∀ d s, d + s = 3 → ms_G 74 70 [.ref 14, .int (nI u), .int (nI s)] [] (17 + 2 * (7 * u + 4 + s), z + ms_zs (7 * u + 4 + s), true, ms_mm (ms_mem Lq (ms_I0 xs) ms_J0) N 16 (17 + 2 * (7 * u + 4 + s)) 15 (ms_hf 3 56 17 2 (7 * u + 4 + s)) 14 (.inr (4, [.ref 15, .ref 16, .int 0]))) = ms_G 74 109 [.ref 14, .int (nI u), .int (nI 3)] [] (17 + 2 * (7 * u + 4 + 3), z + ms_zs (7 * u + 4 + 3), true, ms_mm (ms_mem Lq (ms_I0 xs) ms_J0) N 16 (17 + 2 * (7 * u + 4 + 3)) 15 (ms_hf 3 56 17 2 (7 * u + 4 + 3)) 14 (.inr (4, [.ref 15, .ref 16, .int 0])))
  | 0, s, hs => by
    have : s = 3 := by omega
    subst this
    rw [ct_74_70, ct_74_71, ct_74_72, if_pos (by decide)]
  | d + 1, s, hs => by
    have ih := ma_a (z := z) hu h2 d (s + 1) (by omega)
    obtain ⟨p, ep⟩ : ∃ p, p = 7 * u + 4 + s := ⟨_, rfl⟩
    have lp : p < 56 := by omega
    rw [show 7 * u + 4 + (s + 1) = p + 1 by omega] at ih
    rw [← ep]
    have mk := mk_m (Lq := Lq) (xs := xs) (N := N) (p := p) (z := z + ms_zs p + 4) (X := .inr (4, [.ref 15, .ref 16, .int 0])) lp (x1 := nI s) (x2 := nI u) (x3 := nI 1) (by rw [ep, sva_0 (by omega)]) (by rw [ep, sva_1 (by omega)]) (by rw [ep, sva_2 (by omega)])
    have ix : nI u * nI 7 + nI 4 + nI s = nI p := by rw [pk_mul, na_up, na_up, ep, Nat.mul_comm]
    rw [ct_74_70, ct_74_71, ct_74_72, if_neg (by rw [na_le (by decide) (by omega)]; omega), ct_74_75, ct_74_76 mm_o rfl, ct_74_79, ct_74_80, ct_74_82, ct_74_83, ct_74_84, ct_74_85, ct_74_86, ix, ct_74_87, ct_74_90, ct_74_91, ct_74_92, ct_74_93, ct_74_94, ct_74_97]
    rw [ct_74_98 (f := ms_aw) (n := 3) (by rw [up_l (by omega), mm_l (by decide) (by decide) (by decide)]; exact h2) (by omega) (by omega), aw_v (by omega) u, ← ep, ct_74_99, mk, mr_cl]
    rw [ct_74_102 (k := 3) (n := 56) (g := fun i => if i < p then some (17 + 2 * i) else none) (c := 5) (fs := [.int (nI s), .int (nI u), .int (nI 1), .ref (17 + 2 * p + 1)]) (by rw [up_l (by omega), fi_l (by omega), mm_r (by decide)]; rfl) up_t (by omega) (by omega) rfl, hf_s]
    rw [show (.inl (3, 56, .inr (.inr (.inr (.inr (fun i => if i < p + 1 then some (17 + 2 * i) else none))))) : ms_E) = ms_hf 3 56 17 2 (p + 1) from rfl]
    rw [mm_s (by decide) (by decide) (by decide) (by omega) (by omega) (by rw [t_msg lp, ep, sva_0 (by omega), sva_1 (by omega), sva_2 (by omega)])]
    rw [ct_74_103, ct_74_106, na_up]
    rw [show 17 + 2 * p + 1 + 1 = 17 + 2 * (p + 1) by omega, show z + ms_zs p + 4 + ms_wl p = z + ms_zs (p + 1) by show _ = z + (ms_zs p + (4 + ms_wl p)); omega]
    exact ih
theorem ma_u {N : Nat → ms_E} {z : Nat} (h1 : N 1 = .inl (5, 4, .inl ms_sw)) (h2 : N 2 = .inl (5, 3, .inl ms_aw)) : ∀ d u l2, d + u = 8 → ms_G 74 23 [.ref 14, .int (nI u), l2] [] (17 + 2 * (7 * u), z + ms_zs (7 * u), true, ms_mm (ms_mem Lq (ms_I0 xs) ms_J0) N 16 (17 + 2 * (7 * u)) 15 (ms_hf 3 56 17 2 (7 * u)) 14 (.inr (4, [.ref 15, .ref 16, .int 0]))) = some (.inl none, (129, z + 1728, true, ms_mm (ms_mem Lq (ms_I0 xs) ms_J0) N 16 129 15 (ms_hf 3 56 17 2 56) 14 (.inr (4, [.ref 15, .ref 16, .int 0]))))
  | 0, u, l2, hu => by
    have : u = 8 := by omega
    subst this
    rw [ct_74_23, ct_74_24, ct_74_26, if_pos (by decide), ct_74_115]
    rw [show 7 * 8 = 56 from rfl, zs_56]
  | d + 1, u, l2, hu => by
    have ih := ma_u (z := z) h1 h2 d (u + 1) (.int (nI 3)) (by omega)
    have r1 := ma_s (Lq := Lq) (xs := xs) (N := N) (z := z) (u := u) (by omega) h1 4 0 rfl
    have r2 := ma_a (Lq := Lq) (xs := xs) (N := N) (z := z) (u := u) (by omega) h2 3 0 rfl
    rw [Nat.add_zero] at r1 r2
    rw [show 7 * u + 4 + 3 = 7 * (u + 1) by omega] at r2
    rw [ct_74_23, ct_74_24, ct_74_26, if_neg (by rw [na_le (by decide) (by omega)]; omega), ct_74_29, ct_74_30, r1, ct_74_68, ct_74_69, r2, ct_74_109, ct_74_112, na_up]
    exact ih
theorem ctr_74 {N : Nat → ms_E} {z : Nat} (h1 : N 1 = .inl (5, 4, .inl ms_sw)) (h2 : N 2 = .inl (5, 3, .inl ms_aw)) : ms_G 74 0 [.ref 14, .null, .null] [] (15, z, false, ms_up N 14 (.inr (4, [.null, .null, .int 0]))) = some (.inl none, (129, z + 56 + 56 + 1728, true, ms_up (ms_fi (ms_mem Lq (ms_I0 xs) ms_J0) N 15 129) 14 (.inr (4, [.ref 15, .ref 16, .int 0])))) := by
  rw [ct_74_0, ct_74_1, ct_74_4, ct_74_5, ct_74_7, up_cm (by decide), ct_74_10 (fs := [.null, .null, .int 0]) (by decide) rfl, ct_74_13, ct_74_14, ct_74_16]
  rw [show ([.null, .null, .int 0] : List Value).set 0 (.ref 15) = [.ref 15, .null, .int 0] from rfl]
  rw [hf_0 56 17 2]
  have e : ∀ X, ms_up (ms_up (ms_up N 15 (ms_hf 3 56 17 2 0)) 14 X) (15 + 1) (.inl (0, ms_arr 0 56)) = ms_mm (ms_mem Lq (ms_I0 xs) ms_J0) N 16 17 15 (ms_hf 3 56 17 2 0) 14 X := by
    intro X
    rw [up_cm (p := 14) (r := 15 + 1) (by decide), up_cm (N := N) (p := 15) (r := 15 + 1) (by decide)]
    unfold ms_mm
    rw [show ms_up N (15 + 1) (.inl (0, ms_arr 0 56)) = ms_fi (ms_mem Lq (ms_I0 xs) ms_J0) N 16 17 from ?_]
    funext k
    unfold ms_up ms_fi
    by_cases h : k = 16
    · rw [if_pos h, if_pos (by omega), h]
      rfl
    · rw [if_neg h, if_neg (by omega)]
  rw [e]
  have p2 := fun (w : Bool) => ct_74_18 (L := [.ref 14, .null, .null]) (S := []) (a := 15 + 1 + 1) (z := z + 56 + 56) (o := 14) (w := w) (N := ms_up (ms_fi (ms_mem Lq (ms_I0 xs) ms_J0) N 16 17) 15 (ms_hf 3 56 17 2 0)) (v := .ref (15 + 1)) (fs := [.ref 15, .null, .int 0]) (by decide) rfl
  unfold ms_mm
  rw [p2, ct_74_21, ct_74_22]
  have r := ma_u (Lq := Lq) (xs := xs) (N := N) (z := z + 56 + 56) h1 h2 8 0 .null rfl
  refine Eq.trans r ?_
  have f : ms_mm (ms_mem Lq (ms_I0 xs) ms_J0) N 16 129 15 (ms_hf 3 56 17 2 56) 14 (.inr (4, [.ref 15, .ref 16, .int 0])) = ms_up (ms_fi (ms_mem Lq (ms_I0 xs) ms_J0) N 15 129) 14 (.inr (4, [.ref 15, .ref 16, .int 0])) := by
    unfold ms_mm
    rw [show ms_up (ms_fi (ms_mem Lq (ms_I0 xs) ms_J0) N 16 129) 15 (ms_hf 3 56 17 2 56) = ms_fi (ms_mem Lq (ms_I0 xs) ms_J0) N 15 129 from ?_]
    funext k
    unfold ms_up ms_fi
    by_cases h : k = 15
    · rw [if_pos h, if_pos (by omega), h]
      rfl
    · rw [if_neg h]
      by_cases h3 : 16 ≤ k ∧ k < 129
      · rw [if_pos h3, if_pos (by omega)]
      · rw [if_neg h3, if_neg (by omega)]
  rw [f]
end Boot
