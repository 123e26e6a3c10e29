/-! THE INSTRUCTIONS OVER THE STATE BETWEEN CALLS. -/
-- a run as it stands, where nothing more is said
noncomputable def ms_raw (j pc : Nat) (L S : List Value) (σ : ms_M) : Option ms_R := ms_G j pc L S σ
def mo_0 (q r u i : Nat) : Bool := decide (ms_kr r = 0) && decide (u < ms_cn r) && decide (i < ms_nr q r u) && decide (i < 5000)
def mo_1 (q r u i : Nat) : Bool := decide (ms_kr r = 1) && decide (u < ms_cn r) && decide (i < ms_nr q r u) && decide (i < 5000)
def mo_2 (q r u i : Nat) : Bool := decide (ms_kr r = 2 ∨ ms_kr r = 3 ∨ ms_kr r = 4) && decide (u < ms_cn r) && decide (i < ms_nr q r u) && decide (i < 5000)
def mo_3 (r u : Nat) : Bool := decide (ms_kr r < 6) && decide (u < ms_cn r)
theorem mz_go {j pc : Nat} {q : ms_I} (h : ms_at j pc = some q) (hk : ms_kd q = 0) {L S : List Value} {σ : ms_M} {y : ms_N} (hy : ms_st1 q.1 q.2.1 q.2.2 pc L S σ = some y) : ms_G j pc L S σ = ms_G j y.1 y.2.1 y.2.2.1 y.2.2.2 := by
  rw [ms_G_at h]
  unfold ms_stp
  rw [hk]
  show (match ms_st1 q.1 q.2.1 q.2.2 pc L S σ with
    | some y => ms_G j y.1 y.2.1 y.2.2.1 y.2.2.2
    | none => none) = _
  rw [hy]
theorem mz_cond {α : Type} {b : Bool} {x y : α} (h : b = true → x = y) : x = cond b y x := by
  cases b
  · rfl
  · exact h rfl
theorem mz_in {i n : Nat} (h : i < n) (h2 : i < 5000) : ms_in (nI i) n = true := by
  unfold ms_in
  rw [nI_toInt (by omega)]
  exact decide_eq_true (by omega)
theorem mz_cl {i : Nat} (h : i < 5000) : (nI i).toNatClampNeg = i := nI_clamp (by omega)
theorem mz_mem {q : Nat × Nat} {w : Bool} {I : ms_i} {J : ms_j} {r u : Nat} (h : u < ms_cn r) : (ms_Z q w I J).2.2.2 (ms_ad r u) = ms_cell q.1 I J r u := ms_mem_at h _ _ _
theorem mz_c0 {q : Nat} {I : ms_i} {J : ms_j} {r u : Nat} (h : ms_kr r = 0) : ms_cell q I J r u = .inl (0, ms_nr q r u, .inl (I r u)) := by unfold ms_cell; rw [h]; rfl
theorem mz_c1 {q : Nat} {I : ms_i} {J : ms_j} {r u : Nat} (h : ms_kr r = 1) : ms_cell q I J r u = .inl (1, ms_nr q r u, .inr (.inl (J r u))) := by unfold ms_cell; rw [h]; rfl
theorem mz_c5 {q : Nat} {I : ms_i} {J : ms_j} {r u : Nat} (h : ms_kr r = 5) : ms_cell q I J r u = .inl (5, ms_nr q r u, .inl (I r u)) := by unfold ms_cell; rw [h]; rfl
theorem mz_c2 {q : Nat} {I : ms_i} {J : ms_j} {r u : Nat} (h : ms_kr r = 2 ∨ ms_kr r = 3 ∨ ms_kr r = 4) : ∃ (t : Nat) (g : Nat → Option Nat), 2 ≤ t ∧ (∀ i, i < ms_nr q r u → g i = some (ms_ad (ms_er r) i)) ∧ ms_cell q I J r u = .inl (t, ms_nr q r u, .inr (.inr (.inr (.inr g)))) := by
  unfold ms_cell
  rcases h with h | h | h
  · rw [h]; exact ⟨2, _, by decide, fun i _ => rfl, rfl⟩
  · rw [h]; exact ⟨3, _, by decide, fun i hi => if_pos hi, rfl⟩
  · rw [h]; exact ⟨4, _, by decide, fun i hi => if_pos hi, rfl⟩
section MsZ
variable {j pc : Nat} {x : ms_X} {L S : List Value} {q : Nat × Nat} {w : Bool} {I : ms_i} {J : ms_j} {r u i : Nat}
theorem mz_iald (h : ms_at j pc = some (.iaload, 1, x)) : ms_G j pc L (.int (nI i) :: .ref (ms_ad r u) :: S) (ms_Z q w I J) = cond (mo_0 q.1 r u i) (ms_G j (pc + 1) L (.int (I r u i) :: S) (ms_Z q w I J)) (ms_raw j pc L (.int (nI i) :: .ref (ms_ad r u) :: S) (ms_Z q w I J)) := by
  refine mz_cond fun hb => ?_
  simp only [mo_0, Bool.and_eq_true, decide_eq_true_eq] at hb
  obtain ⟨⟨⟨h1, h2⟩, h3⟩, h4⟩ := hb
  refine mz_go (y := (pc + 1, L, .int (I r u i) :: S, ms_Z q w I J)) h rfl ?_
  simp only [ms_st1, mz_mem h2, mz_c0 h1, mz_in h3 h4, mz_cl h4]
  rfl
theorem mz_iald5 (h : ms_at j pc = some (.iaload, 1, x)) (hi : i < q.1) (h4 : i < 5000) : ms_G j pc L (.int (nI i) :: .ref (ms_ad 0 0) :: S) (ms_Z q w I J) = ms_G j (pc + 1) L (.int (I 0 0 i) :: S) (ms_Z q w I J) := by
  refine mz_go (y := (pc + 1, L, .int (I 0 0 i) :: S, ms_Z q w I J)) h rfl ?_
  have h2 : 0 < ms_cn 0 := by decide
  have h1 : ms_kr 0 = 5 := rfl
  have h3 : i < ms_nr q.1 0 0 := hi
  simp only [ms_st1, mz_mem h2, mz_c5 h1, mz_in h3 h4, mz_cl h4]
  rfl
theorem mz_iast (h : ms_at j pc = some (.iastore, 1, x)) (v : Int32) : ms_G j pc L (.int v :: .int (nI i) :: .ref (ms_ad r u) :: S) (ms_Z q w I J) = cond (mo_0 q.1 r u i) (ms_G j (pc + 1) L S (ms_Z q true (ms_u I r u (upd (I r u) i v)) J)) (ms_raw j pc L (.int v :: .int (nI i) :: .ref (ms_ad r u) :: S) (ms_Z q w I J)) := by
  refine mz_cond fun hb => ?_
  simp only [mo_0, Bool.and_eq_true, decide_eq_true_eq] at hb
  obtain ⟨⟨⟨h1, h2⟩, h3⟩, h4⟩ := hb
  refine mz_go (y := (pc + 1, L, S, ms_Z q true (ms_u I r u (upd (I r u) i v)) J)) h rfl ?_
  simp only [ms_st1, mz_mem h2, mz_c0 h1, mz_in h3 h4, mz_cl h4, if_true]
  unfold ms_wr ms_Z
  dsimp only
  rw [ms_up_I h2 q.1 I J (upd (I r u) i v)]
  rw [mz_c0 h1, ms_u_s]
theorem mz_lald (h : ms_at j pc = some (.laload, 1, x)) : ms_G j pc L (.int (nI i) :: .ref (ms_ad r u) :: S) (ms_Z q w I J) = cond (mo_1 q.1 r u i) (ms_G j (pc + 1) L (.long (J r u i) :: S) (ms_Z q w I J)) (ms_raw j pc L (.int (nI i) :: .ref (ms_ad r u) :: S) (ms_Z q w I J)) := by
  refine mz_cond fun hb => ?_
  simp only [mo_1, Bool.and_eq_true, decide_eq_true_eq] at hb
  obtain ⟨⟨⟨h1, h2⟩, h3⟩, h4⟩ := hb
  refine mz_go (y := (pc + 1, L, .long (J r u i) :: S, ms_Z q w I J)) h rfl ?_
  simp only [ms_st1, mz_mem h2, mz_c1 h1, mz_in h3 h4, mz_cl h4]
  rfl
theorem mz_last (h : ms_at j pc = some (.lastore, 1, x)) (v : Int64) : ms_G j pc L (.long v :: .int (nI i) :: .ref (ms_ad r u) :: S) (ms_Z q w I J) = cond (mo_1 q.1 r u i) (ms_G j (pc + 1) L S (ms_Z q true I (ms_u J r u (vp_updL (J r u) i v)))) (ms_raw j pc L (.long v :: .int (nI i) :: .ref (ms_ad r u) :: S) (ms_Z q w I J)) := by
  refine mz_cond fun hb => ?_
  simp only [mo_1, Bool.and_eq_true, decide_eq_true_eq] at hb
  obtain ⟨⟨⟨h1, h2⟩, h3⟩, h4⟩ := hb
  refine mz_go (y := (pc + 1, L, S, ms_Z q true I (ms_u J r u (vp_updL (J r u) i v)))) h rfl ?_
  simp only [ms_st1, mz_mem h2, mz_c1 h1, mz_in h3 h4, mz_cl h4, if_true]
  unfold ms_wr ms_Z
  dsimp only
  rw [ms_up_J h2 q.1 I J (vp_updL (J r u) i v)]
  rw [mz_c1 h1, ms_u_s]
theorem mz_aald (h : ms_at j pc = some (.aaload, 1, x)) : ms_G j pc L (.int (nI i) :: .ref (ms_ad r u) :: S) (ms_Z q w I J) = cond (mo_2 q.1 r u i) (ms_G j (pc + 1) L (.ref (ms_ad (ms_er r) i) :: S) (ms_Z q w I J)) (ms_raw j pc L (.int (nI i) :: .ref (ms_ad r u) :: S) (ms_Z q w I J)) := by
  refine mz_cond fun hb => ?_
  simp only [mo_2, Bool.and_eq_true, decide_eq_true_eq] at hb
  obtain ⟨⟨⟨h1, h2⟩, h3⟩, h4⟩ := hb
  refine mz_go (y := (pc + 1, L, .ref (ms_ad (ms_er r) i) :: S, ms_Z q w I J)) h rfl ?_
  obtain ⟨t, g, ht, hg, hc⟩ := mz_c2 (q := q.1) (I := I) (J := J) (u := u) h1
  simp only [ms_st1, mz_mem h2, hc, mz_in h3 h4, mz_cl h4, ht, hg i h3]
  rfl
theorem mz_alen (h : ms_at j pc = some (.arraylength, 1, x)) : ms_G j pc L (.ref (ms_ad r u) :: S) (ms_Z q w I J) = cond (mo_3 r u) (ms_G j (pc + 1) L (.int (nI (ms_nr q.1 r u)) :: S) (ms_Z q w I J)) (ms_raw j pc L (.ref (ms_ad r u) :: S) (ms_Z q w I J)) := by
  refine mz_cond fun hb => ?_
  simp only [mo_3, Bool.and_eq_true, decide_eq_true_eq] at hb
  obtain ⟨h1, h2⟩ := hb
  refine mz_go (y := (pc + 1, L, .int (nI (ms_nr q.1 r u)) :: S, ms_Z q w I J)) h rfl ?_
  have h6 : ms_kr r = 0 ∨ ms_kr r = 1 ∨ (ms_kr r = 2 ∨ ms_kr r = 3 ∨ ms_kr r = 4) ∨ ms_kr r = 5 := by omega
  rcases h6 with h6 | h6 | h6 | h6
  · simp only [ms_st1, mz_mem h2, mz_c0 h6]
  · simp only [ms_st1, mz_mem h2, mz_c1 h6]
  · obtain ⟨t, g, ht, hg, hc⟩ := mz_c2 (q := q.1) (I := I) (J := J) (u := u) h6
    simp only [ms_st1, mz_mem h2, hc]
  · simp only [ms_st1, mz_mem h2, mz_c5 h6]
/-- a field is read -/
theorem mz_getf {idx ci k : Nat} {xs : Value} {ys : List Nat} (h : ms_at j pc = some (.getfield idx, 3, ci, k, xs, ys)) (hu : u < ms_cn r) (hk : ms_kr r = ci + 10) (hk2 : ms_kr r ≠ 99) {c : Nat × Nat} (hf : (ms_fd r)[k]? = some c) : ms_G j pc L (.ref (ms_ad r u) :: S) (ms_Z q w I J) = ms_G j (pc + 3) L (ms_fv I J r u c :: S) (ms_Z q w I J) := by
  refine mz_go (y := (pc + 3, L, ms_fv I J r u c :: S, ms_Z q w I J)) h rfl ?_
  have hc : ms_cell q.1 I J r u = .inr (ci, (ms_fd r).map (ms_fv I J r u)) := by
    unfold ms_cell
    rw [hk]
    rw [hk] at hk2
    split
    all_goals first
      | omega
      | (rename_i h; simp at h; omega)
      | rfl
  simp only [ms_st1, mz_mem hu, hc, if_true, List.getElem?_map, hf, Option.map_some]
end MsZ
theorem ms_fd_ok : ∀ r, r < 67 → ∀ i, i < 34 → ∀ c, (ms_fd r)[i]? = some c → c.1 < 2 → c.2 = i := by
  intro r hr i hi c hc h2
  have key : ∀ r, r < 67 → ∀ i, i < 34 → ((ms_fd r)[i]?.map fun c => decide (c.1 < 2 → c.2 = i)).getD true = true := by decide +kernel
  have h := key r hr i hi
  rw [hc] at h
  exact of_decide_eq_true h h2
theorem ms_fd_len : ∀ r, r < 67 → (ms_fd r).length ≤ 34 := by decide +kernel
theorem mz_set {I : ms_i} {J : ms_j} {r u k : Nat} (hr : r < 67) (hf : (ms_fd r)[k]? = some (0, k)) (v : Int32) : ((ms_fd r).map (ms_fv I J r u)).set k (.int v) = (ms_fd r).map (ms_fv (ms_u I r u (upd (I r u) k v)) J r u) := by
  apply List.ext_getElem?
  intro i
  rw [List.getElem?_set]
  have hl : k < (ms_fd r).length := (List.getElem?_eq_some_iff.mp hf).1
  by_cases hi : k = i
  · subst hi
    rw [if_pos rfl, if_pos (by simpa using hl), List.getElem?_map, hf]
    simp [ms_fv, ms_u_s, upd]
  · rw [if_neg hi, List.getElem?_map, List.getElem?_map]
    cases hc : (ms_fd r)[i]? with
    | none => rfl
    | some c =>
      have hil : i < 34 := Nat.lt_of_lt_of_le (List.getElem?_eq_some_iff.mp hc).1 (ms_fd_len r hr)
      have h9 := ms_fd_ok r hr i hil c hc
      show some _ = some _
      congr 1
      obtain ⟨c1, c2⟩ := c
      unfold ms_fv
      match c1 with
      | 0 =>
        have e : c2 = i := h9 (by show 0 < 2; decide)
        subst e
        simp only [ms_u_s]
        have : ¬ c2 = k := fun z => hi z.symm
        simp [upd, this]
      | 1 => rfl
      | 2 => rfl
      | _ + 3 => rfl
theorem mz_setJ {I : ms_i} {J : ms_j} {r u k : Nat} (hr : r < 67) (hf : (ms_fd r)[k]? = some (1, k)) (v : Int64) : ((ms_fd r).map (ms_fv I J r u)).set k (.long v) = (ms_fd r).map (ms_fv I (ms_u J r u (vp_updL (J r u) k v)) r u) := by
  apply List.ext_getElem?
  intro i
  rw [List.getElem?_set]
  have hl : k < (ms_fd r).length := (List.getElem?_eq_some_iff.mp hf).1
  by_cases hi : k = i
  · subst hi
    rw [if_pos rfl, if_pos (by simpa using hl), List.getElem?_map, hf]
    simp [ms_fv, ms_u_s, vp_updL]
  · rw [if_neg hi, List.getElem?_map, List.getElem?_map]
    cases hc : (ms_fd r)[i]? with
    | none => rfl
    | some c =>
      have hil : i < 34 := Nat.lt_of_lt_of_le (List.getElem?_eq_some_iff.mp hc).1 (ms_fd_len r hr)
      have h9 := ms_fd_ok r hr i hil c hc
      show some _ = some _
      congr 1
      obtain ⟨c1, c2⟩ := c
      unfold ms_fv
      match c1 with
      | 0 => rfl
      | 1 =>
        have e : c2 = i := h9 (by show 1 < 2; decide)
        subst e
        simp only [ms_u_s]
        have : ¬ c2 = k := fun z => hi z.symm
        simp [vp_updL, this]
      | 2 => rfl
      | _ + 3 => rfl
theorem mz_co {q : Nat} {I : ms_i} {J : ms_j} {r u ci : Nat} (hk : ms_kr r = ci + 10) (hk2 : ms_kr r ≠ 99) : ms_cell q I J r u = .inr (ci, (ms_fd r).map (ms_fv I J r u)) := by
  unfold ms_cell
  rw [hk]
  rw [hk] at hk2
  split
  all_goals first
    | omega
    | (rename_i h; simp at h; omega)
    | rfl
def ms_b (b : Bool) : Int32 := if b then nI 1 else nI 0
theorem ms_b_01 (b : Bool) : ms_b b = 0 ∨ ms_b b = 1 := by
  cases b
  · exact Or.inl rfl
  · exact Or.inr rfl
noncomputable def mo_clT (j pc k : Nat) (L : List Value) (τ : ms_M) : Option ms_R := match ms_hd j pc k with
  | some h => ms_G j h L [.ref (τ.1 - 1)] (τ.1, τ.2.1, true, τ.2.2.2)
  | none => none
/-- what a call comes back with -/
noncomputable def mo_cl (j pc pc' : Nat) (R : Option ms_R) (w : Bool) (L S : List Value) : Option ms_R := match R with
  | some (.inl v, τ) => ms_G j pc' L (v.toList ++ S) (τ.1, τ.2.1, w || τ.2.2.1, τ.2.2.2)
  | some (.inr k, τ) => mo_clT j pc k L τ
  | none => none
theorem mz_clv (j pc pc' : Nat) (v : Value) (q : Nat × Nat) (w w' : Bool) (I : ms_i) (J : ms_j) (L S : List Value) : mo_cl j pc pc' (some (.inl (some v), ms_Z q w' I J)) w L S = ms_G j pc' L (v :: S) (ms_Z q (w || w') I J) := rfl
theorem mz_cln (j pc pc' : Nat) (q : Nat × Nat) (w w' : Bool) (I : ms_i) (J : ms_j) (L S : List Value) : mo_cl j pc pc' (some (.inl none, ms_Z q w' I J)) w L S = ms_G j pc' L S (ms_Z q (w || w') I J) := rfl
theorem mz_clt {j pc k h : Nat} (hh : ms_hd j pc k = some h) (pc' : Nat) (q : Nat × Nat) (w w' : Bool) (I : ms_i) (J : ms_j) (L S : List Value) : mo_cl j pc pc' (some (.inr k, ms_Z q w' I J)) w L S = ms_G j h L [.ref (267 + q.2)] (ms_Z q true I J) := by
  show mo_clT j pc k L (ms_Z q w' I J) = _
  unfold mo_clT
  rw [hh]
  show ms_G j h L [.ref (268 + q.2 - 1)] _ = _
  rw [show 268 + q.2 - 1 = 267 + q.2 by omega]
  rfl
theorem mz_call {j pc c : Nat} {ins : Instr} {xs : Value} {ys : List Nat} (h : ms_at j pc = some (ins, 3, c, 0, xs, ys)) (hk : ms_kd (ins, 3, c, 0, xs, ys) = 1) {L S : List Value} {σ : ms_M} (hcan : ms_can c S σ = true) : ms_G j pc L S σ = mo_cl j pc (pc + 3) (ms_G c 0 (ms_ent c (S.take (ms_na c)).reverse) [] (σ.1, σ.2.1, false, σ.2.2.2)) σ.2.2.1 L (S.drop (ms_na c)) := by
  rw [ms_G_at h]
  unfold ms_stp
  rw [hk]
  show ms_call ms_G j pc c L S σ = _
  unfold ms_call mo_cl mo_clT
  rw [if_pos hcan]
  rfl
theorem mz_can0 {c : Nat} {S : List Value} {σ : ms_M} (h1 : Nat.ble (ms_na c) S.length = true) (h2 : Nat.ble ((S.drop (ms_na c)).map fun v => v.category).sum 8 = true) (h3 : Nat.ble (ms_ents (S.take (ms_na c)).reverse).length (ms_mx c) = true) (h4 : ms_rc c = none) (h5 : ms_ini c = false) : ms_can c S σ = true := by
  simp only [ms_can, h4, h5, Bool.and_eq_true, decide_eq_true_eq, Bool.not_false, Bool.true_or, and_true]
  exact ⟨⟨Nat.le_of_ble_eq_true h1, Nat.le_of_ble_eq_true h2⟩, Nat.le_of_ble_eq_true h3⟩
theorem mz_can1 {c ci r u : Nat} {S : List Value} {q : Nat × Nat} {w : Bool} {I : ms_i} {J : ms_j} (h1 : Nat.ble (ms_na c) S.length = true) (h2 : Nat.ble ((S.drop (ms_na c)).map fun v => v.category).sum 8 = true) (h3 : Nat.ble (ms_ents (S.take (ms_na c)).reverse).length (ms_mx c) = true) (h4 : ms_rc c = some ci) (h5 : (S.take (ms_na c)).reverse.head? = some (.ref (ms_ad r u))) (hu : u < ms_cn r) (hk : ms_kr r = ci + 10) (hk2 : ms_kr r ≠ 99) : ms_can c S (ms_Z q w I J) = true := by
  simp only [ms_can, h4, h5, Bool.and_eq_true, decide_eq_true_eq, mz_mem hu, mz_co hk hk2]
  exact ⟨⟨⟨Nat.le_of_ble_eq_true h1, Nat.le_of_ble_eq_true h2⟩, Nat.le_of_ble_eq_true h3⟩, trivial⟩
section MsZ2
variable {j pc : Nat} {x : ms_X} {L S : List Value} {q : Nat × Nat} {w : Bool} {I : ms_i} {J : ms_j} {r u i : Nat}
theorem mz_putf {idx ci k : Nat} {xs : Value} {ys : List Nat} (h : ms_at j pc = some (.putfield idx, 3, ci, k, xs, ys)) (hu : u < ms_cn r) (hk : ms_kr r = ci + 10) (hk2 : ms_kr r ≠ 99) (hf : (ms_fd r)[k]? = some (0, k)) {v : Int32} (hfit : ms_fit (ms_ft ci k) (.int v) = true) : ms_G j pc L (.int v :: .ref (ms_ad r u) :: S) (ms_Z q w I J) = ms_G j (pc + 3) L S (ms_Z q true (ms_u I r u (upd (I r u) k v)) J) := by
  refine mz_go (y := (pc + 3, L, S, ms_Z q true (ms_u I r u (upd (I r u) k v)) J)) h rfl ?_
  have hl : k < ((ms_fd r).map (ms_fv I J r u)).length := by
    rw [List.length_map]
    exact (List.getElem?_eq_some_iff.mp hf).1
  simp only [ms_st1, mz_mem hu, mz_co hk hk2, hfit, hl, and_self, if_true, mz_set (ms_cn_lt hu) hf]
  unfold ms_wr ms_Z
  dsimp only
  rw [ms_up_I hu q.1 I J (upd (I r u) k v)]
  rw [mz_co hk hk2]
theorem mz_putl {idx ci k : Nat} {xs : Value} {ys : List Nat} (h : ms_at j pc = some (.putfield idx, 3, ci, k, xs, ys)) (hu : u < ms_cn r) (hk : ms_kr r = ci + 10) (hk2 : ms_kr r ≠ 99) (hf : (ms_fd r)[k]? = some (1, k)) {v : Int64} (hfit : ms_fit (ms_ft ci k) (.long v) = true) : ms_G j pc L (.long v :: .ref (ms_ad r u) :: S) (ms_Z q w I J) = ms_G j (pc + 3) L S (ms_Z q true I (ms_u J r u (vp_updL (J r u) k v))) := by
  refine mz_go (y := (pc + 3, L, S, ms_Z q true I (ms_u J r u (vp_updL (J r u) k v)))) h rfl ?_
  have hl : k < ((ms_fd r).map (ms_fv I J r u)).length := by
    rw [List.length_map]
    exact (List.getElem?_eq_some_iff.mp hf).1
  simp only [ms_st1, mz_mem hu, mz_co hk hk2, hfit, hl, and_self, if_true, mz_setJ (ms_cn_lt hu) hf]
  unfold ms_wr ms_Z
  dsimp only
  rw [ms_up_J hu q.1 I J (vp_updL (J r u) k v)]
  rw [mz_co hk hk2]
theorem mz_thr {idx k : Nat} {xs : Value} {ys : List Nat} (h : ms_at j pc = some (.new idx, 3, k, 1, xs, ys)) : ms_G j pc L [] (ms_Z q false I J) = some (.inr k, ms_Z (q.1, q.2 + 1) true I J) := by
  rw [ms_G_at h]
  show ms_thr k [] (ms_Z q false I J) = _
  show some _ = some _
  congr 2
  unfold ms_nw ms_Z
  dsimp only
  rw [ms_up_hi (by omega)]
  rfl
def mo_c (q r u r' u' sp dp n : Nat) : Bool := decide (ms_kr r = 0) && decide (ms_kr r' = 0) && decide (u < ms_cn r) && decide (u' < ms_cn r') && decide (sp + n ≤ ms_nr q r u) && decide (dp + n ≤ ms_nr q r' u') && decide (sp + n < 5000) && decide (dp + n < 5000)
def mo_d (q r u r' u' sp dp n : Nat) : Bool := decide (ms_kr r = 1) && decide (ms_kr r' = 1) && decide (u < ms_cn r) && decide (u' < ms_cn r') && decide (sp + n ≤ ms_nr q r u) && decide (dp + n ≤ ms_nr q r' u') && decide (sp + n < 5000) && decide (dp + n < 5000)
theorem mz_acp {idx : Nat} {xs : Value} {ys : List Nat} (h : ms_at j pc = some (.invokestatic idx, 3, 0, 1, xs, ys)) (h8 : (S.map fun v => v.category).sum ≤ 8) {r' u' sp dp n : Nat} : ms_G j pc L (.int (nI n) :: .int (nI dp) :: .ref (ms_ad r' u') :: .int (nI sp) :: .ref (ms_ad r u) :: S) (ms_Z q w I J) = cond (mo_c q.1 r u r' u' sp dp n) (ms_G j (pc + 3) L S (ms_Z q true (ms_u I r' u' (va_cpy (I r u) (I r' u') sp dp n)) J)) (ms_raw j pc L (.int (nI n) :: .int (nI dp) :: .ref (ms_ad r' u') :: .int (nI sp) :: .ref (ms_ad r u) :: S) (ms_Z q w I J)) := by
  refine mz_cond fun hb => ?_
  simp only [mo_c, Bool.and_eq_true, decide_eq_true_eq] at hb
  obtain ⟨⟨⟨⟨⟨⟨⟨h1, h1'⟩, h2⟩, h2'⟩, h3⟩, h3'⟩, h4⟩, h4'⟩ := hb
  refine mz_go (y := (pc + 3, L, S, ms_Z q true (ms_u I r' u' (va_cpy (I r u) (I r' u') sp dp n)) J)) h rfl ?_
  have e1 : (nI sp).toNatClampNeg = sp := nI_clamp (by omega)
  have e2 : (nI dp).toNatClampNeg = dp := nI_clamp (by omega)
  have e3 : (nI n).toNatClampNeg = n := nI_clamp (by omega)
  have f1 : 0 ≤ (nI sp).toInt := by rw [nI_toInt (by omega)]; omega
  have f2 : 0 ≤ (nI dp).toInt := by rw [nI_toInt (by omega)]; omega
  have f3 : 0 ≤ (nI n).toInt := by rw [nI_toInt (by omega)]; omega
  simp only [ms_st1, mz_mem h2, mz_mem h2', mz_c0 h1, mz_c0 h1', e1, e2, e3, f1, f2, f3, h3, h3', h8, and_self, if_true]
  unfold ms_wr ms_Z
  dsimp only
  rw [ms_up_I h2' q.1 I J (va_cpy (I r u) (I r' u') sp dp n)]
  rw [mz_c0 h1', ms_u_s]
theorem mz_acpl {idx : Nat} {xs : Value} {ys : List Nat} (h : ms_at j pc = some (.invokestatic idx, 3, 0, 1, xs, ys)) (h8 : (S.map fun v => v.category).sum ≤ 8) {r' u' sp dp n : Nat} : ms_G j pc L (.int (nI n) :: .int (nI dp) :: .ref (ms_ad r' u') :: .int (nI sp) :: .ref (ms_ad r u) :: S) (ms_Z q w I J) = cond (mo_d q.1 r u r' u' sp dp n) (ms_G j (pc + 3) L S (ms_Z q true I (ms_u J r' u' (va_cpy (J r u) (J r' u') sp dp n)))) (ms_raw j pc L (.int (nI n) :: .int (nI dp) :: .ref (ms_ad r' u') :: .int (nI sp) :: .ref (ms_ad r u) :: S) (ms_Z q w I J)) := by
  refine mz_cond fun hb => ?_
  simp only [mo_d, Bool.and_eq_true, decide_eq_true_eq] at hb
  obtain ⟨⟨⟨⟨⟨⟨⟨h1, h1'⟩, h2⟩, h2'⟩, h3⟩, h3'⟩, h4⟩, h4'⟩ := hb
  refine mz_go (y := (pc + 3, L, S, ms_Z q true I (ms_u J r' u' (va_cpy (J r u) (J r' u') sp dp n)))) h rfl ?_
  have e1 : (nI sp).toNatClampNeg = sp := nI_clamp (by omega)
  have e2 : (nI dp).toNatClampNeg = dp := nI_clamp (by omega)
  have e3 : (nI n).toNatClampNeg = n := nI_clamp (by omega)
  have f1 : 0 ≤ (nI sp).toInt := by rw [nI_toInt (by omega)]; omega
  have f2 : 0 ≤ (nI dp).toInt := by rw [nI_toInt (by omega)]; omega
  have f3 : 0 ≤ (nI n).toInt := by rw [nI_toInt (by omega)]; omega
  simp only [ms_st1, mz_mem h2, mz_mem h2', mz_c1 h1, mz_c1 h1', e1, e2, e3, f1, f2, f3, h3, h3', h8, and_self, if_true]
  unfold ms_wr ms_Z
  dsimp only
  rw [ms_up_J h2' q.1 I J (va_cpy (J r u) (J r' u') sp dp n)]
  rw [mz_c1 h1', ms_u_s]
end MsZ2
section MsZ3
variable {j pc t y off' : Nat} {off : Int} {xs : Value} {ys : List Nat} {L S : List Value} {σ : ms_M} {x z : Int32}
theorem mz_bra {q : ms_I} (h : ms_at j pc = some q) (hk : ms_kd q = 0) {c : Prop} {dc : Decidable c} {a b : Nat} {L' S' : List Value} {σ' : ms_M} (hy : ms_st1 q.1 q.2.1 q.2.2 pc L S σ = some (if c then a else b, L', S', σ')) : ms_G j pc L S σ = if c then ms_G j a L' S' σ' else ms_G j b L' S' σ' := by
  rw [mz_go h hk hy]
  by_cases hc : c
  · rw [if_pos hc, if_pos hc]
  · rw [if_neg hc, if_neg hc]
theorem mz_sw {d lo hi : Int} {os : Array Int} {len : Nat} (h : ms_at j pc = some (.tableswitch d lo hi os, len, t, y, xs, ys)) (hx : x.toInt < lo ∨ hi < x.toInt) : ms_G j pc L (.int x :: S) σ = ms_G j t L S σ := by
  have hy : ms_st1 (.tableswitch d lo hi os) len (t, y, xs, ys) pc L (.int x :: S) σ = some (t, L, S, σ) := by
    simp only [ms_st1]
    rw [if_pos hx]
  exact mz_go h rfl hy
theorem mz_lk_d (d : Nat) (a : Int) : ∀ (ps : List (Int × Int)) (ts : List Nat), ps.all (fun p => a != p.1) = true → ms_lk ps ts d a = d
  | [], _, _ => rfl
  | (k, o) :: ps, [], _ => rfl
  | (k, o) :: ps, t :: ts, h => by
    simp only [List.all_cons, Bool.and_eq_true, bne_iff_ne, ne_eq] at h
    simp only [ms_lk]
    rw [if_neg h.1]
    exact mz_lk_d d a ps ts (by simpa using h.2)
theorem mz_lsw {d : Int} {ps : Array (Int × Int)} {len : Nat} (h : ms_at j pc = some (.lookupswitch d ps, len, t, y, xs, ys)) (hx : ps.toList.all (fun p => x.toInt != p.1) = true) : ms_G j pc L (.int x :: S) σ = ms_G j t L S σ := by
  have hy : ms_st1 (.lookupswitch d ps) len (t, y, xs, ys) pc L (.int x :: S) σ = some (t, L, S, σ) := by
    simp only [ms_st1]
    rw [mz_lk_d t x.toInt ps.toList ys hx]
  exact mz_go h rfl hy
end MsZ3
