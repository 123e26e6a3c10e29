/-! THE PURE MACHINE AND THE REAL ONE: values, locals, cells, memory. Cell number k lies at address ρ k: 0, 1, 2 are cells that were there before (the script, two constant arrays), k + 3 is the k-th new one. -/
def ms_mv (ρ : Nat → Nat) : Value → Value
  | .ref a => .ref (ρ a)
  | v => v
theorem ms_mv_cat (ρ : Nat → Nat) (v : Value) : (ms_mv ρ v).category = v.category := by cases v <;> rfl
theorem ms_mv_sum (ρ : Nat → Nat) (S : List Value) : ((S.map (ms_mv ρ)).map fun v => v.category).sum = (S.map fun v => v.category).sum := by
  rw [List.map_map]
  congr 1
  apply List.map_congr_left
  intro v _
  exact ms_mv_cat ρ v
def ms_rho (B b t1 t2 : Nat) : Nat → Nat
  | 0 => b
  | 1 => t1
  | 2 => t2
  | k + 3 => B + k
-- locals
def ms_lv (ρ : Nat → Nat) (L : List Value) : List (Nat × Value) := (List.range L.length).filterMap fun i => match L.getD i .null with
  | .null => none
  | v => some (i, ms_mv ρ v)
theorem ms_lv_mem {ρ : Nat → Nat} {L : List Value} {i : Nat} {u : Value} : (i, u) ∈ ms_lv ρ L ↔ i < L.length ∧ L.getD i .null ≠ .null ∧ u = ms_mv ρ (L.getD i .null) := by
  unfold ms_lv
  rw [List.mem_filterMap]
  constructor
  · rintro ⟨a, ha, h⟩
    rw [List.mem_range] at ha
    cases hv : L.getD a .null <;> rw [hv] at h <;> simp at h <;> obtain ⟨rfl, rfl⟩ := h <;> rw [hv] <;> exact ⟨ha, by simp, rfl⟩
  · rintro ⟨h1, h2, h3⟩
    refine ⟨i, List.mem_range.mpr h1, ?_⟩
    subst h3
    cases hv : L.getD i .null <;> rw [hv] at h2 <;> simp at h2 ⊢
def ms_Lr (ρ : Nat → Nat) (ls : Array Slot) (L : List Value) : Prop := lv_has ls L.length (ms_lv ρ L)
theorem ms_getD_lt {L : List Value} {i : Nat} (h : L.getD i .null ≠ .null) : i < L.length := by
  rcases Nat.lt_or_ge i L.length with h1 | h1
  · exact h1
  · exact absurd (by rw [List.getD_eq_getElem?_getD, List.getElem?_eq_none h1]; rfl) h
theorem ms_Lr.at {ρ : Nat → Nat} {ls : Array Slot} {L : List Value} (h : ms_Lr ρ ls L) {i : Nat} {v : Value} (hv : L.getD i .null = v) (hn : v ≠ .null) : ls[i]? = some (.val (ms_mv ρ v)) := by
  subst hv
  exact h.2.2 (i, _) (ms_lv_mem.mpr ⟨ms_getD_lt hn, hn, rfl⟩)
theorem ms_kill_len (L : List Value) (i : Nat) : (ms_kill L i).length = L.length := by
  cases i with
  | zero => rfl
  | succ i => simp only [ms_kill]; split <;> simp
theorem ms_s1_len (L : List Value) (i : Nat) (v : Value) : (ms_s1 L i v).length = L.length := by simp [ms_s1, ms_kill_len]
theorem ms_s2_len (L : List Value) (i : Nat) (v : Value) : (ms_s2 L i v).length = L.length := by simp [ms_s2, ms_kill_len]
theorem ms_set_get (L : List Value) (i j : Nat) (v : Value) (hi : i < L.length) : (L.set i v).getD j .null = if j = i then v else L.getD j .null := by
  rw [List.getD_eq_getElem?_getD, List.getD_eq_getElem?_getD]
  by_cases h : j = i
  · subst h
    rw [List.getElem?_set_self hi, if_pos rfl]; rfl
  · rw [List.getElem?_set_ne (Ne.symm h), if_neg h]
theorem ms_set_null (L : List Value) (i j : Nat) : (L.set i .null).getD j .null = if j = i then .null else L.getD j .null := by
  rcases Nat.lt_or_ge i L.length with hi | hi
  · exact ms_set_get L i j .null hi
  · rw [List.set_eq_of_length_le hi]
    by_cases h : j = i
    · subst h
      rw [if_pos rfl, List.getD_eq_getElem?_getD, List.getElem?_eq_none hi]; rfl
    · rw [if_neg h]
theorem ms_kill_get (L : List Value) (i j : Nat) : (ms_kill L i).getD j .null = if j + 1 = i ∧ (L.getD j .null).category = 2 then .null else L.getD j .null := by
  cases i with
  | zero => rw [if_neg (by omega)]; rfl
  | succ i =>
    simp only [ms_kill]
    split
    · rename_i a hv
      rw [ms_set_null]
      by_cases hj : j = i
      · subst hj
        rw [if_pos rfl, if_pos ⟨rfl, by rw [hv]; rfl⟩]
      · rw [if_neg hj, if_neg (by omega)]
    · rename_i a hv
      rw [ms_set_null]
      by_cases hj : j = i
      · subst hj
        rw [if_pos rfl, if_pos ⟨rfl, by rw [hv]; rfl⟩]
      · rw [if_neg hj, if_neg (by omega)]
    · rename_i h1 h2
      rw [if_neg]
      rintro ⟨hj, hc⟩
      have hj : j = i := by omega
      subst hj
      cases hv : L.getD j .null with
      | long a => exact h1 a hv
      | double a => exact h2 a hv
      | _ => rw [hv] at hc; cases hc
theorem ms_s1_get {L : List Value} {i j : Nat} {v : Value} (hi : i < L.length) : (ms_s1 L i v).getD j .null = if j = i then v else if j + 1 = i ∧ (L.getD j .null).category = 2 then .null else L.getD j .null := by
  unfold ms_s1
  rw [ms_set_get _ _ _ _ (by rw [ms_kill_len]; exact hi), ms_kill_get]
theorem ms_s2_get {L : List Value} {i j : Nat} {v : Value} (hi : i < L.length) : (ms_s2 L i v).getD j .null = if j = i then v else if j = i + 1 then .null else if j + 1 = i ∧ (L.getD j .null).category = 2 then .null else L.getD j .null := by
  unfold ms_s2
  rw [ms_set_get _ _ _ _ (by simp [ms_kill_len]; exact hi), ms_set_null, ms_kill_get]
theorem ms_Lr.set1 {ρ : Nat → Nat} {ls' : Array Slot} {L : List Value} {i : Nat} {v : Value} (hi : i < L.length) (h : lv_has ls' L.length ((i, ms_mv ρ v) :: (ms_lv ρ L).filter (fun q => !(q.1 == i) && !(q.1 + 1 == i && q.2.category == 2)))) : ms_Lr ρ ls' (ms_s1 L i v) := by
  refine ⟨by rw [ms_s1_len]; exact h.1, h.2.1, ?_⟩
  rintro ⟨j, u⟩ hm
  obtain ⟨h1, h2, rfl⟩ := ms_lv_mem.mp hm
  rw [ms_s1_get hi] at h2 ⊢
  apply h.2.2
  by_cases hj : j = i
  · subst hj
    rw [if_pos rfl]
    exact List.mem_cons_self
  · rw [if_neg hj] at h2 ⊢
    by_cases hk : j + 1 = i ∧ (L.getD j .null).category = 2
    · rw [if_pos hk] at h2
      exact absurd rfl h2
    · rw [if_neg hk] at h2 ⊢
      refine List.mem_cons_of_mem _ (List.mem_filter.mpr ⟨ms_lv_mem.mpr ⟨ms_getD_lt h2, h2, rfl⟩, ?_⟩)
      simp only [ms_mv_cat]
      simp [hj]
      rw [← List.getD_eq_getElem?_getD]
      by_cases e : j + 1 = i
      · exact Or.inr (fun z => hk ⟨e, z⟩)
      · exact Or.inl e
theorem ms_Lr.set2 {ρ : Nat → Nat} {ls' : Array Slot} {L : List Value} {i : Nat} {v : Value} (hi : i + 1 < L.length) (h : lv_has ls' L.length ((i, ms_mv ρ v) :: (ms_lv ρ L).filter (fun q => !(q.1 == i) && (!(q.1 == i + 1) && !(q.1 + 1 == i && q.2.category == 2))))) : ms_Lr ρ ls' (ms_s2 L i v) := by
  have hi0 : i < L.length := by omega
  refine ⟨by rw [ms_s2_len]; exact h.1, h.2.1, ?_⟩
  rintro ⟨j, u⟩ hm
  obtain ⟨h1, h2, rfl⟩ := ms_lv_mem.mp hm
  rw [ms_s2_get hi0] at h2 ⊢
  apply h.2.2
  by_cases hj : j = i
  · subst hj
    rw [if_pos rfl]
    exact List.mem_cons_self
  · rw [if_neg hj] at h2 ⊢
    by_cases hj2 : j = i + 1
    · rw [if_pos hj2] at h2
      exact absurd rfl h2
    · rw [if_neg hj2] at h2 ⊢
      by_cases hk : j + 1 = i ∧ (L.getD j .null).category = 2
      · rw [if_pos hk] at h2
        exact absurd rfl h2
      · rw [if_neg hk] at h2 ⊢
        refine List.mem_cons_of_mem _ (List.mem_filter.mpr ⟨ms_lv_mem.mpr ⟨ms_getD_lt h2, h2, rfl⟩, ?_⟩)
        simp only [ms_mv_cat]
        simp [hj, hj2]
        rw [← List.getD_eq_getElem?_getD]
        by_cases e : j + 1 = i
        · exact Or.inr (fun z => hk ⟨e, z⟩)
        · exact Or.inl e
-- cells
def ms_ra (ρ : Nat → Nat) (a : vp_A) : vp_A := match a with
  | (n, .inr (.inr (.inr (.inr f)))) => (n, .inr (.inr (.inr (.inr (fun j => (f j).map ρ)))))
  | (n, .inl f) => (n, .inl f)
  | (n, .inr (.inl f)) => (n, .inr (.inl f))
  | (n, .inr (.inr (.inl f))) => (n, .inr (.inr (.inl f)))
  | (n, .inr (.inr (.inr (.inl f)))) => (n, .inr (.inr (.inr (.inl f))))
def ms_tys (dA : Nat → ClassId) : List (ClassId × FieldType) := [(dA 0, .int), (dA 1, .long), (dA 2, .array .int), (dA 3, .object ms_cM), (dA 4, .object ms_cP)]
-- B: where the new cells begin; X: the cells 0, 1, 2
abbrev ms_V : Type := Nat × (Nat → Nat) × va_G × (Nat → ClassId) × (Nat → Nat × (Nat → Int32)) × Heap
abbrev ms_vB (v : ms_V) : Nat := v.1
abbrev ms_vr (v : ms_V) : Nat → Nat := v.2.1
abbrev ms_vD (v : ms_V) : va_G := v.2.2.1
abbrev ms_vA (v : ms_V) : Nat → ClassId := v.2.2.2.1
abbrev ms_vX (v : ms_V) : Nat → Nat × (Nat → Int32) := v.2.2.2.2.1
abbrev ms_vH (v : ms_V) : Heap := v.2.2.2.2.2
def ms_cr (v : ms_V) (k : Nat) (e : ms_E) (H : Heap) : Prop := match e with
  | .inl (t, a) => (t = 5 ∧ k < 3 ∧ a = ((ms_vX v k).1, .inl (ms_vX v k).2)) ∨ (t < 5 ∧ 3 ≤ k ∧ H[ms_vr v k]? = some (vp_cell (ms_vA v t) (ms_ra (ms_vr v) a)))
  | .inr (ci, fs) => ci = 99 ∨ (3 ≤ k ∧ ∃ r, ms_cl[ci]? = some r ∧ t_OB (ms_vr v k) ((ms_vD v).1 ci) r.2.2 ((ms_vD v).2 ci) H (vp_V (fs.map (ms_mv (ms_vr v)))))
theorem ms_cr.kept {v : ms_V} {k : Nat} {e : ms_E} {H H1 : Heap} (h : ms_cr v k e H) (hq : H1[ms_vr v k]? = H[ms_vr v k]?) : ms_cr v k e H1 := by
  rcases e with ⟨t, a⟩ | ⟨ci, fs⟩
  · rcases h with h | ⟨h1, h2, h3⟩
    · exact Or.inl h
    · exact Or.inr ⟨h1, h2, hq.trans h3⟩
  · rcases h with h | ⟨h1, r, h2, h3⟩
    · exact Or.inl h
    · exact Or.inr ⟨h1, r, h2, h3.kept hq⟩
-- the two memories
def ms_Rl (v : ms_V) (σ : ms_M) (H : Heap) : Prop :=
  (3 ≤ σ.1 ∧ H.size + 3 = ms_vB v + σ.1 ∧ (∀ q, q < ms_vB v → H[q]? = (ms_vH v)[q]?)) ∧ ∀ k, ms_cr v k (σ.2.2.2 k) H
def ms_vok (v : ms_V) : Prop := ∃ b t1 t2, ms_vr v = ms_rho (ms_vB v) b t1 t2 ∧ b < ms_vB v ∧ t1 < ms_vB v ∧ t2 < ms_vB v
theorem ms_vok.hi {v : ms_V} (h : ms_vok v) {k : Nat} (hk : 3 ≤ k) : ms_vr v k = ms_vB v + (k - 3) := by
  obtain ⟨b, t1, t2, h, -⟩ := h
  rw [h]
  match k, hk with
  | k + 3, _ => rfl
theorem ms_vok.lo {v : ms_V} (h : ms_vok v) {k : Nat} (hk : k < 3) : ms_vr v k < ms_vB v := by
  obtain ⟨b, t1, t2, h, h1, h2, h3⟩ := h
  rw [h]
  match k, hk with
  | 0, _ => exact h1
  | 1, _ => exact h2
  | 2, _ => exact h3
theorem ms_vok.ne {v : ms_V} (h : ms_vok v) {k a : Nat} (hk : k ≠ a) (ha : 3 ≤ a) : ms_vr v k ≠ ms_vr v a := by
  rw [h.hi ha]
  rcases Nat.lt_or_ge k 3 with h3 | h3
  · have := h.lo h3
    omega
  · rw [h.hi h3]
    omega
/-- one cell is written -/
theorem ms_Rl.put {v : ms_V} (hv : ms_vok v) {σ : ms_M} {H H1 : Heap} (h : ms_Rl v σ H) {a : Nat} (ha : 3 ≤ a) {e : ms_E} (he : ms_cr v a e H1) (z : H1.size = H.size) (oq : ∀ q, q ≠ ms_vr v a → H1[q]? = H[q]?) : ms_Rl v (ms_wr σ a e) H1 := by
  obtain ⟨⟨h1, h2, h3⟩, h4⟩ := h
  refine ⟨⟨h1, by rw [z]; exact h2, fun q hq => ?_⟩, fun k => ?_⟩
  · rw [oq q (by rw [hv.hi ha]; omega)]
    exact h3 q hq
  · show ms_cr v k (ms_up σ.2.2.2 a e k) H1
    unfold ms_up
    by_cases hk : k = a
    · subst hk
      rw [if_pos rfl]
      exact he
    · rw [if_neg hk]
      exact (h4 k).kept (oq _ (hv.ne hk ha))
/-- a cell is made -/
theorem ms_Rl.push {v : ms_V} (hv : ms_vok v) {σ : ms_M} {H H1 : Heap} (h : ms_Rl v σ H) {z : Nat} {e : ms_E} (he : ms_cr v σ.1 e H1) (hz : H1.size = H.size + 1) (oq : ∀ q, q < H.size → H1[q]? = H[q]?) : ms_Rl v (ms_nw σ z e) H1 := by
  obtain ⟨⟨h1, h2, h3⟩, h4⟩ := h
  refine ⟨⟨?_, ?_, fun q hq => ?_⟩, fun k => ?_⟩
  · show 3 ≤ σ.1 + 1
    omega
  · show H1.size + 3 = ms_vB v + (σ.1 + 1)
    omega
  · rw [oq q (by omega)]
    exact h3 q hq
  · show ms_cr v k (ms_up σ.2.2.2 σ.1 e k) H1
    unfold ms_up
    by_cases hk : k = σ.1
    · subst hk
      rw [if_pos rfl]
      exact he
    · rw [if_neg hk]
      have h5 := h4 k
      generalize σ.2.2.2 k = c at h5 ⊢
      rcases c with ⟨t, a⟩ | ⟨ci, fs⟩
      · rcases h5 with h5 | ⟨q1, q2, q3⟩
        · exact Or.inl h5
        · exact Or.inr ⟨q1, q2, (oq _ (Array.getElem?_eq_some_iff.mp q3).1).trans q3⟩
      · rcases h5 with h5 | ⟨q1, r, q2, q3⟩
        · exact Or.inl h5
        · exact Or.inr ⟨q1, r, q2, q3.kept (oq _ (by obtain ⟨cell, g1, -⟩ := q3; exact (Array.getElem?_eq_some_iff.mp g1).1))⟩
theorem ms_Rl.next {v : ms_V} (hv : ms_vok v) {σ : ms_M} {H : Heap} (h : ms_Rl v σ H) : H.size = ms_vr v σ.1 := by
  rw [hv.hi h.1.1]
  have := h.1.2.1
  have := h.1.1
  omega
theorem ms_in_vp {i : Int32} {n : Nat} (h : ms_in i n = true) : vp_in i n := vp_in_iff.mpr (of_decide_eq_true h)
