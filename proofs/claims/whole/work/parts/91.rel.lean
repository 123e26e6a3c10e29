/-! THE MAIL OF BOTH SIDES. -/
def ms_row (I : ms_i) (k p : Nat) : Prop := I 56 0 (70 * k) = nI (ms_sv 0 p) ∧ I 56 0 (70 * k + 1) = nI (ms_sv 1 p) ∧ I 56 0 (70 * k + 2) = nI (ms_sv 2 p) ∧ I 56 0 (70 * k + 3) = nI (ms_wl p) ∧ ∀ i, i < ms_wl p → I 56 0 (70 * k + 4 + i) = I 18 p i
def ms_ml (I : ms_i) (m : Nat) (Q : Nat → Nat) (ok : Nat → Prop) : Prop := m ≤ 56 ∧ I 14 0 2 = nI m ∧ I 40 0 20 = nI m ∧ (∀ k, k < m → Q k < 56 ∧ I 16 0 k = nI (Q k) ∧ ok (Q k) ∧ ms_row I k (Q k)) ∧ ∀ k l, k < m → l < m → Q k = Q l → k = l
theorem row_mv {I I' : ms_i} {k k' p : Nat} (h : ms_row I k p) (hr : ∀ i, i < 70 → I' 56 0 (70 * k' + i) = I 56 0 (70 * k + i)) (hw : I' 18 p = I 18 p) : ms_row I' k' p := by
  obtain ⟨h0, h1, h2, h3, h4⟩ := h
  refine ⟨?_, ?_, ?_, ?_, ?_⟩
  · have := hr 0 (by omega)
    rw [Nat.add_zero, Nat.add_zero] at this
    rw [this, h0]
  · rw [hr 1 (by omega), h1]
  · rw [hr 2 (by omega), h2]
  · rw [hr 3 (by omega), h3]
  · intro i hi
    have hl := ms_wl_le p
    have := hr (4 + i) (by omega)
    rw [← Nat.add_assoc, ← Nat.add_assoc] at this
    rw [this, h4 i hi, hw]
theorem ml_lt {I : ms_i} {m p : Nat} {Q : Nat → Nat} {ok : Nat → Prop} (h : ms_ml I m Q ok) (hp : p < 56) (hn : ¬ ok p) : m < 56 := by
  obtain ⟨h0, h1, h2, h3, h4⟩ := h
  have key := pig 56 (m + 1) (fun i => if i = m then p else Q i) (fun i hi => by
    show (if i = m then p else Q i) < 56
    by_cases e : i = m
    · rw [if_pos e]; exact hp
    · rw [if_neg e]; exact (h3 i (by omega)).1) (fun i j hi hj e => by
    have e2 : (if i = m then p else Q i) = (if j = m then p else Q j) := e
    by_cases a : i = m
    · by_cases b : j = m
      · omega
      · rw [if_pos a, if_neg b] at e2
        exact absurd (by rw [e2]; exact (h3 j (by omega)).2.2.1) hn
    · by_cases b : j = m
      · rw [if_neg a, if_pos b] at e2
        exact absurd (by rw [← e2]; exact (h3 i (by omega)).2.2.1) hn
      · rw [if_neg a, if_neg b] at e2
        exact h4 i j (by omega) (by omega) e2)
  omega
theorem ml_post {I I' : ms_i} {m p : Nat} {Q : Nat → Nat} {ok ok' : Nat → Prop} (h : ms_ml I m Q ok) (hp : p < 56) (hn : ¬ ok p) (k1 : ∀ x, ok x → ok' x) (k2 : ok' p) (s14 : I' 14 0 2 = nI (m + 1)) (s40 : I' 40 0 20 = nI (m + 1)) (q1 : I' 16 0 m = nI p) (q2 : ∀ k, k < m → I' 16 0 k = I 16 0 k) (w2 : ∀ p', p' ≠ p → I' 18 p' = I 18 p') (r2 : ∀ i, i < 70 * m → I' 56 0 i = I 56 0 i) (r1 : ms_row I' m p) : ms_ml I' (m + 1) (fun k => if k = m then p else Q k) ok' := by
  have hlt := ml_lt h hp hn
  obtain ⟨h0, h1, h2, h3, h4⟩ := h
  have hne : ∀ k, k < m → Q k ≠ p := fun k hk e => hn (by rw [← e]; exact (h3 k hk).2.2.1)
  refine ⟨by omega, s14, s40, ?_, ?_⟩
  · intro k hk
    show (if k = m then p else Q k) < 56 ∧ I' 16 0 k = nI (if k = m then p else Q k) ∧ ok' (if k = m then p else Q k) ∧ ms_row I' k (if k = m then p else Q k)
    by_cases e : k = m
    · rw [if_pos e, e]
      exact ⟨hp, q1, k2, r1⟩
    · rw [if_neg e]
      obtain ⟨a, b, c, d⟩ := h3 k (by omega)
      refine ⟨a, by rw [q2 k (by omega), b], k1 _ c, row_mv d (fun i hi => r2 _ (by omega)) (w2 _ (hne k (by omega)))⟩
  · intro i j hi hj e
    have e2 : (if i = m then p else Q i) = (if j = m then p else Q j) := e
    by_cases a : i = m
    · by_cases b : j = m
      · omega
      · rw [if_pos a, if_neg b] at e2
        exact absurd e2.symm (hne j (by omega))
    · by_cases b : j = m
      · rw [if_neg a, if_pos b] at e2
        exact absurd e2 (hne i (by omega))
      · rw [if_neg a, if_neg b] at e2
        exact h4 i j (by omega) (by omega) e2
theorem ml_take {I I' : ms_i} {m k : Nat} {Q : Nat → Nat} {ok ok' : Nat → Prop} (h : ms_ml I m Q ok) (hk : k < m) (k1 : ∀ x, ok x → ok' x) (s14 : I' 14 0 2 = nI (m - 1)) (s40 : I' 40 0 20 = nI (m - 1)) (q2 : ∀ i, i < m - 1 → I' 16 0 i = I 16 0 (if i < k then i else i + 1)) (w2 : ∀ p, I' 18 p = I 18 p) (r2 : ∀ i, i < m - 1 → ∀ j, j < 70 → I' 56 0 (70 * i + j) = I 56 0 (70 * (if i < k then i else i + 1) + j)) : ms_ml I' (m - 1) (fun i => Q (if i < k then i else i + 1)) ok' := by
  obtain ⟨h0, h1, h2, h3, h4⟩ := h
  refine ⟨by omega, s14, s40, ?_, ?_⟩
  · intro i hi
    obtain ⟨a, b, c, d⟩ := h3 (if i < k then i else i + 1) (by split <;> omega)
    exact ⟨a, by rw [q2 i hi]; exact b, k1 _ c, row_mv d (fun j hj => r2 i hi j hj) (w2 _)⟩
  · intro i j hi hj e
    have := h4 (if i < k then i else i + 1) (if j < k then j else j + 1) (by split <;> omega) (by split <;> omega) e
    by_cases a : i < k
    · by_cases b : j < k
      · rw [if_pos a, if_pos b] at this; exact this
      · rw [if_pos a, if_neg b] at this; omega
    · by_cases b : j < k
      · rw [if_neg a, if_pos b] at this; omega
      · rw [if_neg a, if_neg b] at this; omega
theorem ml_keep {I I' : ms_i} {m : Nat} {Q : Nat → Nat} {ok ok' : Nat → Prop} (h : ms_ml I m Q ok) (k1 : ∀ x, ok x → ok' x) (s14 : I' 14 0 2 = I 14 0 2) (s40 : I' 40 0 20 = I 40 0 20) (q2 : I' 16 0 = I 16 0) (w2 : ∀ p, I' 18 p = I 18 p) (r2 : I' 56 0 = I 56 0) : ms_ml I' m Q ok' := by
  obtain ⟨h0, h1, h2, h3, h4⟩ := h
  refine ⟨h0, by rw [s14, h1], by rw [s40, h2], fun k hk => ?_, h4⟩
  obtain ⟨a, b, c, d⟩ := h3 k hk
  exact ⟨a, by rw [q2]; exact b, k1 _ c, row_mv d (fun j hj => by rw [r2]) (w2 _)⟩
theorem ml_alt {I I' : ms_i} {m k i : Nat} {x : Int32} {Q : Nat → Nat} {ok : Nat → Prop} (h : ms_ml I m Q ok) (hk : k < m) (hi : i < ms_wl (Q k)) (s14 : I' 14 0 2 = I 14 0 2) (s40 : I' 40 0 20 = I 40 0 20) (q2 : I' 16 0 = I 16 0) (w1 : I' 18 (Q k) = upd (I 18 (Q k)) i x) (w2 : ∀ p, p ≠ Q k → I' 18 p = I 18 p) (r2 : I' 56 0 = upd (I 56 0) (70 * k + 4 + i) x) : ms_ml I' m Q ok := by
  have hl := ms_wl_le (Q k)
  obtain ⟨h0, h1, h2, h3, h4⟩ := h
  refine ⟨h0, by rw [s14, h1], by rw [s40, h2], fun l hl2 => ?_, h4⟩
  obtain ⟨a, b, c, d⟩ := h3 l hl2
  refine ⟨a, by rw [q2]; exact b, c, ?_⟩
  by_cases e : l = k
  · subst e
    obtain ⟨d0, d1, d2, d3, d4⟩ := d
    refine ⟨?_, ?_, ?_, ?_, ?_⟩
    · rw [r2, pk_un (by omega), d0]
    · rw [r2, pk_un (by omega), d1]
    · rw [r2, pk_un (by omega), d2]
    · rw [r2, pk_un (by omega), d3]
    · intro j hj
      rw [r2, w1]
      by_cases e2 : j = i
      · subst e2
        rw [pk_us, pk_us]
      · rw [pk_un (by omega), pk_un e2, d4 j hj]
  · refine row_mv d (fun j hj => ?_) (w2 _ (fun z => e (h4 l k hl2 hk z)))
    rw [r2, pk_un (by omega)]
theorem ml_zero {I : ms_i} {Q : Nat → Nat} {ok : Nat → Prop} (s14 : I 14 0 2 = nI 0) (s40 : I 40 0 20 = nI 0) : ms_ml I 0 Q ok := ⟨by omega, s14, s40, fun k hk => absurd hk (by omega), fun k l hk _ _ => absurd hk (by omega)⟩
/-- regions outside a list are as they were -/
def ms_fq {α : Type} (R : List Nat) (I I' : Nat → α) : Prop := ∀ r, r ∉ R → I' r = I r
theorem fr_rf {α : Type} {R : List Nat} {I : Nat → α} : ms_fq R I I := fun _ _ => rfl
theorem fr_tr {α : Type} {R : List Nat} {I I' I'' : Nat → α} (h : ms_fq R I I') (h2 : ms_fq R I' I'') : ms_fq R I I'' := fun r hr => (h2 r hr).trans (h r hr)
theorem fr_up {α : Type} {R R' : List Nat} {I I' : Nat → α} (h : ms_fq R I I') (hs : R.all (fun r => R'.contains r) = true) : ms_fq R' I I' := fun r hr => h r fun hm => hr (by
  have := List.all_eq_true.mp hs r hm
  exact List.contains_iff_mem.mp this)
theorem fr_u {α : Type} {R : List Nat} {I : Nat → Nat → α} {r u : Nat} {f : α} (h : R.contains r = true) : ms_fq R I (ms_u I r u f) := fun r' hr => by
  funext u'
  exact if_neg fun z => hr (by rw [z.1]; exact List.contains_iff_mem.mp h)
