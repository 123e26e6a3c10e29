/-! SOUNDNESS, BY THE FUEL. -/
theorem ms_hoks : ∀ j, ms_hok j = true := by
  intro j
  rcases Nat.lt_or_ge j 150 with h | h
  · have key : ∀ j, j < 150 → ms_hok j = true := by decide +kernel
    exact key j h
  · have e : ms_hs j = [] := by
      unfold ms_hs
      rw [List.getD_eq_getElem?_getD, List.getElem?_eq_none (by exact h)]
      rfl
    unfold ms_hok
    rw [e]
    rfl
theorem ms_hd_lt {j pc k h : Nat} (hh : ms_hd j pc k = some h) : k < 2 := by
  unfold ms_hd at hh
  rw [Option.map_eq_some_iff] at hh
  obtain ⟨q, hq, -⟩ := hh
  have h1 := List.find?_some hq
  have h2 := List.mem_of_find?_eq_some hq
  have h3 := List.all_eq_true.mp (ms_hoks j) q h2
  simp only [Bool.and_eq_true, decide_eq_true_eq, beq_iff_eq] at h1 h3
  rw [← h1.2]
  exact h3.1.1
theorem ms_ret_mem {j : Nat} {S : List Value} {σ : ms_M} {r : ms_R} (h : ms_ret j S σ = some r) : r.2 = σ := by
  unfold ms_ret at h
  repeat' split at h
  all_goals first
    | (cases h; done)
    | (cases h; rfl)
set_option maxHeartbeats 1000000 in
theorem ms_sound {l : Launch} {v : ms_V} (htr : ∀ e, l.admits e → e.platform.stackTraces = false) (f : Nat) : ∀ {j pc : Nat} {L S : List Value} {σ : ms_M} {r : ms_R}, ms_ev f j pc L S σ = some r → ms_Snd l v j pc L S σ r := by
  induction f with
  | zero => intro j pc L S σ r h; cases h
  | succ f ih =>
    intro j pc L S σ r h
    rw [ms_ev] at h
    split at h
    · cases h
    · rename_i q hq
      have ck := ms_ok_at hq
      simp only [ms_ckA, Bool.and_eq_true, decide_eq_true_eq] at ck
      obtain ⟨hd, ck⟩ := ck
      unfold ms_stp at h
      generalize ms_kd q = kd at h ck
      intro p e R s m args below meth c H locs cells slots ls C hHx hL hLm hR hfr hlo hc hs hl h0
      match kd with
      | 0 =>
        have h : (match ms_st1 q.1 q.2.1 q.2.2 pc L S σ with
          | some y => ms_ev f j y.1 y.2.1 y.2.2.1 y.2.2.2
          | none => none) = some r := h
        have ck : ms_ck j pc q.1 q.2.1 q.2.2 = true := ck
        split at h
        · rename_i y hy
          obtain ⟨g1, g2, g3⟩ := ms_st1_grow hy
          obtain ⟨g4, g5⟩ := ms_ev_grow f h
          refine ms_w1 C hd ck hy hL hLm hR hfr hlo (by omega) (by omega) ?_
          intro H' ls' locs' hL' hR' hloc hsame
          have hw := ms_st1_w hy
          have k1 := ih h p e R s m args below meth c H' locs' (cells + (y.2.2.2.1 - σ.1)) (slots + (y.2.2.2.2.1 - σ.2.1)) ls' C hHx hL' (g3.trans hLm) hR' hfr hlo (by omega) (by omega) (fun z hz => by
            cases hyw : y.2.2.2.2.2.1 with
            | true =>
              refine ⟨rfl, ?_⟩
              rcases hloc z hz with h5 | h5
              · exact (hl z h5).2
              · exact h5
            | false =>
              obtain ⟨-, h6, h7⟩ := hsame hyw
              rw [h6] at hz
              have h8 := (hl z hz).1
              rw [← h7, hyw] at h8
              cases h8) (fun hyw => by
            obtain ⟨h5, h6, h7⟩ := hsame hyw
            obtain ⟨h8, h9, h10⟩ := h0 (by rw [← h7]; exact hyw)
            rw [h7]
            refine ⟨by omega, by omega, h5.trans h10⟩)
          have e1 : cells + (y.2.2.2.1 - σ.1) + (r.2.1 - y.2.2.2.1) = cells + (r.2.1 - σ.1) := by omega
          have e2 : slots + (y.2.2.2.2.1 - σ.2.1) + (r.2.2.1 - y.2.2.2.2.1) = slots + (r.2.2.1 - σ.2.1) := by omega
          rw [e1, e2] at k1
          exact k1
        · cases h
      | 1 =>
        have h : ms_call (ms_ev f) j pc q.2.2.1 L S σ = some r := h
        have ck : ms_ckc j q.1 q.2.1 q.2.2 = true := ck
        unfold ms_call at h
        split at h
        · rename_i hcan
          split at h
          · rename_i w τ hτ
            obtain ⟨g1, g2⟩ := ms_ev_grow f hτ
            obtain ⟨g4, g5⟩ := ms_ev_grow f h
            dsimp only at g1 g2 g4 g5
            refine ms_w_call C hd ck hcan hL hLm hR hfr hlo (rc := (.inl w, τ)) (ih hτ) (by show cells + (τ.1 - σ.1) ≤ _; omega) (by show slots + (τ.2.1 - σ.2.1) ≤ _; omega) (ms_ev_w f hτ) ?_ (fun k hk => by cases hk)
            intro o ho H' locs' hR' hloc hsame
            cases ho
            have k1 := ih h p e R s m args below meth c H' locs' (cells + (τ.1 - σ.1)) (slots + (τ.2.1 - σ.2.1)) ls C hHx hL hLm hR' hfr hlo (by show cells + (τ.1 - σ.1) + (r.2.1 - τ.1) ≤ _; omega) (by show slots + (τ.2.1 - σ.2.1) + (r.2.2.1 - τ.2.1) ≤ _; omega) (fun z hz => by
              show (σ.2.2.1 || τ.2.2.1) = true ∧ _
              rcases hloc z hz with h5 | ⟨h5, h6⟩
              · exact ⟨by rw [(hl z h5).1]; rfl, (hl z h5).2⟩
              · have h5 : τ.2.2.1 = true := h5
                exact ⟨by rw [h5]; exact Bool.or_true _, h6⟩) (fun hw => by
              have hw : (σ.2.2.1 || τ.2.2.1) = false := hw
              have hw : σ.2.2.1 = false ∧ τ.2.2.1 = false := by simpa using hw
              obtain ⟨h5, h6⟩ := hsame hw.2
              obtain ⟨h8, h9, h10⟩ := h0 hw.1
              have h7 : τ = _ := ms_ev_w f hτ hw.2
              rw [h7]
              refine ⟨by dsimp only; omega, by dsimp only; omega, h5.trans h10⟩)
            have e1 : cells + (τ.1 - σ.1) + (r.2.1 - τ.1) = cells + (r.2.1 - σ.1) := by omega
            have e2 : slots + (τ.2.1 - σ.2.1) + (r.2.2.1 - τ.2.1) = slots + (r.2.2.1 - σ.2.1) := by omega
            dsimp only at k1
            rw [e1, e2] at k1
            exact k1
          · rename_i w τ hτ
            obtain ⟨g1, g2⟩ := ms_ev_grow f hτ
            dsimp only at g1 g2
            split at h
            · rename_i hp hhd
              obtain ⟨g4, g5⟩ := ms_ev_grow f h
              dsimp only at g4 g5
              refine ms_w_call C hd ck hcan hL hLm hR hfr hlo (rc := (.inr w, τ)) (ih hτ) (by show cells + (τ.1 - σ.1) ≤ _; omega) (by show slots + (τ.2.1 - σ.2.1) ≤ _; omega) (ms_ev_w f hτ) (fun k hk => by cases hk) ?_
              intro k hk T' locs' hR' hloc X' hx
              cases hk
              obtain ⟨cell, hx1, hx2, hx3⟩ := hx
              obtain ⟨vm', X2, hst⟩ := ms_catch C hHx (ms_hoks j) X' (ls := ls) (st := (S.drop (ms_na q.2.2.1)).map (ms_mv (ms_vr v))) hhd (ms_hd_lt hhd) hx1 hx2 hx3
              have k1 := ih h p e R s m args below meth c T'.heap locs' (cells + (τ.1 - σ.1)) (slots + (τ.2.1 - σ.2.1)) ls C hHx hL hLm hR' hfr hlo (by show cells + (τ.1 - σ.1) + (r.2.1 - τ.1) ≤ _; omega) (by show slots + (τ.2.1 - σ.2.1) + (r.2.2.1 - τ.2.1) ≤ _; omega) (fun z hz => by
                refine ⟨rfl, ?_⟩
                rcases hloc z hz with h5 | ⟨h5, h6⟩
                · exact (hl z h5).2
                · exact h6) (fun hw => by cases hw)
              have e1 : cells + (τ.1 - σ.1) + (r.2.1 - τ.1) = cells + (r.2.1 - σ.1) := by omega
              have e2 : slots + (τ.2.1 - σ.2.1) + (r.2.2.1 - τ.2.1) = slots + (r.2.2.1 - σ.2.1) := by omega
              dsimp only at k1
              rw [e1, e2] at k1
              obtain ⟨t2, a2, b2⟩ := k1 (T'.setVm vm') rfl X2
              exact ⟨t2, hst t2 a2, b2⟩
            · cases h
          · cases h
        · cases h
      | 2 =>
        have h : ms_ret j S σ = some r := h
        have ck : ms_ckr j q.1 q.2.1 = true := ck
        have hr := ms_ret_mem h
        have k1 := ms_w_ret (l := l) (e := e) (R := R) (below := below) (cells := cells) (slots := slots) (ls := ls) C hd ck h hR hl
        have e1 : cells + (r.2.1 - σ.1) = cells := by rw [hr]; omega
        have e2 : slots + (r.2.2.1 - σ.2.1) = slots := by rw [hr]; omega
        rw [e1, e2]
        exact k1
      | n + 3 =>
        have h : ms_thr q.2.2.1 S σ = some r := h
        have ck : ms_ckx j pc q.1 q.2.1 q.2.2 = true := ck
        exact ms_w_thr htr C hHx hd ck h hL hLm hR hfr hlo hc hs hl h0
