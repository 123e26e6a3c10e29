/-! WHAT IS SAID OF THE KINDS OF OBJECTS: fields, words. By gen.py. -/
theorem ms_u0 : ∀ w ∈ u_ws "MaskedSum" ms_T0 4, w ∈ ms_ws := by
  intro w hw
  obtain ⟨k, hk, rfl⟩ := List.mem_map.mp hw
  rw [List.mem_range] at hk
  match k, hk with
  | 0, _ => exact ms_has_in (i := 282) (by decide +kernel)
  | 1, _ => exact ms_has_in (i := 284) (by decide +kernel)
  | 2, _ => exact ms_has_in (i := 286) (by decide +kernel)
  | 3, _ => exact ms_has_in (i := 288) (by decide +kernel)
theorem ms_p0 : ∀ k, k < 4 → parseFieldDescriptor (ms_T0 k).2.2.1 = some (ms_ft 0 k) := by decide +kernel
theorem ms_nm0 : ∀ a, a < 4 → ∀ b, b < 4 → a ≠ b → (ms_T0 a).2.1 ≠ (ms_T0 b).2.1 := by decide +kernel
theorem ms_d0 (ρ : Nat → Nat) : ∀ j, j < 4 → defaultValue (ms_ft 0 j) = vp_V ((ms_df 0).map (ms_mv ρ)) j := by
  intro j hj
  match j, hj with
  | 0, _ => rfl
  | 1, _ => rfl
  | 2, _ => rfl
  | 3, _ => rfl
theorem ms_i0 : Cond.instantiable "MaskedSum" 4 ∈ ms_ws ∧ Cond.initialized "MaskedSum" ∈ ms_ws := ⟨ms_has_in (i := 74) (by decide +kernel), ms_has_in (i := 54) (by decide +kernel)⟩
theorem ms_u1 : ∀ w ∈ u_ws "MaskedSum$Crypto" ms_T1 2, w ∈ ms_ws := by
  intro w hw
  obtain ⟨k, hk, rfl⟩ := List.mem_map.mp hw
  rw [List.mem_range] at hk
  match k, hk with
  | 0, _ => exact ms_has_in (i := 127) (by decide +kernel)
  | 1, _ => exact ms_has_in (i := 129) (by decide +kernel)
theorem ms_p1 : ∀ k, k < 2 → parseFieldDescriptor (ms_T1 k).2.2.1 = some (ms_ft 1 k) := by decide +kernel
theorem ms_nm1 : ∀ a, a < 2 → ∀ b, b < 2 → a ≠ b → (ms_T1 a).2.1 ≠ (ms_T1 b).2.1 := by decide +kernel
theorem ms_d1 (ρ : Nat → Nat) : ∀ j, j < 2 → defaultValue (ms_ft 1 j) = vp_V ((ms_df 1).map (ms_mv ρ)) j := by
  intro j hj
  match j, hj with
  | 0, _ => rfl
  | 1, _ => rfl
theorem ms_i1 : Cond.instantiable "MaskedSum$Crypto" 2 ∈ ms_ws ∧ Cond.initialized "MaskedSum$Crypto" ∈ ms_ws := ⟨ms_has_in (i := 82) (by decide +kernel), ms_has_in (i := 55) (by decide +kernel)⟩
theorem ms_u2 : ∀ w ∈ u_ws "MaskedSum$ChaCha" ms_T2 2, w ∈ ms_ws := by
  intro w hw
  obtain ⟨k, hk, rfl⟩ := List.mem_map.mp hw
  rw [List.mem_range] at hk
  match k, hk with
  | 0, _ => exact ms_has_in (i := 95) (by decide +kernel)
  | 1, _ => exact ms_has_in (i := 97) (by decide +kernel)
theorem ms_p2 : ∀ k, k < 2 → parseFieldDescriptor (ms_T2 k).2.2.1 = some (ms_ft 2 k) := by decide +kernel
theorem ms_nm2 : ∀ a, a < 2 → ∀ b, b < 2 → a ≠ b → (ms_T2 a).2.1 ≠ (ms_T2 b).2.1 := by decide +kernel
theorem ms_d2 (ρ : Nat → Nat) : ∀ j, j < 2 → defaultValue (ms_ft 2 j) = vp_V ((ms_df 2).map (ms_mv ρ)) j := by
  intro j hj
  match j, hj with
  | 0, _ => rfl
  | 1, _ => rfl
theorem ms_i2 : Cond.instantiable "MaskedSum$ChaCha" 2 ∈ ms_ws ∧ Cond.initialized "MaskedSum$ChaCha" ∈ ms_ws := ⟨ms_has_in (i := 88) (by decide +kernel), ms_has_in (i := 56) (by decide +kernel)⟩
theorem ms_u3 : ∀ w ∈ u_ws "MaskedSum$Poly1305" ms_T3 5, w ∈ ms_ws := by
  intro w hw
  obtain ⟨k, hk, rfl⟩ := List.mem_map.mp hw
  rw [List.mem_range] at hk
  match k, hk with
  | 0, _ => exact ms_has_in (i := 113) (by decide +kernel)
  | 1, _ => exact ms_has_in (i := 115) (by decide +kernel)
  | 2, _ => exact ms_has_in (i := 117) (by decide +kernel)
  | 3, _ => exact ms_has_in (i := 119) (by decide +kernel)
  | 4, _ => exact ms_has_in (i := 121) (by decide +kernel)
theorem ms_p3 : ∀ k, k < 5 → parseFieldDescriptor (ms_T3 k).2.2.1 = some (ms_ft 3 k) := by decide +kernel
theorem ms_nm3 : ∀ a, a < 5 → ∀ b, b < 5 → a ≠ b → (ms_T3 a).2.1 ≠ (ms_T3 b).2.1 := by decide +kernel
theorem ms_d3 (ρ : Nat → Nat) : ∀ j, j < 5 → defaultValue (ms_ft 3 j) = vp_V ((ms_df 3).map (ms_mv ρ)) j := by
  intro j hj
  match j, hj with
  | 0, _ => rfl
  | 1, _ => rfl
  | 2, _ => rfl
  | 3, _ => rfl
  | 4, _ => rfl
theorem ms_i3 : Cond.instantiable "MaskedSum$Poly1305" 5 ∈ ms_ws ∧ Cond.initialized "MaskedSum$Poly1305" ∈ ms_ws := ⟨ms_has_in (i := 102) (by decide +kernel), ms_has_in (i := 57) (by decide +kernel)⟩
theorem ms_u4 : ∀ w ∈ u_ws "MaskedSum$Mail" ms_T4 3, w ∈ ms_ws := by
  intro w hw
  obtain ⟨k, hk, rfl⟩ := List.mem_map.mp hw
  rw [List.mem_range] at hk
  match k, hk with
  | 0, _ => exact ms_has_in (i := 175) (by decide +kernel)
  | 1, _ => exact ms_has_in (i := 177) (by decide +kernel)
  | 2, _ => exact ms_has_in (i := 179) (by decide +kernel)
theorem ms_p4 : ∀ k, k < 3 → parseFieldDescriptor (ms_T4 k).2.2.1 = some (ms_ft 4 k) := by decide +kernel
theorem ms_nm4 : ∀ a, a < 3 → ∀ b, b < 3 → a ≠ b → (ms_T4 a).2.1 ≠ (ms_T4 b).2.1 := by decide +kernel
theorem ms_d4 (ρ : Nat → Nat) : ∀ j, j < 3 → defaultValue (ms_ft 4 j) = vp_V ((ms_df 4).map (ms_mv ρ)) j := by
  intro j hj
  match j, hj with
  | 0, _ => rfl
  | 1, _ => rfl
  | 2, _ => rfl
theorem ms_i4 : Cond.instantiable "MaskedSum$Mail" 3 ∈ ms_ws ∧ Cond.initialized "MaskedSum$Mail" ∈ ms_ws := ⟨ms_has_in (i := 133) (by decide +kernel), ms_has_in (i := 58) (by decide +kernel)⟩
theorem ms_u5 : ∀ w ∈ u_ws "MaskedSum$Message" ms_T5 4, w ∈ ms_ws := by
  intro w hw
  obtain ⟨k, hk, rfl⟩ := List.mem_map.mp hw
  rw [List.mem_range] at hk
  match k, hk with
  | 0, _ => exact ms_has_in (i := 160) (by decide +kernel)
  | 1, _ => exact ms_has_in (i := 162) (by decide +kernel)
  | 2, _ => exact ms_has_in (i := 164) (by decide +kernel)
  | 3, _ => exact ms_has_in (i := 166) (by decide +kernel)
theorem ms_p5 : ∀ k, k < 4 → parseFieldDescriptor (ms_T5 k).2.2.1 = some (ms_ft 5 k) := by decide +kernel
theorem ms_nm5 : ∀ a, a < 4 → ∀ b, b < 4 → a ≠ b → (ms_T5 a).2.1 ≠ (ms_T5 b).2.1 := by decide +kernel
theorem ms_d5 (ρ : Nat → Nat) : ∀ j, j < 4 → defaultValue (ms_ft 5 j) = vp_V ((ms_df 5).map (ms_mv ρ)) j := by
  intro j hj
  match j, hj with
  | 0, _ => rfl
  | 1, _ => rfl
  | 2, _ => rfl
  | 3, _ => rfl
theorem ms_i5 : Cond.instantiable "MaskedSum$Message" 4 ∈ ms_ws ∧ Cond.initialized "MaskedSum$Message" ∈ ms_ws := ⟨ms_has_in (i := 140) (by decide +kernel), ms_has_in (i := 59) (by decide +kernel)⟩
theorem ms_u6 : ∀ w ∈ u_ws "MaskedSum$Server" ms_T6 11, w ∈ ms_ws := by
  intro w hw
  obtain ⟨k, hk, rfl⟩ := List.mem_map.mp hw
  rw [List.mem_range] at hk
  match k, hk with
  | 0, _ => exact ms_has_in (i := 205) (by decide +kernel)
  | 1, _ => exact ms_has_in (i := 207) (by decide +kernel)
  | 2, _ => exact ms_has_in (i := 209) (by decide +kernel)
  | 3, _ => exact ms_has_in (i := 211) (by decide +kernel)
  | 4, _ => exact ms_has_in (i := 213) (by decide +kernel)
  | 5, _ => exact ms_has_in (i := 215) (by decide +kernel)
  | 6, _ => exact ms_has_in (i := 217) (by decide +kernel)
  | 7, _ => exact ms_has_in (i := 219) (by decide +kernel)
  | 8, _ => exact ms_has_in (i := 221) (by decide +kernel)
  | 9, _ => exact ms_has_in (i := 223) (by decide +kernel)
  | 10, _ => exact ms_has_in (i := 225) (by decide +kernel)
theorem ms_p6 : ∀ k, k < 11 → parseFieldDescriptor (ms_T6 k).2.2.1 = some (ms_ft 6 k) := by decide +kernel
theorem ms_nm6 : ∀ a, a < 11 → ∀ b, b < 11 → a ≠ b → (ms_T6 a).2.1 ≠ (ms_T6 b).2.1 := by decide +kernel
theorem ms_d6 (ρ : Nat → Nat) : ∀ j, j < 11 → defaultValue (ms_ft 6 j) = vp_V ((ms_df 6).map (ms_mv ρ)) j := by
  intro j hj
  match j, hj with
  | 0, _ => rfl
  | 1, _ => rfl
  | 2, _ => rfl
  | 3, _ => rfl
  | 4, _ => rfl
  | 5, _ => rfl
  | 6, _ => rfl
  | 7, _ => rfl
  | 8, _ => rfl
  | 9, _ => rfl
  | 10, _ => rfl
theorem ms_i6 : Cond.instantiable "MaskedSum$Server" 11 ∈ ms_ws ∧ Cond.initialized "MaskedSum$Server" ∈ ms_ws := ⟨ms_has_in (i := 183) (by decide +kernel), ms_has_in (i := 60) (by decide +kernel)⟩
theorem ms_u7 : ∀ w ∈ u_ws "MaskedSum$Phone" ms_T7 13, w ∈ ms_ws := by
  intro w hw
  obtain ⟨k, hk, rfl⟩ := List.mem_map.mp hw
  rw [List.mem_range] at hk
  match k, hk with
  | 0, _ => exact ms_has_in (i := 251) (by decide +kernel)
  | 1, _ => exact ms_has_in (i := 253) (by decide +kernel)
  | 2, _ => exact ms_has_in (i := 255) (by decide +kernel)
  | 3, _ => exact ms_has_in (i := 257) (by decide +kernel)
  | 4, _ => exact ms_has_in (i := 259) (by decide +kernel)
  | 5, _ => exact ms_has_in (i := 261) (by decide +kernel)
  | 6, _ => exact ms_has_in (i := 263) (by decide +kernel)
  | 7, _ => exact ms_has_in (i := 265) (by decide +kernel)
  | 8, _ => exact ms_has_in (i := 267) (by decide +kernel)
  | 9, _ => exact ms_has_in (i := 269) (by decide +kernel)
  | 10, _ => exact ms_has_in (i := 271) (by decide +kernel)
  | 11, _ => exact ms_has_in (i := 273) (by decide +kernel)
  | 12, _ => exact ms_has_in (i := 275) (by decide +kernel)
theorem ms_p7 : ∀ k, k < 13 → parseFieldDescriptor (ms_T7 k).2.2.1 = some (ms_ft 7 k) := by decide +kernel
theorem ms_nm7 : ∀ a, a < 13 → ∀ b, b < 13 → a ≠ b → (ms_T7 a).2.1 ≠ (ms_T7 b).2.1 := by decide +kernel
theorem ms_d7 (ρ : Nat → Nat) : ∀ j, j < 13 → defaultValue (ms_ft 7 j) = vp_V ((ms_df 7).map (ms_mv ρ)) j := by
  intro j hj
  match j, hj with
  | 0, _ => rfl
  | 1, _ => rfl
  | 2, _ => rfl
  | 3, _ => rfl
  | 4, _ => rfl
  | 5, _ => rfl
  | 6, _ => rfl
  | 7, _ => rfl
  | 8, _ => rfl
  | 9, _ => rfl
  | 10, _ => rfl
  | 11, _ => rfl
  | 12, _ => rfl
theorem ms_i7 : Cond.instantiable "MaskedSum$Phone" 13 ∈ ms_ws ∧ Cond.initialized "MaskedSum$Phone" ∈ ms_ws := ⟨ms_has_in (i := 230) (by decide +kernel), ms_has_in (i := 61) (by decide +kernel)⟩
theorem ms_u8 : ∀ w ∈ u_ws "MaskedSumModel" ms_T8 34, w ∈ ms_ws := by
  intro w hw
  obtain ⟨k, hk, rfl⟩ := List.mem_map.mp hw
  rw [List.mem_range] at hk
  match k, hk with
  | 0, _ => exact ms_has_in (i := 793) (by decide +kernel)
  | 1, _ => exact ms_has_in (i := 795) (by decide +kernel)
  | 2, _ => exact ms_has_in (i := 797) (by decide +kernel)
  | 3, _ => exact ms_has_in (i := 799) (by decide +kernel)
  | 4, _ => exact ms_has_in (i := 801) (by decide +kernel)
  | 5, _ => exact ms_has_in (i := 803) (by decide +kernel)
  | 6, _ => exact ms_has_in (i := 805) (by decide +kernel)
  | 7, _ => exact ms_has_in (i := 807) (by decide +kernel)
  | 8, _ => exact ms_has_in (i := 809) (by decide +kernel)
  | 9, _ => exact ms_has_in (i := 811) (by decide +kernel)
  | 10, _ => exact ms_has_in (i := 813) (by decide +kernel)
  | 11, _ => exact ms_has_in (i := 815) (by decide +kernel)
  | 12, _ => exact ms_has_in (i := 817) (by decide +kernel)
  | 13, _ => exact ms_has_in (i := 819) (by decide +kernel)
  | 14, _ => exact ms_has_in (i := 821) (by decide +kernel)
  | 15, _ => exact ms_has_in (i := 823) (by decide +kernel)
  | 16, _ => exact ms_has_in (i := 825) (by decide +kernel)
  | 17, _ => exact ms_has_in (i := 827) (by decide +kernel)
  | 18, _ => exact ms_has_in (i := 829) (by decide +kernel)
  | 19, _ => exact ms_has_in (i := 831) (by decide +kernel)
  | 20, _ => exact ms_has_in (i := 833) (by decide +kernel)
  | 21, _ => exact ms_has_in (i := 835) (by decide +kernel)
  | 22, _ => exact ms_has_in (i := 837) (by decide +kernel)
  | 23, _ => exact ms_has_in (i := 839) (by decide +kernel)
  | 24, _ => exact ms_has_in (i := 841) (by decide +kernel)
  | 25, _ => exact ms_has_in (i := 843) (by decide +kernel)
  | 26, _ => exact ms_has_in (i := 845) (by decide +kernel)
  | 27, _ => exact ms_has_in (i := 847) (by decide +kernel)
  | 28, _ => exact ms_has_in (i := 849) (by decide +kernel)
  | 29, _ => exact ms_has_in (i := 851) (by decide +kernel)
  | 30, _ => exact ms_has_in (i := 853) (by decide +kernel)
  | 31, _ => exact ms_has_in (i := 855) (by decide +kernel)
  | 32, _ => exact ms_has_in (i := 857) (by decide +kernel)
  | 33, _ => exact ms_has_in (i := 859) (by decide +kernel)
  | q + 34, h => exact absurd h (by omega)
theorem ms_p8 : ∀ k, k < 34 → parseFieldDescriptor (ms_T8 k).2.2.1 = some (ms_ft 8 k) := by decide +kernel
theorem ms_nm8 : ∀ a, a < 34 → ∀ b, b < 34 → a ≠ b → (ms_T8 a).2.1 ≠ (ms_T8 b).2.1 := by decide +kernel
theorem ms_d8 (ρ : Nat → Nat) : ∀ j, j < 34 → defaultValue (ms_ft 8 j) = vp_V ((ms_df 8).map (ms_mv ρ)) j := by
  intro j hj
  match j, hj with
  | 0, _ => rfl
  | 1, _ => rfl
  | 2, _ => rfl
  | 3, _ => rfl
  | 4, _ => rfl
  | 5, _ => rfl
  | 6, _ => rfl
  | 7, _ => rfl
  | 8, _ => rfl
  | 9, _ => rfl
  | 10, _ => rfl
  | 11, _ => rfl
  | 12, _ => rfl
  | 13, _ => rfl
  | 14, _ => rfl
  | 15, _ => rfl
  | 16, _ => rfl
  | 17, _ => rfl
  | 18, _ => rfl
  | 19, _ => rfl
  | 20, _ => rfl
  | 21, _ => rfl
  | 22, _ => rfl
  | 23, _ => rfl
  | 24, _ => rfl
  | 25, _ => rfl
  | 26, _ => rfl
  | 27, _ => rfl
  | 28, _ => rfl
  | 29, _ => rfl
  | 30, _ => rfl
  | 31, _ => rfl
  | 32, _ => rfl
  | 33, _ => rfl
  | q + 34, h => exact absurd h (by omega)
theorem ms_i8 : Cond.instantiable "MaskedSumModel" 34 ∈ ms_ws ∧ Cond.initialized "MaskedSumModel" ∈ ms_ws := ⟨ms_has_in (i := 754) (by decide +kernel), ms_has_in (i := 62) (by decide +kernel)⟩
theorem ms_clk : ∀ (ci : Nat) (r : vw_C), ms_cl[ci]? = some r → (∀ w ∈ u_ws r.1 r.2.1 r.2.2, w ∈ ms_ws) ∧ (∀ k, k < r.2.2 → parseFieldDescriptor (r.2.1 k).2.2.1 = some (ms_ft ci k)) ∧ (∀ a, a < r.2.2 → ∀ b, b < r.2.2 → a ≠ b → (r.2.1 a).2.1 ≠ (r.2.1 b).2.1) ∧ ci ≠ 99 := by
  intro ci r h
  match ci, h with
  | 0, h => cases h; exact ⟨ms_u0, ms_p0, ms_nm0, by decide⟩
  | 1, h => cases h; exact ⟨ms_u1, ms_p1, ms_nm1, by decide⟩
  | 2, h => cases h; exact ⟨ms_u2, ms_p2, ms_nm2, by decide⟩
  | 3, h => cases h; exact ⟨ms_u3, ms_p3, ms_nm3, by decide⟩
  | 4, h => cases h; exact ⟨ms_u4, ms_p4, ms_nm4, by decide⟩
  | 5, h => cases h; exact ⟨ms_u5, ms_p5, ms_nm5, by decide⟩
  | 6, h => cases h; exact ⟨ms_u6, ms_p6, ms_nm6, by decide⟩
  | 7, h => cases h; exact ⟨ms_u7, ms_p7, ms_nm7, by decide⟩
  | 8, h => cases h; exact ⟨ms_u8, ms_p8, ms_nm8, by decide⟩
  | _ + 9, h => cases h
theorem ms_cln : ∀ (ci : Nat) (r : vw_C), ms_cl[ci]? = some r → Cond.instantiable r.1 r.2.2 ∈ ms_ws ∧ Cond.initialized r.1 ∈ ms_ws ∧ ∀ (ρ : Nat → Nat) (j : Nat), j < r.2.2 → defaultValue (ms_ft ci j) = vp_V ((ms_df ci).map (ms_mv ρ)) j := by
  intro ci r h
  match ci, h with
  | 0, h => cases h; exact ⟨ms_i0.1, ms_i0.2, ms_d0⟩
  | 1, h => cases h; exact ⟨ms_i1.1, ms_i1.2, ms_d1⟩
  | 2, h => cases h; exact ⟨ms_i2.1, ms_i2.2, ms_d2⟩
  | 3, h => cases h; exact ⟨ms_i3.1, ms_i3.2, ms_d3⟩
  | 4, h => cases h; exact ⟨ms_i4.1, ms_i4.2, ms_d4⟩
  | 5, h => cases h; exact ⟨ms_i5.1, ms_i5.2, ms_d5⟩
  | 6, h => cases h; exact ⟨ms_i6.1, ms_i6.2, ms_d6⟩
  | 7, h => cases h; exact ⟨ms_i7.1, ms_i7.2, ms_d7⟩
  | 8, h => cases h; exact ⟨ms_i8.1, ms_i8.2, ms_d8⟩
  | _ + 9, h => cases h
theorem ms_elk {k ci : Nat} (h : ms_el k = some ci) (dA : Nat → ClassId) : ∃ r, ms_cl[ci]? = some r ∧ (ms_tys dA)[k]? = some (dA k, .object r.1) := by
  unfold ms_el at h
  split at h
  · rename_i hk
    subst hk
    cases h
    exact ⟨_, rfl, rfl⟩
  · split at h
    · rename_i hk
      subst hk
      cases h
      exact ⟨_, rfl, rfl⟩
    · cases h
