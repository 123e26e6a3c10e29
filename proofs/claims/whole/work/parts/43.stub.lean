theorem ms_okms : ∀ k, k < 150 → k ≠ ms_law → ms_cw k ∈ ms_ws ∧ ms_okm k = true := sorry
theorem ms_oks : ∀ k, ∀ e ∈ ms_cd k, ms_ckA k e.1 e.2 = true := sorry
