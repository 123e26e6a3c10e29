/-! new int[n1][n2] -/
section MsMulti
variable {p : Program} {l : Launch} {e : Env} {R : Room} {s : State} {m : MethodId} {args : Array Value} {below : List Frame} {meth : Method} {c : Code} {H : Heap} {locs : List Loc} {cells slots : Nat} {Q : State → Prop}
variable {v : ms_V} {j pc : Nat} {x : ms_X} {ls : Array Slot} {L S : List Value} {σ : ms_M} {y : ms_N}
theorem ms_w_multi (C : ms_Cx v j p s m args meth c) (hR : ms_Rl v σ H) {q : Nat} (hd : decode (ms_by j) pc = .ok (.multianewarray q 2, 4)) (hcl : Cond.classLink (ms_ow j) q "[[I" ∈ ms_ws) (h : ms_st1 (.multianewarray q 2) 4 x pc L S σ = some y) (hL : ms_Lr (ms_vr v) ls L)
    (hc : cells + (y.2.2.2.1 - σ.1) ≤ R.cells) (hs : slots + (y.2.2.2.2.1 - σ.2.1) ≤ R.slots) (K : ms_K p l e R s m args below meth c H locs cells slots Q v σ y) : W p l e R s m args below meth c H locs cells slots Q (F0 m pc ls (S.map (ms_mv (ms_vr v)))) := by
  sorry
end MsMulti
