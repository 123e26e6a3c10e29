/-! REGIONS: the cells after the constructors, by gen2.py. Cell u of region r lies at ms_ad r u. -/
def ms_rbs : List Nat := [0, 1, 2, 3, 4, 5, 6, 7, 8, 9, 10, 11, 12, 13, 14, 15, 16, 17, 18, 129, 130, 131, 132, 140, 141, 149, 150, 158, 159, 167, 168, 169, 170, 171, 172, 173, 174, 175, 176, 177, 241, 242, 243, 244, 245, 246, 247, 248, 249, 250, 251, 252, 253, 254, 255, 256, 257, 258, 259, 260, 261, 262, 263, 264, 265, 266, 267]
def ms_rss : List Nat := [0, 0, 0, 0, 0, 0, 0, 0, 0, 0, 0, 0, 0, 0, 0, 0, 0, 2, 2, 0, 0, 0, 1, 0, 1, 0, 1, 0, 1, 0, 0, 9, 9, 9, 9, 9, 9, 9, 9, 9, 0, 0, 0, 0, 0, 0, 0, 0, 0, 0, 0, 0, 0, 0, 0, 0, 0, 0, 0, 0, 0, 0, 0, 0, 0, 0, 0]
def ms_rcn : List Nat := [1, 1, 1, 1, 1, 1, 1, 1, 1, 1, 1, 1, 1, 1, 1, 1, 1, 56, 56, 1, 1, 1, 8, 1, 8, 1, 8, 1, 8, 1, 1, 8, 8, 8, 8, 8, 8, 8, 8, 8, 1, 1, 1, 1, 1, 1, 1, 1, 1, 1, 1, 1, 1, 1, 1, 1, 1, 1, 1, 1, 1, 1, 1, 1, 1, 1, 1]
def ms_rks : List Nat := [5, 5, 5, 10, 11, 12, 0, 0, 13, 1, 1, 1, 0, 0, 14, 3, 0, 15, 0, 16, 0, 2, 0, 2, 0, 2, 0, 2, 0, 0, 4, 17, 1, 0, 1, 1, 0, 0, 0, 0, 18, 1, 0, 0, 0, 0, 0, 0, 0, 0, 0, 0, 0, 0, 0, 0, 0, 0, 0, 0, 1, 1, 1, 0, 0, 1, 1]
def ms_rns : List Nat := [0, 4, 3, 0, 0, 0, 16, 16, 0, 5, 5, 5, 4, 4, 0, 56, 56, 0, 0, 0, 3, 8, 4, 8, 64, 8, 4, 8, 17, 4, 8, 0, 3, 4, 8, 8, 3, 33, 65, 4, 0, 24, 32, 8, 8, 8, 8, 24, 256, 512, 4, 4, 32, 512, 32, 136, 4480, 4, 16, 16, 10, 10, 20, 5, 4, 10, 1]
def ms_ad (r u : Nat) : Nat := ms_rbs.getD r 0 + ms_rss.getD r 0 * u
def ms_cn (r : Nat) : Nat := ms_rcn.getD r 0
def ms_kr (r : Nat) : Nat := ms_rks.getD r 99
def ms_wl (p : Nat) : Nat := [4, 64, 4, 17, 33, 65, 1].getD (p % 7) 0
def ms_nr (q r u : Nat) : Nat := if r = 0 then q else if r = 18 then ms_wl u else ms_rns.getD r 0
def ms_er (r : Nat) : Nat := if r = 15 then 17 else if r = 21 then 22 else if r = 23 then 24 else if r = 25 then 26 else if r = 27 then 28 else if r = 30 then 31 else 99
def ms_rgs : List Nat := [0, 1, 2, 3, 4, 5, 6, 7, 8, 9, 10, 11, 12, 13, 14, 15, 16, 17, 18, 17, 18, 17, 18, 17, 18, 17, 18, 17, 18, 17, 18, 17, 18, 17, 18, 17, 18, 17, 18, 17, 18, 17, 18, 17, 18, 17, 18, 17, 18, 17, 18, 17, 18, 17, 18, 17, 18, 17, 18, 17, 18, 17, 18, 17, 18, 17, 18, 17, 18, 17, 18, 17, 18, 17, 18, 17, 18, 17, 18, 17, 18, 17, 18, 17, 18, 17, 18, 17, 18, 17, 18, 17, 18, 17, 18, 17, 18, 17, 18, 17, 18, 17, 18, 17, 18, 17, 18, 17, 18, 17, 18, 17, 18, 17, 18, 17, 18, 17, 18, 17, 18, 17, 18, 17, 18, 17, 18, 17, 18, 19, 20, 21, 22, 22, 22, 22, 22, 22, 22, 22, 23, 24, 24, 24, 24, 24, 24, 24, 24, 25, 26, 26, 26, 26, 26, 26, 26, 26, 27, 28, 28, 28, 28, 28, 28, 28, 28, 29, 30, 31, 32, 33, 34, 35, 36, 37, 38, 39, 31, 32, 33, 34, 35, 36, 37, 38, 39, 31, 32, 33, 34, 35, 36, 37, 38, 39, 31, 32, 33, 34, 35, 36, 37, 38, 39, 31, 32, 33, 34, 35, 36, 37, 38, 39, 31, 32, 33, 34, 35, 36, 37, 38, 39, 31, 32, 33, 34, 35, 36, 37, 38, 39, 31, 32, 33, 34, 35, 36, 37, 38, 39, 40, 41, 42, 43, 44, 45, 46, 47, 48, 49, 50, 51, 52, 53, 54, 55, 56, 57, 58, 59, 60, 61, 62, 63, 64, 65, 66]
def ms_ixs : List Nat := [0, 0, 0, 0, 0, 0, 0, 0, 0, 0, 0, 0, 0, 0, 0, 0, 0, 0, 0, 1, 1, 2, 2, 3, 3, 4, 4, 5, 5, 6, 6, 7, 7, 8, 8, 9, 9, 10, 10, 11, 11, 12, 12, 13, 13, 14, 14, 15, 15, 16, 16, 17, 17, 18, 18, 19, 19, 20, 20, 21, 21, 22, 22, 23, 23, 24, 24, 25, 25, 26, 26, 27, 27, 28, 28, 29, 29, 30, 30, 31, 31, 32, 32, 33, 33, 34, 34, 35, 35, 36, 36, 37, 37, 38, 38, 39, 39, 40, 40, 41, 41, 42, 42, 43, 43, 44, 44, 45, 45, 46, 46, 47, 47, 48, 48, 49, 49, 50, 50, 51, 51, 52, 52, 53, 53, 54, 54, 55, 55, 0, 0, 0, 0, 1, 2, 3, 4, 5, 6, 7, 0, 0, 1, 2, 3, 4, 5, 6, 7, 0, 0, 1, 2, 3, 4, 5, 6, 7, 0, 0, 1, 2, 3, 4, 5, 6, 7, 0, 0, 0, 0, 0, 0, 0, 0, 0, 0, 0, 1, 1, 1, 1, 1, 1, 1, 1, 1, 2, 2, 2, 2, 2, 2, 2, 2, 2, 3, 3, 3, 3, 3, 3, 3, 3, 3, 4, 4, 4, 4, 4, 4, 4, 4, 4, 5, 5, 5, 5, 5, 5, 5, 5, 5, 6, 6, 6, 6, 6, 6, 6, 6, 6, 7, 7, 7, 7, 7, 7, 7, 7, 7, 0, 0, 0, 0, 0, 0, 0, 0, 0, 0, 0, 0, 0, 0, 0, 0, 0, 0, 0, 0, 0, 0, 0, 0, 0, 0, 0]
def ms_sv (s u : Nat) : Nat := if s = 0 then (if u % 7 < 4 then u % 7 else u % 7 - 4) else if s = 1 then u / 7 else if s = 2 then (if u % 7 < 4 then 0 else 1) else u
abbrev ms_i : Type := Nat → Nat → Nat → Int32
abbrev ms_j : Type := Nat → Nat → Nat → Int64
def ms_fv (I : ms_i) (J : ms_j) (r u : Nat) (c : Nat × Nat) : Value := match c.1 with
  | 0 => .int (I r u c.2)
  | 1 => .long (J r u c.2)
  | 2 => .ref (ms_ad c.2 u)
  | _ => .int (nI (ms_sv c.2 u))
def ms_fd (r : Nat) : List (Nat × Nat) := match r with
  | 3 => [(2, 4), (2, 14), (2, 19), (2, 30)]
  | 4 => [(2, 5), (2, 8)]
  | 5 => [(2, 6), (2, 7)]
  | 8 => [(2, 9), (2, 10), (2, 11), (2, 12), (2, 13)]
  | 14 => [(2, 15), (2, 16), (0, 2)]
  | 17 => [(3, 0), (3, 1), (3, 2), (2, 18)]
  | 19 => [(0, 0), (0, 1), (0, 2), (0, 3), (0, 4), (2, 20), (2, 21), (2, 23), (2, 25), (2, 27), (2, 29)]
  | 31 => [(3, 3), (2, 32), (2, 33), (2, 34), (2, 35), (2, 36), (2, 37), (2, 38), (2, 39), (0, 9), (0, 10), (0, 11), (0, 12)]
  | 40 => [(0, 0), (0, 1), (0, 2), (0, 3), (0, 4), (2, 41), (2, 42), (2, 43), (2, 44), (2, 45), (2, 46), (2, 47), (2, 48), (2, 49), (2, 50), (2, 51), (2, 52), (2, 53), (2, 54), (2, 55), (0, 20), (2, 56), (2, 57), (0, 23), (2, 58), (2, 59), (2, 60), (2, 61), (2, 62), (2, 63), (2, 64), (2, 65), (1, 32), (0, 33)]
  | _ => []
def ms_cell (q : Nat) (I : ms_i) (J : ms_j) (r u : Nat) : ms_E := match ms_kr r with
  | 0 => .inl (0, ms_nr q r u, .inl (I r u))
  | 1 => .inl (1, ms_nr q r u, .inr (.inl (J r u)))
  | 2 => .inl (2, ms_nr q r u, .inr (.inr (.inr (.inr (fun i => some (ms_ad (ms_er r) i))))))
  | 3 => .inl (3, ms_nr q r u, .inr (.inr (.inr (.inr (fun i => if i < ms_nr q r u then some (ms_ad (ms_er r) i) else none)))))
  | 4 => .inl (4, ms_nr q r u, .inr (.inr (.inr (.inr (fun i => if i < ms_nr q r u then some (ms_ad (ms_er r) i) else none)))))
  | 5 => .inl (5, ms_nr q r u, .inl (I r u))
  | 99 => .inr (99, [])
  | k => .inr (k - 10, (ms_fd r).map (ms_fv I J r u))
def ms_mem (q : Nat) (I : ms_i) (J : ms_j) (a : Nat) : ms_E := ms_cell q I J (ms_rgs.getD a 99) (ms_ixs.getD a 0)
/-- the state between calls: length of the script and number of exceptions so far; written?; the ints; the longs -/
def ms_Z (q : Nat × Nat) (w : Bool) (I : ms_i) (J : ms_j) : ms_M := (268 + q.2, 10019 + 6 * q.2, w, ms_mem q.1 I J)
def ms_u {α : Type} (I : Nat → Nat → α) (r u : Nat) (f : α) : Nat → Nat → α := fun r' u' => if r' = r ∧ u' = u then f else I r' u'
theorem ms_ad_ok : ∀ r, r < 67 → ∀ u, u < ms_cn r → ms_rgs.getD (ms_ad r u) 99 = r ∧ ms_ixs.getD (ms_ad r u) 0 = u := by decide +kernel
theorem ms_ad_back : ∀ k, k < 268 → ms_ad (ms_rgs.getD k 99) (ms_ixs.getD k 0) = k := by decide +kernel
theorem ms_rg_lt : ∀ k, k < 268 → ms_rgs.getD k 99 < 67 ∧ ms_ixs.getD k 0 < ms_cn (ms_rgs.getD k 99) := by decide +kernel
theorem ms_cn_lt {r u : Nat} (h : u < ms_cn r) : r < 67 := by
  rcases Nat.lt_or_ge r 67 with h1 | h1
  · exact h1
  · exfalso
    rw [ms_cn, List.getD_eq_getElem?_getD, List.getElem?_eq_none (by exact h1)] at h
    exact absurd h (Nat.not_lt_zero _)
theorem ms_rg_hi {k : Nat} (h : 268 ≤ k) : ms_rgs.getD k 99 = 99 := by
  have hl : ms_rgs.length = 268 := by decide +kernel
  rw [List.getD_eq_getElem?_getD, List.getElem?_eq_none (by rw [hl]; exact h)]
  rfl
theorem kr_0 : ms_kr 0 = 5 := rfl
theorem cn_0 : ms_cn 0 = 1 := rfl
theorem kr_1 : ms_kr 1 = 5 := rfl
theorem cn_1 : ms_cn 1 = 1 := rfl
theorem kr_2 : ms_kr 2 = 5 := rfl
theorem cn_2 : ms_cn 2 = 1 := rfl
theorem kr_3 : ms_kr 3 = 10 := rfl
theorem cn_3 : ms_cn 3 = 1 := rfl
theorem kr_4 : ms_kr 4 = 11 := rfl
theorem cn_4 : ms_cn 4 = 1 := rfl
theorem kr_5 : ms_kr 5 = 12 := rfl
theorem cn_5 : ms_cn 5 = 1 := rfl
theorem kr_6 : ms_kr 6 = 0 := rfl
theorem cn_6 : ms_cn 6 = 1 := rfl
theorem kr_7 : ms_kr 7 = 0 := rfl
theorem cn_7 : ms_cn 7 = 1 := rfl
theorem kr_8 : ms_kr 8 = 13 := rfl
theorem cn_8 : ms_cn 8 = 1 := rfl
theorem kr_9 : ms_kr 9 = 1 := rfl
theorem cn_9 : ms_cn 9 = 1 := rfl
theorem kr_10 : ms_kr 10 = 1 := rfl
theorem cn_10 : ms_cn 10 = 1 := rfl
theorem kr_11 : ms_kr 11 = 1 := rfl
theorem cn_11 : ms_cn 11 = 1 := rfl
theorem kr_12 : ms_kr 12 = 0 := rfl
theorem cn_12 : ms_cn 12 = 1 := rfl
theorem kr_13 : ms_kr 13 = 0 := rfl
theorem cn_13 : ms_cn 13 = 1 := rfl
theorem kr_14 : ms_kr 14 = 14 := rfl
theorem cn_14 : ms_cn 14 = 1 := rfl
theorem kr_15 : ms_kr 15 = 3 := rfl
theorem cn_15 : ms_cn 15 = 1 := rfl
theorem kr_16 : ms_kr 16 = 0 := rfl
theorem cn_16 : ms_cn 16 = 1 := rfl
theorem kr_17 : ms_kr 17 = 15 := rfl
theorem cn_17 : ms_cn 17 = 56 := rfl
theorem kr_18 : ms_kr 18 = 0 := rfl
theorem cn_18 : ms_cn 18 = 56 := rfl
theorem kr_19 : ms_kr 19 = 16 := rfl
theorem cn_19 : ms_cn 19 = 1 := rfl
theorem kr_20 : ms_kr 20 = 0 := rfl
theorem cn_20 : ms_cn 20 = 1 := rfl
theorem kr_21 : ms_kr 21 = 2 := rfl
theorem cn_21 : ms_cn 21 = 1 := rfl
theorem kr_22 : ms_kr 22 = 0 := rfl
theorem cn_22 : ms_cn 22 = 8 := rfl
theorem kr_23 : ms_kr 23 = 2 := rfl
theorem cn_23 : ms_cn 23 = 1 := rfl
theorem kr_24 : ms_kr 24 = 0 := rfl
theorem cn_24 : ms_cn 24 = 8 := rfl
theorem kr_25 : ms_kr 25 = 2 := rfl
theorem cn_25 : ms_cn 25 = 1 := rfl
theorem kr_26 : ms_kr 26 = 0 := rfl
theorem cn_26 : ms_cn 26 = 8 := rfl
theorem kr_27 : ms_kr 27 = 2 := rfl
theorem cn_27 : ms_cn 27 = 1 := rfl
theorem kr_28 : ms_kr 28 = 0 := rfl
theorem cn_28 : ms_cn 28 = 8 := rfl
theorem kr_29 : ms_kr 29 = 0 := rfl
theorem cn_29 : ms_cn 29 = 1 := rfl
theorem kr_30 : ms_kr 30 = 4 := rfl
theorem cn_30 : ms_cn 30 = 1 := rfl
theorem kr_31 : ms_kr 31 = 17 := rfl
theorem cn_31 : ms_cn 31 = 8 := rfl
theorem kr_32 : ms_kr 32 = 1 := rfl
theorem cn_32 : ms_cn 32 = 8 := rfl
theorem kr_33 : ms_kr 33 = 0 := rfl
theorem cn_33 : ms_cn 33 = 8 := rfl
theorem kr_34 : ms_kr 34 = 1 := rfl
theorem cn_34 : ms_cn 34 = 8 := rfl
theorem kr_35 : ms_kr 35 = 1 := rfl
theorem cn_35 : ms_cn 35 = 8 := rfl
theorem kr_36 : ms_kr 36 = 0 := rfl
theorem cn_36 : ms_cn 36 = 8 := rfl
theorem kr_37 : ms_kr 37 = 0 := rfl
theorem cn_37 : ms_cn 37 = 8 := rfl
theorem kr_38 : ms_kr 38 = 0 := rfl
theorem cn_38 : ms_cn 38 = 8 := rfl
theorem kr_39 : ms_kr 39 = 0 := rfl
theorem cn_39 : ms_cn 39 = 8 := rfl
theorem kr_40 : ms_kr 40 = 18 := rfl
theorem cn_40 : ms_cn 40 = 1 := rfl
theorem kr_41 : ms_kr 41 = 1 := rfl
theorem cn_41 : ms_cn 41 = 1 := rfl
theorem kr_42 : ms_kr 42 = 0 := rfl
theorem cn_42 : ms_cn 42 = 1 := rfl
theorem kr_43 : ms_kr 43 = 0 := rfl
theorem cn_43 : ms_cn 43 = 1 := rfl
theorem kr_44 : ms_kr 44 = 0 := rfl
theorem cn_44 : ms_cn 44 = 1 := rfl
theorem kr_45 : ms_kr 45 = 0 := rfl
theorem cn_45 : ms_cn 45 = 1 := rfl
theorem kr_46 : ms_kr 46 = 0 := rfl
theorem cn_46 : ms_cn 46 = 1 := rfl
theorem kr_47 : ms_kr 47 = 0 := rfl
theorem cn_47 : ms_cn 47 = 1 := rfl
theorem kr_48 : ms_kr 48 = 0 := rfl
theorem cn_48 : ms_cn 48 = 1 := rfl
theorem kr_49 : ms_kr 49 = 0 := rfl
theorem cn_49 : ms_cn 49 = 1 := rfl
theorem kr_50 : ms_kr 50 = 0 := rfl
theorem cn_50 : ms_cn 50 = 1 := rfl
theorem kr_51 : ms_kr 51 = 0 := rfl
theorem cn_51 : ms_cn 51 = 1 := rfl
theorem kr_52 : ms_kr 52 = 0 := rfl
theorem cn_52 : ms_cn 52 = 1 := rfl
theorem kr_53 : ms_kr 53 = 0 := rfl
theorem cn_53 : ms_cn 53 = 1 := rfl
theorem kr_54 : ms_kr 54 = 0 := rfl
theorem cn_54 : ms_cn 54 = 1 := rfl
theorem kr_55 : ms_kr 55 = 0 := rfl
theorem cn_55 : ms_cn 55 = 1 := rfl
theorem kr_56 : ms_kr 56 = 0 := rfl
theorem cn_56 : ms_cn 56 = 1 := rfl
theorem kr_57 : ms_kr 57 = 0 := rfl
theorem cn_57 : ms_cn 57 = 1 := rfl
theorem kr_58 : ms_kr 58 = 0 := rfl
theorem cn_58 : ms_cn 58 = 1 := rfl
theorem kr_59 : ms_kr 59 = 0 := rfl
theorem cn_59 : ms_cn 59 = 1 := rfl
theorem kr_60 : ms_kr 60 = 1 := rfl
theorem cn_60 : ms_cn 60 = 1 := rfl
theorem kr_61 : ms_kr 61 = 1 := rfl
theorem cn_61 : ms_cn 61 = 1 := rfl
theorem kr_62 : ms_kr 62 = 1 := rfl
theorem cn_62 : ms_cn 62 = 1 := rfl
theorem kr_63 : ms_kr 63 = 0 := rfl
theorem cn_63 : ms_cn 63 = 1 := rfl
theorem kr_64 : ms_kr 64 = 0 := rfl
theorem cn_64 : ms_cn 64 = 1 := rfl
theorem kr_65 : ms_kr 65 = 1 := rfl
theorem cn_65 : ms_cn 65 = 1 := rfl
theorem kr_66 : ms_kr 66 = 1 := rfl
theorem cn_66 : ms_cn 66 = 1 := rfl
theorem nr_1 (q u : Nat) : ms_nr q 1 u = 4 := rfl
theorem nr_2 (q u : Nat) : ms_nr q 2 u = 3 := rfl
theorem nr_6 (q u : Nat) : ms_nr q 6 u = 16 := rfl
theorem nr_7 (q u : Nat) : ms_nr q 7 u = 16 := rfl
theorem nr_9 (q u : Nat) : ms_nr q 9 u = 5 := rfl
theorem nr_10 (q u : Nat) : ms_nr q 10 u = 5 := rfl
theorem nr_11 (q u : Nat) : ms_nr q 11 u = 5 := rfl
theorem nr_12 (q u : Nat) : ms_nr q 12 u = 4 := rfl
theorem nr_13 (q u : Nat) : ms_nr q 13 u = 4 := rfl
theorem nr_15 (q u : Nat) : ms_nr q 15 u = 56 := rfl
theorem nr_16 (q u : Nat) : ms_nr q 16 u = 56 := rfl
theorem nr_20 (q u : Nat) : ms_nr q 20 u = 3 := rfl
theorem nr_21 (q u : Nat) : ms_nr q 21 u = 8 := rfl
theorem nr_22 (q u : Nat) : ms_nr q 22 u = 4 := rfl
theorem nr_23 (q u : Nat) : ms_nr q 23 u = 8 := rfl
theorem nr_24 (q u : Nat) : ms_nr q 24 u = 64 := rfl
theorem nr_25 (q u : Nat) : ms_nr q 25 u = 8 := rfl
theorem nr_26 (q u : Nat) : ms_nr q 26 u = 4 := rfl
theorem nr_27 (q u : Nat) : ms_nr q 27 u = 8 := rfl
theorem nr_28 (q u : Nat) : ms_nr q 28 u = 17 := rfl
theorem nr_29 (q u : Nat) : ms_nr q 29 u = 4 := rfl
theorem nr_30 (q u : Nat) : ms_nr q 30 u = 8 := rfl
theorem nr_32 (q u : Nat) : ms_nr q 32 u = 3 := rfl
theorem nr_33 (q u : Nat) : ms_nr q 33 u = 4 := rfl
theorem nr_34 (q u : Nat) : ms_nr q 34 u = 8 := rfl
theorem nr_35 (q u : Nat) : ms_nr q 35 u = 8 := rfl
theorem nr_36 (q u : Nat) : ms_nr q 36 u = 3 := rfl
theorem nr_37 (q u : Nat) : ms_nr q 37 u = 33 := rfl
theorem nr_38 (q u : Nat) : ms_nr q 38 u = 65 := rfl
theorem nr_39 (q u : Nat) : ms_nr q 39 u = 4 := rfl
theorem nr_41 (q u : Nat) : ms_nr q 41 u = 24 := rfl
theorem nr_42 (q u : Nat) : ms_nr q 42 u = 32 := rfl
theorem nr_43 (q u : Nat) : ms_nr q 43 u = 8 := rfl
theorem nr_44 (q u : Nat) : ms_nr q 44 u = 8 := rfl
theorem nr_45 (q u : Nat) : ms_nr q 45 u = 8 := rfl
theorem nr_46 (q u : Nat) : ms_nr q 46 u = 8 := rfl
theorem nr_47 (q u : Nat) : ms_nr q 47 u = 24 := rfl
theorem nr_48 (q u : Nat) : ms_nr q 48 u = 256 := rfl
theorem nr_49 (q u : Nat) : ms_nr q 49 u = 512 := rfl
theorem nr_50 (q u : Nat) : ms_nr q 50 u = 4 := rfl
theorem nr_51 (q u : Nat) : ms_nr q 51 u = 4 := rfl
theorem nr_52 (q u : Nat) : ms_nr q 52 u = 32 := rfl
theorem nr_53 (q u : Nat) : ms_nr q 53 u = 512 := rfl
theorem nr_54 (q u : Nat) : ms_nr q 54 u = 32 := rfl
theorem nr_55 (q u : Nat) : ms_nr q 55 u = 136 := rfl
theorem nr_56 (q u : Nat) : ms_nr q 56 u = 4480 := rfl
theorem nr_57 (q u : Nat) : ms_nr q 57 u = 4 := rfl
theorem nr_58 (q u : Nat) : ms_nr q 58 u = 16 := rfl
theorem nr_59 (q u : Nat) : ms_nr q 59 u = 16 := rfl
theorem nr_60 (q u : Nat) : ms_nr q 60 u = 10 := rfl
theorem nr_61 (q u : Nat) : ms_nr q 61 u = 10 := rfl
theorem nr_62 (q u : Nat) : ms_nr q 62 u = 20 := rfl
theorem nr_63 (q u : Nat) : ms_nr q 63 u = 5 := rfl
theorem nr_64 (q u : Nat) : ms_nr q 64 u = 4 := rfl
theorem nr_65 (q u : Nat) : ms_nr q 65 u = 10 := rfl
theorem nr_66 (q u : Nat) : ms_nr q 66 u = 1 := rfl
theorem nr_0 (q u : Nat) : ms_nr q 0 u = q := rfl
theorem nr_18 (q u : Nat) : ms_nr q 18 u = ms_wl u := rfl
theorem er_15 : ms_er 15 = 17 := rfl
theorem er_21 : ms_er 21 = 22 := rfl
theorem er_23 : ms_er 23 = 24 := rfl
theorem er_25 : ms_er 25 = 26 := rfl
theorem er_27 : ms_er 27 = 28 := rfl
theorem er_30 : ms_er 30 = 31 := rfl
theorem ms_u_s {α : Type} (I : Nat → Nat → α) (r u : Nat) (f : α) : ms_u I r u f r u = f := if_pos ⟨rfl, rfl⟩
theorem ms_u_r {α : Type} (I : Nat → Nat → α) (r u : Nat) (f : α) {r' u' : Nat} (h : r' ≠ r) : ms_u I r u f r' u' = I r' u' := if_neg fun q => h q.1
theorem ms_u_i {α : Type} (I : Nat → Nat → α) (r u : Nat) (f : α) {u' : Nat} (h : u' ≠ u) : ms_u I r u f r u' = I r u' := if_neg fun q => h q.2
theorem ms_u_u {α : Type} (I : Nat → Nat → α) (r u : Nat) (f g : α) : ms_u (ms_u I r u f) r u g = ms_u I r u g := by
  funext r' u'
  unfold ms_u
  by_cases h : r' = r ∧ u' = u
  · rw [if_pos h, if_pos h]
  · rw [if_neg h, if_neg h, if_neg h]
theorem ms_u_id {α : Type} (I : Nat → Nat → α) (r u : Nat) : ms_u I r u (I r u) = I := by
  funext r' u'
  unfold ms_u
  by_cases h : r' = r ∧ u' = u
  · rw [if_pos h, h.1, h.2]
  · rw [if_neg h]
theorem ms_mem_at {r u : Nat} (h : u < ms_cn r) (q : Nat) (I : ms_i) (J : ms_j) : ms_mem q I J (ms_ad r u) = ms_cell q I J r u := by
  obtain ⟨h1, h2⟩ := ms_ad_ok r (ms_cn_lt h) u h
  rw [ms_mem, h1, h2]
theorem ms_cell_I {q : Nat} {I I' : ms_i} {J J' : ms_j} {r u : Nat} (h : I' r u = I r u) (h2 : J' r u = J r u) : ms_cell q I' J' r u = ms_cell q I J r u := by
  unfold ms_cell
  have e : ms_fv I' J' r u = ms_fv I J r u := by
    funext c
    unfold ms_fv
    rw [h, h2]
  rw [h, h2, e]
theorem ms_up_I {r u : Nat} (hu : u < ms_cn r) (q : Nat) (I : ms_i) (J : ms_j) (f : Nat → Int32) {e : ms_E} (he : ms_cell q (ms_u I r u f) J r u = e) : ms_up (ms_mem q I J) (ms_ad r u) e = ms_mem q (ms_u I r u f) J := by
  funext k
  unfold ms_up
  by_cases hk : k = ms_ad r u
  · rw [if_pos hk, hk, ms_mem_at hu, he]
  · rw [if_neg hk]
    show ms_cell _ _ _ _ _ = ms_cell _ _ _ _ _
    refine (ms_cell_I ?_ rfl).symm
    refine if_neg fun h => hk ?_
    rcases Nat.lt_or_ge k 268 with h1 | h1
    · rw [← ms_ad_back k h1, h.1, h.2]
    · rw [ms_rg_hi h1] at h
      have := ms_cn_lt hu
      omega
theorem ms_up_J {r u : Nat} (hu : u < ms_cn r) (q : Nat) (I : ms_i) (J : ms_j) (f : Nat → Int64) {e : ms_E} (he : ms_cell q I (ms_u J r u f) r u = e) : ms_up (ms_mem q I J) (ms_ad r u) e = ms_mem q I (ms_u J r u f) := by
  funext k
  unfold ms_up
  by_cases hk : k = ms_ad r u
  · rw [if_pos hk, hk, ms_mem_at hu, he]
  · rw [if_neg hk]
    show ms_cell _ _ _ _ _ = ms_cell _ _ _ _ _
    refine (ms_cell_I rfl ?_).symm
    refine if_neg fun h => hk ?_
    rcases Nat.lt_or_ge k 268 with h1 | h1
    · rw [← ms_ad_back k h1, h.1, h.2]
    · rw [ms_rg_hi h1] at h
      have := ms_cn_lt hu
      omega
theorem ms_up_hi {k : Nat} (hk : 268 ≤ k) (q : Nat) (I : ms_i) (J : ms_j) : ms_up (ms_mem q I J) k (.inr (99, [])) = ms_mem q I J := by
  funext i
  unfold ms_up
  by_cases h : i = k
  · rw [if_pos h, h, ms_mem, ms_rg_hi hk]
    rfl
  · rw [if_neg h]

