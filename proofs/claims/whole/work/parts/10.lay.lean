-- ===== the memory, and how it lies on the heap =====
abbrev Mem : Type := Nat → Nat → Nat → Nat → Int
def wl : List (Nat × Nat × Nat) := [(0, 0, 0), (1, 0, 0), (2, 0, 0), (3, 0, 0), (4, 0, 0), (5, 0, 0), (6, 0, 0), (5, 0, 1), (6, 0, 1), (5, 0, 2), (6, 0, 2), (5, 0, 3), (6, 0, 3), (5, 0, 4), (6, 0, 4), (5, 0, 5), (6, 0, 5), (5, 0, 6), (6, 0, 6), (5, 0, 7), (6, 0, 7), (7, 0, 0), (7, 0, 1), (7, 0, 2), (7, 0, 3), (7, 0, 4), (7, 0, 5), (7, 0, 6), (7, 0, 7), (7, 0, 8), (7, 0, 9), (7, 0, 10), (7, 0, 11), (8, 0, 0), (9, 0, 0), (8, 1, 0), (9, 1, 0), (1, 1, 0), (2, 1, 0), (3, 1, 0), (4, 1, 0), (5, 1, 0), (6, 1, 0), (5, 1, 1), (6, 1, 1), (5, 1, 2), (6, 1, 2), (5, 1, 3), (6, 1, 3), (5, 1, 4), (6, 1, 4), (5, 1, 5), (6, 1, 5), (5, 1, 6), (6, 1, 6), (5, 1, 7), (6, 1, 7), (7, 1, 0), (7, 1, 1), (7, 1, 2), (7, 1, 3), (7, 1, 4), (7, 1, 5), (7, 1, 6), (7, 1, 7), (7, 1, 8), (7, 1, 9), (7, 1, 10), (7, 1, 11), (8, 2, 0), (9, 2, 0), (8, 3, 0), (9, 3, 0), (10, 0, 0), (1, 2, 0), (2, 2, 0), (3, 2, 0), (4, 2, 0), (5, 2, 0), (6, 2, 0), (5, 2, 1), (6, 2, 1), (5, 2, 2), (6, 2, 2), (5, 2, 3), (6, 2, 3), (5, 2, 4), (6, 2, 4), (5, 2, 5), (6, 2, 5), (5, 2, 6), (6, 2, 6), (5, 2, 7), (6, 2, 7), (7, 2, 0), (7, 2, 1), (7, 2, 2), (7, 2, 3), (7, 2, 4), (7, 2, 5), (7, 2, 6), (7, 2, 7), (7, 2, 8), (7, 2, 9), (7, 2, 10), (7, 2, 11), (8, 4, 0), (9, 4, 0), (8, 5, 0), (9, 5, 0), (8, 16, 0), (9, 16, 0), (11, 0, 0), (12, 0, 0), (13, 0, 0), (14, 0, 0), (15, 0, 0), (16, 0, 0), (17, 0, 0), (18, 0, 0), (19, 0, 0), (10, 1, 0), (1, 3, 0), (2, 3, 0), (3, 3, 0), (4, 3, 0), (5, 3, 0), (6, 3, 0), (5, 3, 1), (6, 3, 1), (5, 3, 2), (6, 3, 2), (5, 3, 3), (6, 3, 3), (5, 3, 4), (6, 3, 4), (5, 3, 5), (6, 3, 5), (5, 3, 6), (6, 3, 6), (5, 3, 7), (6, 3, 7), (7, 3, 0), (7, 3, 1), (7, 3, 2), (7, 3, 3), (7, 3, 4), (7, 3, 5), (7, 3, 6), (7, 3, 7), (7, 3, 8), (7, 3, 9), (7, 3, 10), (7, 3, 11), (8, 6, 0), (9, 6, 0), (8, 7, 0), (9, 7, 0), (8, 17, 0), (9, 17, 0), (11, 1, 0), (12, 1, 0), (13, 1, 0), (14, 1, 0), (15, 1, 0), (16, 1, 0), (17, 1, 0), (18, 1, 0), (19, 1, 0), (20, 0, 0), (21, 0, 0), (22, 0, 0), (23, 0, 0), (10, 2, 0), (1, 4, 0), (2, 4, 0), (3, 4, 0), (4, 4, 0), (5, 4, 0), (6, 4, 0), (5, 4, 1), (6, 4, 1), (5, 4, 2), (6, 4, 2), (5, 4, 3), (6, 4, 3), (5, 4, 4), (6, 4, 4), (5, 4, 5), (6, 4, 5), (5, 4, 6), (6, 4, 6), (5, 4, 7), (6, 4, 7), (7, 4, 0), (7, 4, 1), (7, 4, 2), (7, 4, 3), (7, 4, 4), (7, 4, 5), (7, 4, 6), (7, 4, 7), (7, 4, 8), (7, 4, 9), (7, 4, 10), (7, 4, 11), (8, 8, 0), (9, 8, 0), (8, 9, 0), (9, 9, 0), (8, 18, 0), (9, 18, 0), (11, 2, 0), (12, 2, 0), (13, 2, 0), (14, 2, 0), (15, 2, 0), (16, 2, 0), (17, 2, 0), (18, 2, 0), (19, 2, 0), (10, 3, 0), (1, 5, 0), (2, 5, 0), (3, 5, 0), (4, 5, 0), (5, 5, 0), (6, 5, 0), (5, 5, 1), (6, 5, 1), (5, 5, 2), (6, 5, 2), (5, 5, 3), (6, 5, 3), (5, 5, 4), (6, 5, 4), (5, 5, 5), (6, 5, 5), (5, 5, 6), (6, 5, 6), (5, 5, 7), (6, 5, 7), (7, 5, 0), (7, 5, 1), (7, 5, 2), (7, 5, 3), (7, 5, 4), (7, 5, 5), (7, 5, 6), (7, 5, 7), (7, 5, 8), (7, 5, 9), (7, 5, 10), (7, 5, 11), (8, 10, 0), (9, 10, 0), (8, 11, 0), (9, 11, 0), (8, 19, 0), (9, 19, 0), (11, 3, 0), (12, 3, 0), (13, 3, 0), (14, 3, 0), (15, 3, 0), (16, 3, 0), (17, 3, 0), (18, 3, 0), (19, 3, 0), (10, 4, 0), (1, 6, 0), (2, 6, 0), (3, 6, 0), (4, 6, 0), (5, 6, 0), (6, 6, 0), (5, 6, 1), (6, 6, 1), (5, 6, 2), (6, 6, 2), (5, 6, 3), (6, 6, 3), (5, 6, 4), (6, 6, 4), (5, 6, 5), (6, 6, 5), (5, 6, 6), (6, 6, 6), (5, 6, 7), (6, 6, 7), (7, 6, 0), (7, 6, 1), (7, 6, 2), (7, 6, 3), (7, 6, 4), (7, 6, 5), (7, 6, 6), (7, 6, 7), (7, 6, 8), (7, 6, 9), (7, 6, 10), (7, 6, 11), (8, 12, 0), (9, 12, 0), (8, 13, 0), (9, 13, 0), (8, 20, 0), (9, 20, 0), (11, 4, 0), (12, 4, 0), (13, 4, 0), (14, 4, 0), (15, 4, 0), (16, 4, 0), (17, 4, 0), (18, 4, 0), (19, 4, 0), (10, 5, 0), (1, 7, 0), (2, 7, 0), (3, 7, 0), (4, 7, 0), (5, 7, 0), (6, 7, 0), (5, 7, 1), (6, 7, 1), (5, 7, 2), (6, 7, 2), (5, 7, 3), (6, 7, 3), (5, 7, 4), (6, 7, 4), (5, 7, 5), (6, 7, 5), (5, 7, 6), (6, 7, 6), (5, 7, 7), (6, 7, 7), (7, 7, 0), (7, 7, 1), (7, 7, 2), (7, 7, 3), (7, 7, 4), (7, 7, 5), (7, 7, 6), (7, 7, 7), (7, 7, 8), (7, 7, 9), (7, 7, 10), (7, 7, 11), (8, 14, 0), (9, 14, 0), (8, 15, 0), (9, 15, 0), (8, 21, 0), (9, 21, 0), (11, 5, 0), (12, 5, 0), (13, 5, 0), (14, 5, 0), (15, 5, 0), (16, 5, 0), (17, 5, 0), (18, 5, 0), (19, 5, 0), (24, 0, 0), (25, 0, 0), (26, 0, 0), (27, 0, 0), (28, 0, 0), (27, 1, 0), (28, 1, 0), (27, 2, 0), (28, 2, 0), (27, 3, 0), (28, 3, 0), (29, 0, 0), (31, 0, 0), (33, 0, 0), (34, 0, 0), (36, 0, 0), (37, 0, 0), (38, 0, 0), (39, 0, 0), (40, 0, 0), (41, 0, 0), (42, 0, 0), (43, 0, 0), (44, 0, 0), (46, 0, 0), (47, 0, 0), (48, 0, 0), (49, 0, 0), (50, 0, 0), (52, 0, 0), (53, 0, 0), (55, 0, 0), (56, 0, 0), (57, 0, 0), (58, 0, 0)]
def coB (j : Nat) : Nat := 73 + 48 * j + (if j < 2 then 0 else 4)
def bkB (b : Nat) : Nat := if b < 2 then 1 + 36 * b else coB (b - 2) + 1
def lwB (q : Nat) : Nat := if q < 16 then bkB (q / 2) + 32 + 2 * (q % 2) else coB (q - 16) + 37
def mdB (k : Nat) : Nat := 376 + 1 + [0, 0, 0, 1, 2, 0, 3, 4, 5, 6, 7, 8, 9, 10, 11, 0, 12, 13, 14, 15, 16, 0, 17, 18, 0, 19, 20, 21, 22].getD k 0
/-- where a cell lies: kind, which, place -/
def aO (k j i : Nat) : Nat :=
  if k = 0 then 0 else if k = 1 then bkB j else if k = 2 then bkB j + 1 else if k = 3 then bkB j + 2 else if k = 4 then bkB j + 3 else if k = 5 then bkB j + 4 + 2 * i else if k = 6 then bkB j + 5 + 2 * i else if k = 7 then bkB j + 20 + i else if k = 8 then lwB j else if k = 9 then lwB j + 1 else if k = 10 then coB j else if k < 20 then coB j + 28 + k else if k < 24 then 169 + (k - 20) else if k < 27 then 365 + (k - 24) else if k = 27 then 368 + 2 * j else if k = 28 then 369 + 2 * j else if k = 29 then 376 else mdB (k - 30)
/-- which cells there are -/
def okC (k j i : Nat) : Prop :=
  match k with
  | 1 => j < 8 ∧ i = 0
  | 2 => j < 8 ∧ i = 0
  | 3 => j < 8 ∧ i = 0
  | 4 => j < 8 ∧ i = 0
  | 5 => j < 8 ∧ i < 8
  | 6 => j < 8 ∧ i < 8
  | 7 => j < 8 ∧ i < 12
  | 8 => j < 22 ∧ i = 0
  | 9 => j < 22 ∧ i = 0
  | 10 => j < 6 ∧ i = 0
  | 11 => j < 6 ∧ i = 0
  | 12 => j < 6 ∧ i = 0
  | 13 => j < 6 ∧ i = 0
  | 14 => j < 6 ∧ i = 0
  | 15 => j < 6 ∧ i = 0
  | 16 => j < 6 ∧ i = 0
  | 17 => j < 6 ∧ i = 0
  | 18 => j < 6 ∧ i = 0
  | 19 => j < 6 ∧ i = 0
  | 27 => j < 4 ∧ i = 0
  | 28 => j < 4 ∧ i = 0
  | 0 => j = 0 ∧ i = 0
  | 20 => j = 0 ∧ i = 0
  | 21 => j = 0 ∧ i = 0
  | 22 => j = 0 ∧ i = 0
  | 23 => j = 0 ∧ i = 0
  | 24 => j = 0 ∧ i = 0
  | 25 => j = 0 ∧ i = 0
  | 26 => j = 0 ∧ i = 0
  | 29 => j = 0 ∧ i = 0
  | 31 => j = 0 ∧ i = 0
  | 33 => j = 0 ∧ i = 0
  | 34 => j = 0 ∧ i = 0
  | 36 => j = 0 ∧ i = 0
  | 37 => j = 0 ∧ i = 0
  | 38 => j = 0 ∧ i = 0
  | 39 => j = 0 ∧ i = 0
  | 40 => j = 0 ∧ i = 0
  | 41 => j = 0 ∧ i = 0
  | 42 => j = 0 ∧ i = 0
  | 43 => j = 0 ∧ i = 0
  | 44 => j = 0 ∧ i = 0
  | 46 => j = 0 ∧ i = 0
  | 47 => j = 0 ∧ i = 0
  | 48 => j = 0 ∧ i = 0
  | 49 => j = 0 ∧ i = 0
  | 50 => j = 0 ∧ i = 0
  | 52 => j = 0 ∧ i = 0
  | 53 => j = 0 ∧ i = 0
  | 55 => j = 0 ∧ i = 0
  | 56 => j = 0 ∧ i = 0
  | 57 => j = 0 ∧ i = 0
  | 58 => j = 0 ∧ i = 0
  | _ => False
theorem wl_0 : ∀ j, j < 1 → ∀ i, i < 1 → wl[aO 0 j i]? = some (0, j, i) := by decide +kernel
theorem wl_1 : ∀ j, j < 8 → ∀ i, i < 1 → wl[aO 1 j i]? = some (1, j, i) := by decide +kernel
theorem wl_2 : ∀ j, j < 8 → ∀ i, i < 1 → wl[aO 2 j i]? = some (2, j, i) := by decide +kernel
theorem wl_3 : ∀ j, j < 8 → ∀ i, i < 1 → wl[aO 3 j i]? = some (3, j, i) := by decide +kernel
theorem wl_4 : ∀ j, j < 8 → ∀ i, i < 1 → wl[aO 4 j i]? = some (4, j, i) := by decide +kernel
theorem wl_5 : ∀ j, j < 8 → ∀ i, i < 8 → wl[aO 5 j i]? = some (5, j, i) := by decide +kernel
theorem wl_6 : ∀ j, j < 8 → ∀ i, i < 8 → wl[aO 6 j i]? = some (6, j, i) := by decide +kernel
theorem wl_7 : ∀ j, j < 8 → ∀ i, i < 12 → wl[aO 7 j i]? = some (7, j, i) := by decide +kernel
theorem wl_8 : ∀ j, j < 22 → ∀ i, i < 1 → wl[aO 8 j i]? = some (8, j, i) := by decide +kernel
theorem wl_9 : ∀ j, j < 22 → ∀ i, i < 1 → wl[aO 9 j i]? = some (9, j, i) := by decide +kernel
theorem wl_10 : ∀ j, j < 6 → ∀ i, i < 1 → wl[aO 10 j i]? = some (10, j, i) := by decide +kernel
theorem wl_11 : ∀ j, j < 6 → ∀ i, i < 1 → wl[aO 11 j i]? = some (11, j, i) := by decide +kernel
theorem wl_12 : ∀ j, j < 6 → ∀ i, i < 1 → wl[aO 12 j i]? = some (12, j, i) := by decide +kernel
theorem wl_13 : ∀ j, j < 6 → ∀ i, i < 1 → wl[aO 13 j i]? = some (13, j, i) := by decide +kernel
theorem wl_14 : ∀ j, j < 6 → ∀ i, i < 1 → wl[aO 14 j i]? = some (14, j, i) := by decide +kernel
theorem wl_15 : ∀ j, j < 6 → ∀ i, i < 1 → wl[aO 15 j i]? = some (15, j, i) := by decide +kernel
theorem wl_16 : ∀ j, j < 6 → ∀ i, i < 1 → wl[aO 16 j i]? = some (16, j, i) := by decide +kernel
theorem wl_17 : ∀ j, j < 6 → ∀ i, i < 1 → wl[aO 17 j i]? = some (17, j, i) := by decide +kernel
theorem wl_18 : ∀ j, j < 6 → ∀ i, i < 1 → wl[aO 18 j i]? = some (18, j, i) := by decide +kernel
theorem wl_19 : ∀ j, j < 6 → ∀ i, i < 1 → wl[aO 19 j i]? = some (19, j, i) := by decide +kernel
theorem wl_20 : ∀ j, j < 1 → ∀ i, i < 1 → wl[aO 20 j i]? = some (20, j, i) := by decide +kernel
theorem wl_21 : ∀ j, j < 1 → ∀ i, i < 1 → wl[aO 21 j i]? = some (21, j, i) := by decide +kernel
theorem wl_22 : ∀ j, j < 1 → ∀ i, i < 1 → wl[aO 22 j i]? = some (22, j, i) := by decide +kernel
theorem wl_23 : ∀ j, j < 1 → ∀ i, i < 1 → wl[aO 23 j i]? = some (23, j, i) := by decide +kernel
theorem wl_24 : ∀ j, j < 1 → ∀ i, i < 1 → wl[aO 24 j i]? = some (24, j, i) := by decide +kernel
theorem wl_25 : ∀ j, j < 1 → ∀ i, i < 1 → wl[aO 25 j i]? = some (25, j, i) := by decide +kernel
theorem wl_26 : ∀ j, j < 1 → ∀ i, i < 1 → wl[aO 26 j i]? = some (26, j, i) := by decide +kernel
theorem wl_27 : ∀ j, j < 4 → ∀ i, i < 1 → wl[aO 27 j i]? = some (27, j, i) := by decide +kernel
theorem wl_28 : ∀ j, j < 4 → ∀ i, i < 1 → wl[aO 28 j i]? = some (28, j, i) := by decide +kernel
theorem wl_29 : ∀ j, j < 1 → ∀ i, i < 1 → wl[aO 29 j i]? = some (29, j, i) := by decide +kernel
theorem wl_31 : ∀ j, j < 1 → ∀ i, i < 1 → wl[aO 31 j i]? = some (31, j, i) := by decide +kernel
theorem wl_33 : ∀ j, j < 1 → ∀ i, i < 1 → wl[aO 33 j i]? = some (33, j, i) := by decide +kernel
theorem wl_34 : ∀ j, j < 1 → ∀ i, i < 1 → wl[aO 34 j i]? = some (34, j, i) := by decide +kernel
theorem wl_36 : ∀ j, j < 1 → ∀ i, i < 1 → wl[aO 36 j i]? = some (36, j, i) := by decide +kernel
theorem wl_37 : ∀ j, j < 1 → ∀ i, i < 1 → wl[aO 37 j i]? = some (37, j, i) := by decide +kernel
theorem wl_38 : ∀ j, j < 1 → ∀ i, i < 1 → wl[aO 38 j i]? = some (38, j, i) := by decide +kernel
theorem wl_39 : ∀ j, j < 1 → ∀ i, i < 1 → wl[aO 39 j i]? = some (39, j, i) := by decide +kernel
theorem wl_40 : ∀ j, j < 1 → ∀ i, i < 1 → wl[aO 40 j i]? = some (40, j, i) := by decide +kernel
theorem wl_41 : ∀ j, j < 1 → ∀ i, i < 1 → wl[aO 41 j i]? = some (41, j, i) := by decide +kernel
theorem wl_42 : ∀ j, j < 1 → ∀ i, i < 1 → wl[aO 42 j i]? = some (42, j, i) := by decide +kernel
theorem wl_43 : ∀ j, j < 1 → ∀ i, i < 1 → wl[aO 43 j i]? = some (43, j, i) := by decide +kernel
theorem wl_44 : ∀ j, j < 1 → ∀ i, i < 1 → wl[aO 44 j i]? = some (44, j, i) := by decide +kernel
theorem wl_46 : ∀ j, j < 1 → ∀ i, i < 1 → wl[aO 46 j i]? = some (46, j, i) := by decide +kernel
theorem wl_47 : ∀ j, j < 1 → ∀ i, i < 1 → wl[aO 47 j i]? = some (47, j, i) := by decide +kernel
theorem wl_48 : ∀ j, j < 1 → ∀ i, i < 1 → wl[aO 48 j i]? = some (48, j, i) := by decide +kernel
theorem wl_49 : ∀ j, j < 1 → ∀ i, i < 1 → wl[aO 49 j i]? = some (49, j, i) := by decide +kernel
theorem wl_50 : ∀ j, j < 1 → ∀ i, i < 1 → wl[aO 50 j i]? = some (50, j, i) := by decide +kernel
theorem wl_52 : ∀ j, j < 1 → ∀ i, i < 1 → wl[aO 52 j i]? = some (52, j, i) := by decide +kernel
theorem wl_53 : ∀ j, j < 1 → ∀ i, i < 1 → wl[aO 53 j i]? = some (53, j, i) := by decide +kernel
theorem wl_55 : ∀ j, j < 1 → ∀ i, i < 1 → wl[aO 55 j i]? = some (55, j, i) := by decide +kernel
theorem wl_56 : ∀ j, j < 1 → ∀ i, i < 1 → wl[aO 56 j i]? = some (56, j, i) := by decide +kernel
theorem wl_57 : ∀ j, j < 1 → ∀ i, i < 1 → wl[aO 57 j i]? = some (57, j, i) := by decide +kernel
theorem wl_58 : ∀ j, j < 1 → ∀ i, i < 1 → wl[aO 58 j i]? = some (58, j, i) := by decide +kernel
theorem wl_at : ∀ {k j i : Nat}, okC k j i → wl[aO k j i]? = some (k, j, i)
  | 0, j, i, h => wl_0 j (by have := h.1; omega) i (by have := h.2; omega)
  | 1, j, i, h => wl_1 j h.1 i (by have := h.2; omega)
  | 2, j, i, h => wl_2 j h.1 i (by have := h.2; omega)
  | 3, j, i, h => wl_3 j h.1 i (by have := h.2; omega)
  | 4, j, i, h => wl_4 j h.1 i (by have := h.2; omega)
  | 5, j, i, h => wl_5 j h.1 i h.2
  | 6, j, i, h => wl_6 j h.1 i h.2
  | 7, j, i, h => wl_7 j h.1 i h.2
  | 8, j, i, h => wl_8 j h.1 i (by have := h.2; omega)
  | 9, j, i, h => wl_9 j h.1 i (by have := h.2; omega)
  | 10, j, i, h => wl_10 j h.1 i (by have := h.2; omega)
  | 11, j, i, h => wl_11 j h.1 i (by have := h.2; omega)
  | 12, j, i, h => wl_12 j h.1 i (by have := h.2; omega)
  | 13, j, i, h => wl_13 j h.1 i (by have := h.2; omega)
  | 14, j, i, h => wl_14 j h.1 i (by have := h.2; omega)
  | 15, j, i, h => wl_15 j h.1 i (by have := h.2; omega)
  | 16, j, i, h => wl_16 j h.1 i (by have := h.2; omega)
  | 17, j, i, h => wl_17 j h.1 i (by have := h.2; omega)
  | 18, j, i, h => wl_18 j h.1 i (by have := h.2; omega)
  | 19, j, i, h => wl_19 j h.1 i (by have := h.2; omega)
  | 20, j, i, h => wl_20 j (by have := h.1; omega) i (by have := h.2; omega)
  | 21, j, i, h => wl_21 j (by have := h.1; omega) i (by have := h.2; omega)
  | 22, j, i, h => wl_22 j (by have := h.1; omega) i (by have := h.2; omega)
  | 23, j, i, h => wl_23 j (by have := h.1; omega) i (by have := h.2; omega)
  | 24, j, i, h => wl_24 j (by have := h.1; omega) i (by have := h.2; omega)
  | 25, j, i, h => wl_25 j (by have := h.1; omega) i (by have := h.2; omega)
  | 26, j, i, h => wl_26 j (by have := h.1; omega) i (by have := h.2; omega)
  | 27, j, i, h => wl_27 j h.1 i (by have := h.2; omega)
  | 28, j, i, h => wl_28 j h.1 i (by have := h.2; omega)
  | 29, j, i, h => wl_29 j (by have := h.1; omega) i (by have := h.2; omega)
  | 31, j, i, h => wl_31 j (by have := h.1; omega) i (by have := h.2; omega)
  | 33, j, i, h => wl_33 j (by have := h.1; omega) i (by have := h.2; omega)
  | 34, j, i, h => wl_34 j (by have := h.1; omega) i (by have := h.2; omega)
  | 36, j, i, h => wl_36 j (by have := h.1; omega) i (by have := h.2; omega)
  | 37, j, i, h => wl_37 j (by have := h.1; omega) i (by have := h.2; omega)
  | 38, j, i, h => wl_38 j (by have := h.1; omega) i (by have := h.2; omega)
  | 39, j, i, h => wl_39 j (by have := h.1; omega) i (by have := h.2; omega)
  | 40, j, i, h => wl_40 j (by have := h.1; omega) i (by have := h.2; omega)
  | 41, j, i, h => wl_41 j (by have := h.1; omega) i (by have := h.2; omega)
  | 42, j, i, h => wl_42 j (by have := h.1; omega) i (by have := h.2; omega)
  | 43, j, i, h => wl_43 j (by have := h.1; omega) i (by have := h.2; omega)
  | 44, j, i, h => wl_44 j (by have := h.1; omega) i (by have := h.2; omega)
  | 46, j, i, h => wl_46 j (by have := h.1; omega) i (by have := h.2; omega)
  | 47, j, i, h => wl_47 j (by have := h.1; omega) i (by have := h.2; omega)
  | 48, j, i, h => wl_48 j (by have := h.1; omega) i (by have := h.2; omega)
  | 49, j, i, h => wl_49 j (by have := h.1; omega) i (by have := h.2; omega)
  | 50, j, i, h => wl_50 j (by have := h.1; omega) i (by have := h.2; omega)
  | 52, j, i, h => wl_52 j (by have := h.1; omega) i (by have := h.2; omega)
  | 53, j, i, h => wl_53 j (by have := h.1; omega) i (by have := h.2; omega)
  | 55, j, i, h => wl_55 j (by have := h.1; omega) i (by have := h.2; omega)
  | 56, j, i, h => wl_56 j (by have := h.1; omega) i (by have := h.2; omega)
  | 57, j, i, h => wl_57 j (by have := h.1; omega) i (by have := h.2; omega)
  | 58, j, i, h => wl_58 j (by have := h.1; omega) i (by have := h.2; omega)
  | 30, _, _, h => h.elim
  | 32, _, _, h => h.elim
  | 35, _, _, h => h.elim
  | 45, _, _, h => h.elim
  | 51, _, _, h => h.elim
  | 54, _, _, h => h.elim
  | k + 59, _, _, h => h.elim
theorem wl_inv : ∀ q, q < 400 → (wl[q]?).map (fun t => aO t.1 t.2.1 t.2.2) = some q := by decide +kernel
theorem wl_len : wl.length = 400 := by decide +kernel
theorem wl_only {q k j i : Nat} (h : wl[q]? = some (k, j, i)) : q = aO k j i := by
  have hq : q < 400 := by rw [← wl_len]; exact (List.getElem?_eq_some_iff.mp h).1
  have := wl_inv q hq
  rw [h] at this
  exact (Option.some.inj this).symm
theorem aO_lt {k j i : Nat} (h : okC k j i) : aO k j i < 400 := by rw [← wl_len]; exact (List.getElem?_eq_some_iff.mp (wl_at h)).1
abbrev ar (E : Ev) (k j i : Nat) : Nat := E.2.2.1 + aO k j i
/-- a reference to a cell -/
abbrev rf (E : Ev) (k j i : Nat) : Value := .ref (ar E k j i)
def ints (E : Ev) (n : Nat) (g : Nat → Int) : va_E := .inl (E.2.2.2.1 0, n, .inl (fun x => iI (g x)))
def longs (E : Ev) (n : Nat) (g : Nat → Int) : va_E := .inl (E.2.2.2.1 1, n, .inr (.inl (fun x => lI (g x))))
def bools (E : Ev) (n : Nat) (g : Nat → Int) : va_E := .inl (E.2.2.2.1 2, n, .inl (fun x => iI (g x)))
def refs (E : Ev) (t n : Nat) (f : Nat → Nat) : va_E := .inl (E.2.2.2.1 t, n, .inr (.inr (.inr (.inr (fun x => some (f x))))))
/-- what a cell holds, by its numbers -/
def shape (E : Ev) (k j i : Nat) (g : Nat → Int) : va_E :=
  match k with
  | 0 => .inr (8, [rf E 1 0 0, rf E 1 1 0, .int (iI (g 2)), rf E 10 0 0, rf E 10 1 0, rf E 20 0 0, rf E 24 0 0, rf E 26 0 0])
  | 1 => .inr (0, [rf E 2 j 0, .int (iI (g 1)), rf E 3 j 0, .int (iI (g 3)), rf E 4 j 0])
  | 2 => refs E 4 8 (fun x => ar E 5 j x)
  | 3 => refs E 6 12 (fun x => ar E 7 j x)
  | 4 => refs E 5 2 (fun x => ar E 8 (2 * j + x) 0)
  | 5 => .inr (2, [.int (iI (g 0)), .int (iI (g 1)), rf E 6 j i])
  | 6 => ints E 6 g
  | 7 => .inr (4, [.int (iI (g 0)), .int (iI (g 1)), .int (iI (g 2)), .int (iI (g 3))])
  | 8 => .inr (3, [rf E 9 j 0, .int (iI (g 1)), .int (iI (g 2))])
  | 9 => ints E 10 g
  | 10 => .inr (1, [rf E 1 (2 + j) 0, rf E 8 (16 + j) 0, .int (iI (g 2)), .int (iI (g 3)), rf E 11 j 0, rf E 12 j 0, rf E 13 j 0, rf E 14 j 0, rf E 15 j 0, rf E 16 j 0, rf E 17 j 0, rf E 18 j 0, rf E 19 j 0, .long (lI (g 13))])
  | 11 => longs E 8 g
  | 12 => longs E 8 g
  | 13 => ints E 8 g
  | 14 => ints E 8 g
  | 15 => ints E 8 g
  | 16 => bools E 8 g
  | 17 => ints E 8 g
  | 18 => longs E 8 g
  | 19 => longs E 8 g
  | 20 => .inr (7, [rf E 21 0 0, .long (lI (g 1)), .int (iI (g 2)), rf E 22 0 0, rf E 23 0 0, .int (iI (g 5)), .int (iI (g 6))])
  | 21 => ints E 3 g
  | 22 => ints E 3 g
  | 23 => refs E 3 4 (fun x => ar E 10 (2 + x) 0)
  | 24 => .inr (6, [rf E 25 0 0, .int (iI (g 1))])
  | 25 => ints E 40 g
  | 26 => refs E 7 4 (fun x => ar E 27 x 0)
  | 27 => .inr (5, [.int (iI (g 0)), .int (iI (g 1)), rf E 28 j 0, .int (iI (g 3))])
  | 28 => ints E 24 g
  | 29 => .inr (9, [.int (iI (g 0)), rf E 31 0 0, .int (iI (g 2)), rf E 33 0 0, rf E 34 0 0, .int (iI (g 5)), rf E 36 0 0, rf E 37 0 0, rf E 38 0 0, rf E 39 0 0, rf E 40 0 0, rf E 41 0 0, rf E 42 0 0, rf E 43 0 0, rf E 44 0 0, .long (lI (g 15)), rf E 46 0 0, rf E 47 0 0, rf E 48 0 0, rf E 49 0 0, rf E 50 0 0, .long (lI (g 21)), rf E 52 0 0, rf E 53 0 0, .int (iI (g 24)), rf E 55 0 0, rf E 56 0 0, rf E 57 0 0, rf E 58 0 0])
  | 31 => ints E 64 g
  | 33 => ints E 48 g
  | 34 => ints E 40 g
  | 36 => ints E 24 g
  | 37 => ints E 2 g
  | 38 => ints E 12 g
  | 39 => longs E 8 g
  | 40 => longs E 8 g
  | 41 => ints E 8 g
  | 42 => ints E 8 g
  | 43 => longs E 8 g
  | 44 => longs E 8 g
  | 46 => bools E 8 g
  | 47 => ints E 8 g
  | 48 => longs E 8 g
  | 49 => ints E 8 g
  | 50 => ints E 3 g
  | 52 => ints E 3 g
  | 53 => longs E 2400 g
  | 55 => ints E 140 g
  | 56 => ints E 4 g
  | 57 => ints E 4 g
  | 58 => ints E 96 g
  | _ => .inr (0, [])
def lay (E : Ev) (m : Mem) (a : Nat) : va_E := if a < E.2.2.1 then .inr (0, []) else match wl[a - E.2.2.1]? with
  | some t => shape E t.1 t.2.1 t.2.2 (m t.1 t.2.1 t.2.2)
  | none => .inr (0, [])
def hp (E : Ev) (m : Mem) : Hp := (400, 5110, lay E m)
def updS (m : Mem) (k j i : Nat) (g : Nat → Int) : Mem := fun k' j' i' => if k' = k ∧ j' = j ∧ i' = i then g else m k' j' i'
def upd1 (g : Nat → Int) (x : Nat) (v : Int) : Nat → Int := fun y => if y = x then v else g y
/-- one number of a cell becomes another -/
def up (m : Mem) (k j i x : Nat) (v : Int) : Mem := fun k' j' i' x' => if k' = k ∧ j' = j ∧ i' = i ∧ x' = x then v else m k' j' i' x'
theorem up_S (m : Mem) (k j i x : Nat) (v : Int) : up m k j i x v = updS m k j i (upd1 (m k j i) x v) := by
  funext k' j' i' x'
  unfold up updS upd1
  by_cases h : k' = k ∧ j' = j ∧ i' = i
  · obtain ⟨rfl, rfl, rfl⟩ := h
    by_cases hx : x' = x <;> simp [hx]
  · have h2 : ¬ (k' = k ∧ j' = j ∧ i' = i ∧ x' = x) := fun z => h ⟨z.1, z.2.1, z.2.2.1⟩
    rw [if_neg h, if_neg h2]
theorem lay_at {E : Ev} {m : Mem} {k j i : Nat} (h : okC k j i) : lay E m (ar E k j i) = shape E k j i (m k j i) := by
  unfold lay ar
  rw [if_neg (by omega), Nat.add_sub_cancel_left, wl_at h]
theorem lay_up {E : Ev} {m : Mem} {k j i : Nat} {g : Nat → Int} (h : okC k j i) : va_up (lay E m) (ar E k j i) (shape E k j i g) = lay E (updS m k j i g) := by
  funext a
  by_cases ha : a = ar E k j i
  · subst ha
    rw [lay_at h]
    simp [va_up, updS]
  · simp only [va_up, if_neg ha]
    unfold lay
    by_cases hb : a < E.2.2.1
    · simp only [if_pos hb]
    · simp only [if_neg hb]
      cases hw : wl[a - E.2.2.1]? with
      | none => rfl
      | some t =>
        obtain ⟨k', j', i'⟩ := t
        have hne : ¬ (k' = k ∧ j' = j ∧ i' = i) := by
          rintro ⟨rfl, rfl, rfl⟩
          have := wl_only hw
          apply ha
          unfold ar
          omega
        simp only [updS, if_neg hne]
theorem hp_in {E : Ev} {m : Mem} {k j i : Nat} (h : okC k j i) : inH E (hp E m) (ar E k j i) := by
  have := aO_lt h
  refine ⟨Nat.le_add_right _ _, ?_⟩
  show E.2.2.1 + aO k j i < E.2.2.1 + 400
  omega
theorem hp_st {E : Ev} {m : Mem} {k j i : Nat} {g : Nat → Int} {e : va_E} (h : okC k j i) (he : shape E k j i g = e) : hst (hp E m) (ar E k j i) e = hp E (updS m k j i g) := by
  subst he
  show (_, _, _) = (_, _, _)
  rw [← lay_up h]
  rfl
