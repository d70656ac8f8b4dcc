def zc_l : List ((Nat × Nat) × List (Option Nat)) := [((11, 17), [some 1, some 25, some 26, some 29, some 36, some 39, some 45, some 51, some 62, some 65, some 71, some 77, some 78, none, none, none, none]), ((9, 20), [some 2, some 8, some 9, some 10, some 11, some 12, some 17, some 18, some 19, some 20, some 21, some 22, some 23, some 24, none, none, none, none, none, none]), ((2, 8), [some 3, some 4, some 5, some 6, some 7, none, none, none]), ((20, 6), []), ((20, 6), []), ((20, 36), []), ((20, 36), []), ((20, 6), []), ((20, 6), []), ((20, 6), []), ((20, 6), []), ((20, 24), []), ((10, 5), [some 13, some 14, some 15, some 16, none]), ((20, 16), []), ((20, 16), []), ((20, 16), []), ((20, 16), []), ((20, 5), []), ((20, 6), []), ((20, 6), []), ((20, 6), []), ((20, 10), []), ((20, 10), []), ((20, 10), []), ((26, 6), []), ((25, 2), []), ((8, 4), [some 27, some 28, none, none]), ((24, 16), []), ((20, 16), []), ((5, 11), [some 30, some 31, some 32, some 33, none, none, none, none, none, none, none]), ((21, 400), []), ((20, 401), []), ((20, 401), []), ((6, 3), [some 34, some 35, none]), ((20, 72), []), ((20, 512), []), ((0, 3), [some 1, some 37, some 38]), ((20, 40), []), ((20, 50), []), ((3, 9), [some 1, some 36, some 40, some 41, some 42, some 43, some 44, none, none]), ((22, 16), []), ((20, 96), []), ((20, 36), []), ((20, 5), []), ((20, 5), []), ((4, 9), [some 1, some 36, some 46, some 47, some 48, some 49, some 50, none, none]), ((20, 24), []), ((22, 24), []), ((20, 144), []), ((20, 6), []), ((20, 6), []), ((1, 15), [some 1, some 36, some 52, some 53, some 54, some 55, some 56, some 57, some 58, some 59, some 60, some 61, none, none, none]), ((22, 48), []), ((22, 6), []), ((20, 24), []), ((20, 24), []), ((20, 6), []), ((20, 1152), []), ((20, 24), []), ((20, 24), []), ((20, 18), []), ((20, 3), []), ((7, 6), [some 1, some 36, some 63, some 64, none, none]), ((20, 16), []), ((22, 1024), []), ((2, 8), [some 66, some 67, some 68, some 69, some 70, none, none, none]), ((20, 6), []), ((20, 6), []), ((20, 36), []), ((20, 36), []), ((20, 6), []), ((2, 8), [some 72, some 73, some 74, some 75, some 76, none, none, none]), ((20, 6), []), ((20, 6), []), ((20, 36), []), ((20, 36), []), ((20, 6), []), ((20, 7), []), ((20, 16), [])]
abbrev zc_n : Nat := 79
def zc : am_Z := (fun a => (zc_l[a]?).map fun q => q.1, fun a k => (zc_l[a]?).bind fun q => (q.2[k]?).join)
theorem zc_free : ∀ a k : Nat, zc_n ≤ a → zc.2 a k = none := by
  intro a k h
  show (zc_l[a]?).bind _ = none
  rw [List.getElem?_eq_none (by simpa [zc_l] using h)]
  rfl
theorem zc_fresh {g : am_G} (h : am_ok zc g) : ∀ k, zc.2 (am_n g) k = none := by
  intro k
  have h1 := (h.2.1 78 _ rfl).1
  exact zc_free _ _ (by show 79 ≤ am_n g; omega)
def zr_l : List ((Nat × Nat) × List (Option Nat)) := [((12, 64), [none, none, some 1, some 2, some 3, some 4, some 5, some 6, none, some 7, some 8, none, some 9, none, none, none, none, none, none, none, none, none, some 10, none, some 11, some 12, none, some 13, some 14, none, none, some 15, some 16, some 17, none, some 18, some 19, some 20, none, none, none, some 21, some 22, some 23, some 24, some 25, some 26, none, none, some 27, some 28, some 29, some 30, some 31, some 32, some 33, none, none, none, none, none, none, some 34, none]), ((20, 7), []), ((20, 5660), []), ((20, 11320), []), ((22, 2), []), ((20, 2856), []), ((20, 16), []), ((20, 2176), []), ((20, 16), []), ((20, 400), []), ((20, 96), []), ((20, 400), []), ((20, 400), []), ((20, 400), []), ((20, 400), []), ((23, 10), []), ((23, 7), []), ((23, 4), []), ((23, 13), []), ((23, 13), []), ((23, 400), []), ((20, 6), []), ((20, 6), []), ((20, 96), []), ((22, 16), []), ((20, 5), []), ((20, 5), []), ((20, 6), []), ((20, 6), []), ((20, 3), []), ((22, 10000), []), ((20, 16), []), ((20, 16), []), ((20, 120), []), ((20, 12), [])]
abbrev zr_n : Nat := 35
def zr : am_Z := (fun a => (zr_l[a]?).map fun q => q.1, fun a k => (zr_l[a]?).bind fun q => (q.2[k]?).join)
theorem zr_free : ∀ a k : Nat, zr_n ≤ a → zr.2 a k = none := by
  intro a k h
  show (zr_l[a]?).bind _ = none
  rw [List.getElem?_eq_none (by simpa [zr_l] using h)]
  rfl
theorem zr_fresh {g : am_G} (h : am_ok zr g) : ∀ k, zr.2 (am_n g) k = none := by
  intro k
  have h1 := (h.2.1 34 _ rfl).1
  exact zr_free _ _ (by show 35 ≤ am_n g; omega)
