theorem q9_copyFrom {g : am_G} {b a : Nat} (hb : ImS g b) (ha : ImS g a) (hd : b + 24 ≤ a ∨ a + 24 ≤ b) (hb24 : 79 ≤ b + 23 ∨ b + 23 = 24) (hS : ∀ l p, l < 6 → am_P g (a + 23) l = some p → am_S g p = (6, 3)) : fX9_copyFrom b a g = some ((), cpV g b a) := by
  have k1 := q2_copyFrom hb.2.1 ha.2.1 (by omega)
  have k2 := q10_copyFrom (g := cpk g (b + 1) (a + 1)) (b := b + 11) (a := a + 11) hb.wd ha.wd (by omega)
  have k3 := cpLL0 (k := endV b a) hd hb24 (g := cpR g b a) (hb.eq rfl rfl) (ha.eq rfl rfl) hS
  obtain ⟨b1, b2, b3, b4, b5, b6, b7, b8, b9, b10, b11, b12, b13, b14, b15, b16, b17, b18, b19, b20⟩ := id hb
  obtain ⟨a1, a2, a3, a4, a5, a6, a7, a8, a9, a10, a11, a12, a13, a14, a15, a16, a17, a18, a19, a20⟩ := id ha
  have hab : a ≠ b := by omega
  have k4 := endV_eq (g := cpL (cpR g b a) b a) (b := b) (a := a) a1 b1 hab
  unfold fX9_copyFrom
  rw [pu_gd (decide_eq_true b1), b12, pu_ocs, pu_gd (decide_eq_true a1), a12, pu_ocs, pu_gd (decide_eq_true b2.1), k1, pu_bd, pu_gd (by exact decide_eq_true b1)]
  rw [show am_P (cpk g (b + 1) (a + 1)) b 5 = some (b + 11) from b17, pu_ocs, pu_gd (by exact decide_eq_true a1), show am_P (cpk g (b + 1) (a + 1)) a 5 = some (a + 11) from a17, pu_ocs, pu_gd (by exact decide_eq_true b7), k2, pu_bd]
  rw [cpblk (i := 1) (n := 6) (by rfl) (by decide) a1 a13 b1 b13 a3 b3 (by rfl)]
  rw [cpblk (i := 2) (n := 6) (by rfl) (by decide) a1 a14 b1 b14 a4 b4 (by rfl)]
  rw [cpblk (i := 3) (n := 6) (by rfl) (by decide) a1 a15 b1 b15 a5 b5 (by rfl)]
  rw [cpblk (i := 4) (n := 24) (by rfl) (by decide) a1 a16 b1 b16 a6 b6 (by rfl)]
  rw [cpblk (i := 6) (n := 5) (by rfl) (by decide) a1 a18 b1 b18 a9 b9 (by rfl)]
  rw [cpblk (i := 7) (n := 6) (by rfl) (by decide) a1 (a19 0 (by decide)).1 b1 (b19 0 (by decide)).1 (a10 0 (by decide)).1 (b10 0 (by decide)).1 (by rfl)]
  rw [cpblk (i := 8) (n := 6) (by rfl) (by decide) a1 (a19 1 (by decide)).1 b1 (b19 1 (by decide)).1 (a10 1 (by decide)).1 (b10 1 (by decide)).1 (by rfl)]
  rw [cpblk (i := 9) (n := 6) (by rfl) (by decide) a1 (a19 2 (by decide)).1 b1 (b19 2 (by decide)).1 (a10 2 (by decide)).1 (b10 2 (by decide)).1 (by rfl)]
  rw [cpblk (i := 10) (n := 10) (by rfl) (by decide) a1 (a19 0 (by decide)).2 b1 (b19 0 (by decide)).2 (a10 0 (by decide)).2 (b10 0 (by decide)).2 (by rfl)]
  rw [cpblk (i := 11) (n := 10) (by rfl) (by decide) a1 (a19 1 (by decide)).2 b1 (b19 1 (by decide)).2 (a10 1 (by decide)).2 (b10 1 (by decide)).2 (by rfl)]
  rw [cpblk (i := 12) (n := 10) (by rfl) (by decide) a1 (a19 2 (by decide)).2 b1 (b19 2 (by decide)).2 (a10 2 (by decide)).2 (b10 2 (by decide)).2 (by rfl)]
  exact k3.trans k4
