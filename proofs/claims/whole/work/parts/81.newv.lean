/-! ===== a new valley ===== -/
/-- a new cell, told to an older one -/
theorem newB {h : am_G} {n m i kd l : Nat} {sh : Nat × Nat} (hm : am_n h = m) (hn : n < m) (hS : am_S h n = sh) : am_n (am_sp (am_new h kd l) n i (some m)) = m + 1 ∧ am_s (am_sp (am_new h kd l) n i (some m)) = am_s h + l ∧ am_S (am_sp (am_new h kd l) n i (some m)) n = sh ∧ am_S (am_sp (am_new h kd l) n i (some m)) m = (kd, l) ∧ (∀ a, a < m → am_S (am_sp (am_new h kd l) n i (some m)) a = am_S h a) ∧ (∀ a, a < m → a ≠ n → am_P (am_sp (am_new h kd l) n i (some m)) a = am_P h a) ∧ am_P (am_sp (am_new h kd l) n i (some m)) n i = some m ∧ (∀ j, j ≠ i → am_P (am_sp (am_new h kd l) n i (some m)) n j = am_P h n j) ∧ (∀ a, a < m → am_I (am_sp (am_new h kd l) n i (some m)) a = am_I h a) ∧ am_S (am_new h kd l) n = sh ∧ ∀ j, am_P (am_sp (am_new h kd l) n i (some m)) m j = none := by
  subst hm
  refine ⟨by rw [pn_sp, pn_new], by rw [ps_sp, ps_new], ?_, by rw [pS_sp, pS_new], fun a ha => by rw [pS_sp, pS_newn (by omega)], fun a ha hne => by rw [pP_spn hne, pP_newn (by omega)], pP_spe _ _ _ _, fun j hj => by rw [pP_spk hj, pP_newn (by omega)], fun a ha => by rw [pI_sp, pI_newn (by omega)], by rw [pS_newn (by omega)]; exact hS, fun j => ?_⟩
  · rw [pS_sp, pS_newn (by omega)]
    exact hS
  · rw [pP_spn (by omega)]
    show am_up (am_P h) (am_n h) (fun _ => none) (am_n h) j = none
    rw [am_up_eq]
theorem q10_init {g : am_G} {n : Nat} (hn : am_n g = n + 1) (hS : am_S g n = (10, 5)) (hn79 : 79 ≤ n) : ∃ g', fX10_init zc_n n g = some ((), g') ∧ am_n g' = n + 5 ∧ am_s g' = am_s g + 64 ∧ WdS g' n ∧ (∀ a, a < n → am_S g' a = am_S g a ∧ am_P g' a = am_P g a ∧ am_I g' a = am_I g a) := by
  have d1 : zc_n ≤ n := hn79
  obtain ⟨b1, b2, b3, b4, b5, b6, b7, b8, b9, b10, -⟩ := newB (kd := 20) (i := 0) (l := 16) hn (Nat.lt_succ_self n) hS
  generalize h1 : am_sp (am_new g 20 16) n 0 (some (n + 1)) = k1 at b1 b2 b3 b4 b5 b6 b7 b8 b9
  obtain ⟨c1, c2, c3, c4, c5, c6, c7, c8, c9, c10, -⟩ := newB (kd := 20) (i := 1) (l := 16) b1 (by omega) b3
  generalize h2 : am_sp (am_new k1 20 16) n 1 (some (n + 1 + 1)) = k2 at c1 c2 c3 c4 c5 c6 c7 c8 c9
  obtain ⟨e1, e2, e3, e4, e5, e6, e7, e8, e9, e10, -⟩ := newB (kd := 20) (i := 2) (l := 16) c1 (by omega) c3
  generalize h3 : am_sp (am_new k2 20 16) n 2 (some (n + 1 + 1 + 1)) = k3 at e1 e2 e3 e4 e5 e6 e7 e8 e9
  obtain ⟨f1, f2, f3, f4, f5, f6, f7, f8, f9, f10, -⟩ := newB (kd := 20) (i := 3) (l := 16) e1 (by omega) e3
  refine ⟨am_sp (am_new k3 20 16) n 3 (some (n + 1 + 1 + 1 + 1)), ?_, by rw [f1], ?_, ?_, fun a ha => ?_⟩
  · unfold fX10_init
    rw [pu_let, hn, pu_let, pu_gd (decide_eq_true b10), pu_gd (decide_eq_true d1), pu_let, h1, pu_let, b1, pu_let, pu_gd (decide_eq_true c10), pu_gd (decide_eq_true d1), pu_let, h2, pu_let, c1, pu_let, pu_gd (decide_eq_true e10), pu_gd (decide_eq_true d1), pu_let, h3, pu_let, e1, pu_let, pu_gd (decide_eq_true f10), pu_gd (decide_eq_true d1), pu_let]
  · rw [f2, e2, c2, b2]
  · refine ⟨f3, ?_, ?_, ?_, f7, ?_, ?_, ?_, f4⟩
    · rw [f8 0 (by decide), e8 0 (by decide), c8 0 (by decide)]; exact b7
    · rw [f8 1 (by decide), e8 1 (by decide)]; exact c7
    · rw [f8 2 (by decide)]; exact e7
    · rw [f5 _ (by omega), e5 _ (by omega), c5 _ (by omega)]; exact b4
    · rw [f5 _ (by omega), e5 _ (by omega)]; exact c4
    · rw [f5 _ (by omega)]; exact e4
  · refine ⟨?_, ?_, ?_⟩
    · rw [f5 _ (by omega), e5 _ (by omega), c5 _ (by omega), b5 _ (by omega)]
    · rw [f6 _ (by omega) (by omega), e6 _ (by omega) (by omega), c6 _ (by omega) (by omega), b6 _ (by omega) (by omega)]
    · rw [f9 _ (by omega), e9 _ (by omega), c9 _ (by omega), b9 _ (by omega)]
