/-! ===== the relation at the beginning ===== -/
theorem r0_om : ∀ q ∈ om, am_I am_gc q.2.1 q.2.2 = am_I am_gr q.1.1 q.1.2 := by decide +kernel
theorem r0_row : ∀ j, j < 259 → (((10 ≤ j ∧ j < 70 ∧ 8 ≤ (j - 10) % 10) ∨ (70 ≤ j ∧ j < 142)) → 0 ≤ (am_I am_gr 2 j).toInt ∧ (am_I am_gr 2 j).toInt ≤ 0) ∧ (okLo j ≤ (am_I am_gr 2 j).toInt ∧ (am_I am_gr 2 j).toInt ≤ okHi 0 j) ∧ (10 ≤ j ∧ j < 70 ∧ (j - 10) % 10 = 2 → am_I am_gr 2 j = -1 ∨ ((j - 10) / 10 : Nat) < (am_I am_gr 2 j).toInt) := by decide +kernel
theorem r0_okB (j : Nat) (hj : j < 259) : okB 0 j (am_I am_gr 2 j) := by
  obtain ⟨h1, h2, h3⟩ := r0_row j hj
  exact ⟨fun z => h1 z, fun _ => ⟨Or.inr (Or.inr (Or.inr h2)), h3⟩⟩
theorem r0_inv : InvB 0 am_gr := ⟨r0_okB, by decide +kernel, by decide +kernel, by decide +kernel⟩
theorem r0_27 : ∀ j, j < 16 → am_P am_gc 27 j = none := by decide +kernel
theorem r0_24 : ∀ j, j < 6 → am_P am_gc 24 j = none := by decide +kernel
theorem r0_25 : ∀ k, k < 2 → am_P am_gc 25 k = none ∧ am_I am_gr 4 k = nI 0 := by decide +kernel
theorem r0_tape : ∀ i, i < 400 → am_I am_gc 30 i = nI 0 ∧ am_I am_gr 9 i = nI 0 := by decide +kernel
theorem r0_win : WinR am_gc am_gr := by unfold WinR; decide +kernel
theorem r0_2 : PkS am_gc 2 := by unfold PkS; decide +kernel
theorem r0_im : ImS am_gc 1 := by
  refine ⟨by decide +kernel, r0_2, by decide +kernel, by decide +kernel, by decide +kernel, by decide +kernel, by decide +kernel, by decide +kernel, by decide +kernel, by decide +kernel, by decide +kernel, by decide +kernel, by decide +kernel, by decide +kernel, by decide +kernel, by decide +kernel, by decide +kernel, by decide +kernel, by decide +kernel, by decide +kernel⟩
theorem r0_65 : PkS am_gc 65 := by unfold PkS; decide +kernel
theorem r0_71 : PkS am_gc 71 := by unfold PkS; decide +kernel
theorem r0_sh : ShR am_gc := by unfold ShR; decide +kernel
theorem r0_nul : nulN (am_P am_gc 27) 16 = 16 := by decide +kernel
theorem r0_undo : UndoR (fun _ => 0) 0 am_gc am_gr := ⟨0, 0, by decide, by decide, by decide +kernel, by decide +kernel, (fun j p hj h => by rw [r0_27 j hj] at h; cases h), fun i hi => absurd hi (Nat.not_lt_zero i)⟩
theorem r0_cst : CstR 0 am_gc am_gr := ⟨by decide +kernel, r0_im, r0_65, r0_71, Nat.le_of_eq am_gc_n.symm, am_gr_n, rfl, by rw [am_gc_n, r0_nul]; decide, by rw [r0_nul]; exact Nat.le_refl _, rfl, rfl, rfl, r0_sh⟩
theorem r0_tp : TapeR am_gc am_gr := by
  intro i hi
  obtain ⟨h1, h2⟩ := r0_tape i hi
  rw [h1, h2]
  exact ⟨by decide, 0, by decide, rfl, by decide⟩
theorem r0_rel : Rel 0 am_gc am_gr := by
  refine ⟨r0_om, r0_inv, fun _ => 0, r0_undo, fun k hk => Or.inl (r0_25 k hk), r0_tp, r0_cst, r0_win, 0, by decide, by decide +kernel, fun l hl => absurd hl (Nat.not_lt_zero l), fun l p hl h => ?_⟩
  rw [r0_24 l hl] at h
  cases h
