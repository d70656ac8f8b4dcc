/-! ===== what a copied valley holds ===== -/
theorem cpw_ne {g : am_G} {b a c : Nat} (h : ¬ (b ≤ c ∧ c ≤ b + 4)) : am_I (cpw g b a) c = am_I g c := by
  unfold cpw
  rw [pI_si_ne _ _ _ (by omega), cpa_ne (by omega), cpa_ne (by omega), cpa_ne (by omega), cpa_ne (by omega)]
theorem cpw_4 {g : am_G} {b a : Nat} : am_I (cpw g b a) b 4 = am_I g a 4 := pe_ieq _ _ _ _
theorem cpw_k {g : am_G} {b a c k : Nat} (hd : b + 5 ≤ a ∨ a + 5 ≤ b) (hc : 1 ≤ c ∧ c ≤ 4) (hk : k < 16) : am_I (cpw g b a) (b + c) k = am_I g (a + c) k := by
  unfold cpw
  rw [pI_si_ne _ _ _ (by omega)]
  rcases (show c = 1 ∨ c = 2 ∨ c = 3 ∨ c = 4 by omega) with rfl | rfl | rfl | rfl
  · rw [cpa_ne (by omega), cpa_ne (by omega), cpa_ne (by omega), cpa_k hk]
  · rw [cpa_ne (by omega), cpa_ne (by omega), cpa_k hk, cpa_ne (by omega)]
  · rw [cpa_ne (by omega), cpa_k hk, cpa_ne (by omega), cpa_ne (by omega)]
  · rw [cpa_k hk, cpa_ne (by omega), cpa_ne (by omega), cpa_ne (by omega)]
theorem cpR_ne {g : am_G} {b a c : Nat} (h : ¬ (b ≤ c ∧ c ≤ b + 22)) : am_I (cpR g b a) c = am_I g c := by
  unfold cpR
  rw [cpa_ne (by omega), cpa_ne (by omega), cpa_ne (by omega), cpa_ne (by omega), cpa_ne (by omega), cpa_ne (by omega), cpa_ne (by omega), cpa_ne (by omega), cpa_ne (by omega), cpa_ne (by omega), cpa_ne (by omega), cpw_ne (by omega), (cpk_fr g (b + 1) (a + 1)).2 _ (by omega)]
theorem cpN_ne {g : am_G} {b a c : Nat} (h : c ≠ b) : am_I (cpN g b a) c = am_I g c := by
  unfold cpN
  rw [pI_si_ne _ _ _ h, pI_si_ne _ _ _ h, pI_si_ne _ _ _ h, pI_si_ne _ _ _ h, pI_si_ne _ _ _ h, pI_si_ne _ _ _ h]
theorem cpV_ne {g : am_G} {b a c : Nat} (h : ¬ (b ≤ c ∧ c ≤ b + 22)) : am_I (cpV g b a) c = am_I g c := by
  unfold cpV
  rw [cpN_ne (by omega), cpL_I, cpR_ne h]
theorem cpR_7 {g : am_G} {b a k : Nat} (hd : b + 24 ≤ a ∨ a + 24 ≤ b) (hk : k < 6) : am_I (cpR g b a) (b + 7) k = am_I g (a + 7) k := by
  unfold cpR
  rw [cpa_ne (by omega), cpa_ne (by omega), cpa_ne (by omega), cpa_ne (by omega), cpa_ne (by omega), cpa_ne (by omega), cpa_ne (by omega), cpa_ne (by omega), cpa_ne (by omega), cpa_ne (by omega), cpa_k hk, cpw_ne (by omega), (cpk_fr g (b + 1) (a + 1)).2 _ (by omega)]
theorem cpR_8 {g : am_G} {b a k : Nat} (hd : b + 24 ≤ a ∨ a + 24 ≤ b) (hk : k < 6) : am_I (cpR g b a) (b + 8) k = am_I g (a + 8) k := by
  unfold cpR
  rw [cpa_ne (by omega), cpa_ne (by omega), cpa_ne (by omega), cpa_ne (by omega), cpa_ne (by omega), cpa_ne (by omega), cpa_ne (by omega), cpa_ne (by omega), cpa_ne (by omega), cpa_k hk, cpa_ne (by omega), cpw_ne (by omega), (cpk_fr g (b + 1) (a + 1)).2 _ (by omega)]
theorem cpR_9 {g : am_G} {b a k : Nat} (hd : b + 24 ≤ a ∨ a + 24 ≤ b) (hk : k < 6) : am_I (cpR g b a) (b + 9) k = am_I g (a + 9) k := by
  unfold cpR
  rw [cpa_ne (by omega), cpa_ne (by omega), cpa_ne (by omega), cpa_ne (by omega), cpa_ne (by omega), cpa_ne (by omega), cpa_ne (by omega), cpa_ne (by omega), cpa_k hk, cpa_ne (by omega), cpa_ne (by omega), cpw_ne (by omega), (cpk_fr g (b + 1) (a + 1)).2 _ (by omega)]
theorem cpR_10 {g : am_G} {b a k : Nat} (hd : b + 24 ≤ a ∨ a + 24 ≤ b) (hk : k < 24) : am_I (cpR g b a) (b + 10) k = am_I g (a + 10) k := by
  unfold cpR
  rw [cpa_ne (by omega), cpa_ne (by omega), cpa_ne (by omega), cpa_ne (by omega), cpa_ne (by omega), cpa_ne (by omega), cpa_ne (by omega), cpa_k hk, cpa_ne (by omega), cpa_ne (by omega), cpa_ne (by omega), cpw_ne (by omega), (cpk_fr g (b + 1) (a + 1)).2 _ (by omega)]
theorem cpR_16 {g : am_G} {b a k : Nat} (hd : b + 24 ≤ a ∨ a + 24 ≤ b) (hk : k < 5) : am_I (cpR g b a) (b + 16) k = am_I g (a + 16) k := by
  unfold cpR
  rw [cpa_ne (by omega), cpa_ne (by omega), cpa_ne (by omega), cpa_ne (by omega), cpa_ne (by omega), cpa_ne (by omega), cpa_k hk, cpa_ne (by omega), cpa_ne (by omega), cpa_ne (by omega), cpa_ne (by omega), cpw_ne (by omega), (cpk_fr g (b + 1) (a + 1)).2 _ (by omega)]
theorem cpR_17 {g : am_G} {b a k : Nat} (hd : b + 24 ≤ a ∨ a + 24 ≤ b) (hk : k < 6) : am_I (cpR g b a) (b + 17) k = am_I g (a + 17) k := by
  unfold cpR
  rw [cpa_ne (by omega), cpa_ne (by omega), cpa_ne (by omega), cpa_ne (by omega), cpa_ne (by omega), cpa_k hk, cpa_ne (by omega), cpa_ne (by omega), cpa_ne (by omega), cpa_ne (by omega), cpa_ne (by omega), cpw_ne (by omega), (cpk_fr g (b + 1) (a + 1)).2 _ (by omega)]
theorem cpR_18 {g : am_G} {b a k : Nat} (hd : b + 24 ≤ a ∨ a + 24 ≤ b) (hk : k < 6) : am_I (cpR g b a) (b + 18) k = am_I g (a + 18) k := by
  unfold cpR
  rw [cpa_ne (by omega), cpa_ne (by omega), cpa_ne (by omega), cpa_ne (by omega), cpa_k hk, cpa_ne (by omega), cpa_ne (by omega), cpa_ne (by omega), cpa_ne (by omega), cpa_ne (by omega), cpa_ne (by omega), cpw_ne (by omega), (cpk_fr g (b + 1) (a + 1)).2 _ (by omega)]
theorem cpR_19 {g : am_G} {b a k : Nat} (hd : b + 24 ≤ a ∨ a + 24 ≤ b) (hk : k < 6) : am_I (cpR g b a) (b + 19) k = am_I g (a + 19) k := by
  unfold cpR
  rw [cpa_ne (by omega), cpa_ne (by omega), cpa_ne (by omega), cpa_k hk, cpa_ne (by omega), cpa_ne (by omega), cpa_ne (by omega), cpa_ne (by omega), cpa_ne (by omega), cpa_ne (by omega), cpa_ne (by omega), cpw_ne (by omega), (cpk_fr g (b + 1) (a + 1)).2 _ (by omega)]
theorem cpR_20 {g : am_G} {b a k : Nat} (hd : b + 24 ≤ a ∨ a + 24 ≤ b) (hk : k < 10) : am_I (cpR g b a) (b + 20) k = am_I g (a + 20) k := by
  unfold cpR
  rw [cpa_ne (by omega), cpa_ne (by omega), cpa_k hk, cpa_ne (by omega), cpa_ne (by omega), cpa_ne (by omega), cpa_ne (by omega), cpa_ne (by omega), cpa_ne (by omega), cpa_ne (by omega), cpa_ne (by omega), cpw_ne (by omega), (cpk_fr g (b + 1) (a + 1)).2 _ (by omega)]
theorem cpR_21 {g : am_G} {b a k : Nat} (hd : b + 24 ≤ a ∨ a + 24 ≤ b) (hk : k < 10) : am_I (cpR g b a) (b + 21) k = am_I g (a + 21) k := by
  unfold cpR
  rw [cpa_ne (by omega), cpa_k hk, cpa_ne (by omega), cpa_ne (by omega), cpa_ne (by omega), cpa_ne (by omega), cpa_ne (by omega), cpa_ne (by omega), cpa_ne (by omega), cpa_ne (by omega), cpa_ne (by omega), cpw_ne (by omega), (cpk_fr g (b + 1) (a + 1)).2 _ (by omega)]
theorem cpR_22 {g : am_G} {b a k : Nat} (hd : b + 24 ≤ a ∨ a + 24 ≤ b) (hk : k < 10) : am_I (cpR g b a) (b + 22) k = am_I g (a + 22) k := by
  unfold cpR
  rw [cpa_k hk, cpa_ne (by omega), cpa_ne (by omega), cpa_ne (by omega), cpa_ne (by omega), cpa_ne (by omega), cpa_ne (by omega), cpa_ne (by omega), cpa_ne (by omega), cpa_ne (by omega), cpa_ne (by omega), cpw_ne (by omega), (cpk_fr g (b + 1) (a + 1)).2 _ (by omega)]
theorem cpR_p {g : am_G} {b a c k : Nat} (hd : b + 24 ≤ a ∨ a + 24 ≤ b) (h : (c = 0 ∧ (k = 5 ∨ k = 6 ∨ k = 7)) ∨ ((c = 1 ∨ c = 2 ∨ c = 5) ∧ k < 6) ∨ ((c = 3 ∨ c = 4) ∧ k < 36)) : am_I (cpR g b a) (b + 1 + c) k = am_I g (a + 1 + c) k := by
  have e : am_I (cpR g b a) (b + 1 + c) = am_I (cpk g (b + 1) (a + 1)) (b + 1 + c) := by
    unfold cpR
    rw [cpa_ne (by omega), cpa_ne (by omega), cpa_ne (by omega), cpa_ne (by omega), cpa_ne (by omega), cpa_ne (by omega), cpa_ne (by omega), cpa_ne (by omega), cpa_ne (by omega), cpa_ne (by omega), cpa_ne (by omega), cpw_ne (by omega)]
  rw [e]
  exact cpk_at (by omega) h
theorem cpR_w {g : am_G} {b a c k : Nat} (hd : b + 24 ≤ a ∨ a + 24 ≤ b) (h : (c = 0 ∧ k = 4) ∨ ((1 ≤ c ∧ c ≤ 4) ∧ k < 16)) : am_I (cpR g b a) (b + 11 + c) k = am_I g (a + 11 + c) k := by
  have e : am_I (cpR g b a) (b + 11 + c) = am_I (cpw (cpk g (b + 1) (a + 1)) (b + 11) (a + 11)) (b + 11 + c) := by
    unfold cpR
    rw [cpa_ne (by omega), cpa_ne (by omega), cpa_ne (by omega), cpa_ne (by omega), cpa_ne (by omega), cpa_ne (by omega), cpa_ne (by omega), cpa_ne (by omega), cpa_ne (by omega), cpa_ne (by omega), cpa_ne (by omega)]
  have e2 : am_I (cpw (cpk g (b + 1) (a + 1)) (b + 11) (a + 11)) (b + 11 + c) k = am_I (cpk g (b + 1) (a + 1)) (a + 11 + c) k := by
    rcases h with ⟨rfl, rfl⟩ | ⟨h1, h2⟩
    · exact cpw_4
    · exact cpw_k (by omega) h1 h2
  rw [e, e2, (cpk_fr g (b + 1) (a + 1)).2 _ (by omega)]
theorem cpN_0 {g : am_G} {b a k : Nat} (hk : 14 ≤ k ∧ k ≤ 19) : am_I (cpN g b a) b k = am_I g a k := by
  unfold cpN
  rcases (show k = 14 ∨ k = 15 ∨ k = 16 ∨ k = 17 ∨ k = 18 ∨ k = 19 by omega) with rfl | rfl | rfl | rfl | rfl | rfl <;> simp (disch := decide) only [pe_ik, pe_ieq]
theorem vT_all : ∀ j, j < 259 → ((vT j).1 = true) ∨ ((vT j).1 = false ∧ (((vT j).2.1 = 0 ∧ 14 ≤ (vT j).2.2 ∧ (vT j).2.2 ≤ 19) ∨ (((vT j).2.1 = 7 ∨ (vT j).2.1 = 8 ∨ (vT j).2.1 = 9) ∧ (vT j).2.2 < 6) ∨ ((vT j).2.1 = 10 ∧ (vT j).2.2 < 24) ∨ ((vT j).2.1 = 11 ∧ (vT j).2.2 = 4) ∨ ((12 ≤ (vT j).2.1 ∧ (vT j).2.1 ≤ 15) ∧ (vT j).2.2 < 16) ∨ ((vT j).2.1 = 16 ∧ (vT j).2.2 < 5) ∨ ((17 ≤ (vT j).2.1 ∧ (vT j).2.1 ≤ 19) ∧ (vT j).2.2 < 6) ∨ ((20 ≤ (vT j).2.1 ∧ (vT j).2.1 ≤ 22) ∧ (vT j).2.2 < 10))) := by decide +kernel
/-- behind the copy the valley at b is the valley at a was -/
theorem cpV_vr {g : am_G} {b a : Nat} (hd : b + 24 ≤ a ∨ a + 24 ≤ b) : vr (cpV g b a) b (b + 1) = vr g a (a + 1) := by
  funext j
  by_cases hj : j < 259
  · rw [vr_at hj, vr_at hj]
    unfold vA vS cpV
    rcases vT_all j hj with hc | ⟨hc, hk⟩
    · have hp := vT_pk j hj hc
      have sm := (vT_sm j hj).1 hc
      rw [if_pos hc, if_pos hc, cpN_ne (by omega), cpL_I]
      exact cpR_p hd hp
    · have hf : ¬ (vT j).1 = true := by rw [hc]; decide
      rw [if_neg hf, if_neg hf]
      generalize (vT j).2.1 = c at hk
      generalize (vT j).2.2 = k at hk
      rcases hk with ⟨rfl, hk⟩ | ⟨rfl | rfl | rfl, hk⟩ | ⟨rfl, hk⟩ | ⟨rfl, rfl⟩ | ⟨hc', hk⟩ | ⟨rfl, hk⟩ | ⟨hc', hk⟩ | ⟨hc', hk⟩
      · rw [Nat.add_zero, Nat.add_zero, cpN_0 hk, cpL_I, cpR_ne (by omega)]
      · rw [cpN_ne (by omega), cpL_I]; exact cpR_7 hd hk
      · rw [cpN_ne (by omega), cpL_I]; exact cpR_8 hd hk
      · rw [cpN_ne (by omega), cpL_I]; exact cpR_9 hd hk
      · rw [cpN_ne (by omega), cpL_I]; exact cpR_10 hd hk
      · rw [cpN_ne (by omega), cpL_I]; exact cpR_w (c := 0) hd (Or.inl ⟨rfl, rfl⟩)
      · obtain ⟨d, rfl⟩ : ∃ d, c = 11 + d := ⟨c - 11, by omega⟩
        rw [cpN_ne (by omega), cpL_I, ← Nat.add_assoc, ← Nat.add_assoc]
        exact cpR_w hd (Or.inr ⟨by omega, hk⟩)
      · rw [cpN_ne (by omega), cpL_I]; exact cpR_16 hd hk
      · rw [cpN_ne (by omega), cpL_I]
        rcases (show c = 17 ∨ c = 18 ∨ c = 19 by omega) with rfl | rfl | rfl
        · exact cpR_17 hd hk
        · exact cpR_18 hd hk
        · exact cpR_19 hd hk
      · rw [cpN_ne (by omega), cpL_I]
        rcases (show c = 20 ∨ c = 21 ∨ c = 22 by omega) with rfl | rfl | rfl
        · exact cpR_20 hd hk
        · exact cpR_21 hd hk
        · exact cpR_22 hd hk
  · unfold vr; rw [if_neg hj, if_neg hj]
