/-- older cells stay, and the references told before the i-th -/
def Pr (n i : Nat) (K K' : am_G) : Prop := am_n K ≤ am_n K' ∧ (∀ a, a < am_n K → am_S K' a = am_S K a ∧ am_I K' a = am_I K a) ∧ (∀ a, a < am_n K → a ≠ n → am_P K' a = am_P K a) ∧ ∀ j, j < i → am_P K' n j = am_P K n j
theorem Pr.tr {n i i' : Nat} {K K' K'' : am_G} (h : Pr n i K K') (h' : Pr n i' K' K'') (hi : i ≤ i') : Pr n i K K'' :=
  ⟨Nat.le_trans h.1 h'.1, fun a ha => ⟨(h'.2.1 a (Nat.lt_of_lt_of_le ha h.1)).1.trans (h.2.1 a ha).1, (h'.2.1 a (Nat.lt_of_lt_of_le ha h.1)).2.trans (h.2.1 a ha).2⟩, fun a ha hne => (h'.2.2.1 a (Nat.lt_of_lt_of_le ha h.1) hne).trans (h.2.2.1 a ha hne), fun j hj => (h'.2.2.2 j (by omega)).trans (h.2.2.2 j hj)⟩
theorem Pr.rf (n i : Nat) (K : am_G) : Pr n i K K := ⟨Nat.le_refl _, fun _ _ => ⟨rfl, rfl⟩, fun _ _ _ => rfl, fun _ _ => rfl⟩
/-- a row is made and told to the valley -/
theorem stB {K : am_G} {n m i kd l : Nat} (hm : am_n K = m) (hn : n < m) (hS : am_S K n = (9, 20)) : ∃ K', am_sp (am_new K kd l) n i (some m) = K' ∧ am_n K' = m + 1 ∧ am_s K' = am_s K + l ∧ am_S K' n = (9, 20) ∧ am_S (am_new K kd l) n = (9, 20) ∧ am_S K' m = (kd, l) ∧ am_P K' n i = some m ∧ Pr n i K K' ∧ ∀ j, am_P K' m j = none := by
  obtain ⟨b1, b2, b3, b4, b5, b6, b7, b8, b9, b10, b11⟩ := newB (kd := kd) (i := i) (l := l) hm hn hS
  exact ⟨_, rfl, b1, b2, b3, b10, b4, b7, ⟨by rw [b1, hm]; omega, fun a ha => ⟨b5 a (by omega), b9 a (by omega)⟩, fun a ha hne => b6 a (by omega) hne, fun j hj => b8 j (by omega)⟩, b11⟩
/-- so is a pack, or words -/
theorem stO {K K1 : am_G} {n m i : Nat} (hm : am_n K = m) (hn : n < m) (hS : am_S K n = (9, 20)) (hK : ∀ a, a < m → am_S K1 a = am_S K a ∧ am_P K1 a = am_P K a ∧ am_I K1 a = am_I K a) (hle : m ≤ am_n K1) : Pr n i K (am_sp K1 n i (some m)) ∧ am_S (am_sp K1 n i (some m)) n = (9, 20) ∧ am_P (am_sp K1 n i (some m)) n i = some m := by
  refine ⟨⟨by rw [pn_sp]; omega, fun a ha => ⟨by rw [pS_sp]; exact (hK a (by omega)).1, by rw [pI_sp]; exact (hK a (by omega)).2.2⟩, fun a ha hne => by rw [pP_spn hne]; exact (hK a (by omega)).2.1, fun j hj => by rw [pP_spk (by omega)]; exact congrFun (hK n (by omega)).2.1 j⟩, by rw [pS_sp, (hK n hn).1]; exact hS, pP_spe _ _ _ _⟩
