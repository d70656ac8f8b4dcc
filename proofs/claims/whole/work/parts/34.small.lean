theorem om_r2 : ∀ q ∈ om, q.1.1 = 2 → q.1.2 < 259 ∧ q.2.1 < 26 := by decide +kernel
/-- the same number written in both, at a place of the row -/
theorem Sm.w {t : Nat} {gc0 gr0 gc gr : am_G} (h : Sm t gc0 gr0 gc gr) {J ca ck : Nat} (hq : ((2, J), (ca, ck)) ∈ om) {x : Int32} (hx : okAt (t + 1) J x) (h45 : J ≠ 4 ∧ J ≠ 5) (hn : ¬ npk J) : Sm t gc0 gr0 (am_si gc ca ck x) (am_si gr 2 J x) := by
  obtain ⟨h1, h2, h3, h4, h5⟩ := h
  obtain ⟨hJ, hca⟩ := om_r2 _ hq rfl
  have hJ : J < 259 := hJ
  have hca : ca < 26 := hca
  have e0 : am_I (am_si gr 2 J x) 0 = am_I gr 0 := pI_si_ne _ _ _ (by decide)
  refine ⟨h1.w hq x, ⟨fun j hj => ?_, ?_, by rw [e0]; exact h2.2.2.1, by rw [e0]; exact h2.2.2.2⟩, h3.si (by omega) (by omega) (by omega), h4.si (by decide) (fun _ => by omega), ?_⟩
  · rw [pI_si_row]
    by_cases hh : j = J
    · subst hh
      rw [am_up_eq]
      exact hx
    · rw [am_up_ne hh]
      exact h2.1 j hj
  · rw [pI_si_row, am_up_ne (Ne.symm h45.2), am_up_ne (Ne.symm h45.1)]
    exact h2.2.1
  · rcases h5 with z | z
    · left
      rw [e0]
      exact z
    · right
      refine ⟨by rw [e0]; exact z.1, fun j hj => ?_⟩
      rw [pI_si_row, am_up_ne (show j ≠ J from fun e => hn (e ▸ hj))]
      exact z.2 j hj
theorem Sm.acc {t : Nat} {gc0 gr0 gc gr : am_G} (h : Sm t gc0 gr0 gc gr) : Sm t gc0 gr0 (accC gc) (accR gr) := by
  obtain ⟨h1, h2, h3, h4, h5⟩ := h
  exact ⟨h1.acc, h2, h3.si (by decide) (by decide) (by decide), h4.si (by decide) (by decide), h5⟩
theorem Sm.refu {t : Nat} {gc0 gr0 gc gr : am_G} (h : Sm t gc0 gr0 gc gr) {k : Nat} (hk : k < 7) : Sm t gc0 gr0 (refC k gc) (refR k gr) := by
  obtain ⟨h1, h2, h3, h4, h5⟩ := h
  exact ⟨h1.ref hk, h2, (h3.si (by decide) (by decide) (by decide)).si (by decide) (by omega) (by decide), (h4.si (by decide) (by decide)).si (by decide) (by omega), h5⟩
theorem okAt_nat {t j n : Nat} {x : Int32} (h : okAt t j x) (hj : ¬ (j = 8 ∨ j = 9 ∨ (10 ≤ j ∧ j < 70 ∧ (j - 10) % 10 = 9))) (hlo : okLo j = 0) (hhi : okHi t j = n) : ∃ m, m ≤ n ∧ x = nI m := by
  rcases h.1 with z | z | z | z
  · exact absurd (Or.inl z) hj
  · exact absurd (Or.inr (Or.inl z)) hj
  · exact z.2.2.2.elim
  · rw [hlo, hhi] at z
    have h0 : (0 : Int32) ≤ x := Int32.le_iff_toInt_le.mpr (by simpa using z.1)
    obtain ⟨e1, e2⟩ := nn_of h0
    refine ⟨x.toNatClampNeg, ?_, e1⟩
    have e3 : x.toNatClampNeg = x.toInt.toNat := rfl
    omega
theorem okAt_of {t j n m : Nat} (hj : ¬ (10 ≤ j ∧ j < 70 ∧ (j - 10) % 10 = 2)) (hlo : okLo j = 0) (hhi : okHi t j = n) (hm : m ≤ n) (hn : n < 2 ^ 31) : okAt t j (nI m) := by
  refine ⟨Or.inr (Or.inr (Or.inr ⟨?_, ?_⟩)), fun z => absurd z hj⟩
  · rw [hlo, nn_toInt (by omega)]; omega
  · rw [hhi, nn_toInt (by omega)]; omega
theorem Inv.cnt {t : Nat} {g : am_G} (h : Inv t g) : (∃ n, n ≤ 16 ∧ am_I g 2 0 = nI n) ∧ (∃ n, n ≤ 5 ∧ am_I g 2 1 = nI n) ∧ (∃ n, n ≤ 6 ∧ am_I g 2 2 = nI n) ∧ (∃ n, n ≤ 10 ∧ am_I g 2 3 = nI n) ∧ (∃ n, n ≤ 6 ∧ am_I g 2 4 = nI n) :=
  ⟨okAt_nat (h.1 0 (by decide)) (by decide) rfl rfl, okAt_nat (h.1 1 (by decide)) (by decide) rfl rfl, okAt_nat (h.1 2 (by decide)) (by decide) rfl rfl, okAt_nat (h.1 3 (by decide)) (by decide) rfl rfl, okAt_nat (h.1 4 (by decide)) (by decide) rfl rfl⟩
/-! the readers -/
theorem m_murmur {t : Nat} {gc gr : am_G} (h : Rc gc gr) (hi : Inv t gr) : ∃ (v : Int32) (gc1 gr1 : am_G), fX11_murmur gc = some (v, gc1) ∧ fX12_murmur gr = some (v, gr1) ∧ Sm t gc gr gc1 gr1 :=
  ⟨am_I gc 0 14, gc, thr gr, rfl, by unfold fX12_murmur; rw [pu_let, h.at (ra := 0) (rk := 11) (by decide +kernel)]; rfl, Sm.same h hi⟩
theorem m_fault {t : Nat} {gc gr : am_G} (h : Rc gc gr) (hi : Inv t gr) : ∃ (v : Int32) (gc1 gr1 : am_G), fX11_fault gc = some (v, gc1) ∧ fX12_fault gr = some (v, gr1) ∧ Sm t gc gr gc1 gr1 :=
  ⟨am_I gc 29 5, gc, thr gr, rfl, by unfold fX12_fault; rw [pu_let, h.at (ra := 0) (rk := 18) (by decide +kernel)]; rfl, Sm.same h hi⟩
theorem m_stopped {t : Nat} {gc gr : am_G} (h : Rc gc gr) (hi : Inv t gr) : ∃ (v : Int32) (gc1 gr1 : am_G), fX11_stopped gc = some (v, gc1) ∧ fX12_stopped gr = some (v, gr1) ∧ Sm t gc gr gc1 gr1 :=
  ⟨am_I gc 0 15, gc, thr gr, rfl, by unfold fX12_stopped; rw [pu_let, h.at (ra := 0) (rk := 59) (by decide +kernel)]; rfl, Sm.same h hi⟩
theorem m_status {t : Nat} {gc gr : am_G} (h : Rc gc gr) (hi : Inv t gr) : ∃ (v : Int32) (gc1 gr1 : am_G), fX11_status gc = some (v, gc1) ∧ fX12_status gr = some (v, gr1) ∧ Sm t gc gr gc1 gr1 :=
  ⟨am_I gc 0 16, gc, thr gr, rfl, by unfold fX12_status; rw [pu_let, h.at (ra := 0) (rk := 1) (by decide +kernel)]; rfl, Sm.same h hi⟩
/-! what is emptied -/
theorem m_hush {t : Nat} {gc gr : am_G} (h : Rc gc gr) (hi : Inv t gr) : ∃ (v : Int32) (gc1 gr1 : am_G), fX11_hush gc = some (v, gc1) ∧ fX12_hush gr = some (v, gr1) ∧ Sm t gc gr gc1 gr1 := by
  refine ⟨am_I gr 2 1, am_si gc 1 14 0, am_si (thr gr) 2 1 0, ?_, rfl, (Sm.same h hi).w (by decide +kernel) (okAt_of (m := 0) (by decide) rfl rfl (Nat.zero_le _) (by decide)) (by decide) (by unfold npk; omega)⟩
  unfold fX11_hush
  rw [pu_let, pu_let, h.at (ra := 2) (rk := 1) (by decide +kernel)]
theorem m_cancel {t : Nat} {gc gr : am_G} (h : Rc gc gr) (hi : Inv t gr) : ∃ (v : Int32) (gc1 gr1 : am_G), fX11_cancel gc = some (v, gc1) ∧ fX12_cancel gr = some (v, gr1) ∧ Sm t gc gr gc1 gr1 := by
  refine ⟨am_I gr 2 2, am_si gc 1 15 0, am_si (thr gr) 2 2 0, ?_, rfl, (Sm.same h hi).w (by decide +kernel) (okAt_of (m := 0) (by decide) rfl rfl (Nat.zero_le _) (by decide)) (by decide) (by unfold npk; omega)⟩
  unfold fX11_cancel
  rw [pu_let, pu_let, h.at (ra := 2) (rk := 2) (by decide +kernel)]
theorem m_forget {t : Nat} {gc gr : am_G} (h : Rc gc gr) (hi : Inv t gr) : ∃ (v : Int32) (gc1 gr1 : am_G), fX11_forget gc = some (v, gc1) ∧ fX12_forget gr = some (v, gr1) ∧ Sm t gc gr gc1 gr1 := by
  refine ⟨am_I gr 2 3, am_si gc 1 16 0, am_si (thr gr) 2 3 0, ?_, rfl, (Sm.same h hi).w (by decide +kernel) (okAt_of (m := 0) (by decide) rfl rfl (Nat.zero_le _) (by decide)) (by decide) (by unfold npk; omega)⟩
  unfold fX11_forget
  rw [pu_let, pu_let, h.at (ra := 2) (rk := 3) (by decide +kernel)]
/-! mean -/
theorem m_mean {t : Nat} {gc gr : am_G} (h : Rc gc gr) (hi : Inv t gr) (a1 : Int32) : ∃ (v : Int32) (gc1 gr1 : am_G), fX11_mean a1 gc = some (v, gc1) ∧ fX12_mean a1 gr = some (v, gr1) ∧ Sm t gc gr gc1 gr1 := by
  have hS := Sm.same h hi
  obtain ⟨-, ⟨n, hn, en⟩, -⟩ := hi.cnt
  have ec : am_I gc 1 14 = nI n := (h.at (ra := 2) (rk := 1) (by decide +kernel)).trans en
  have et : am_I (thr gr) 2 1 = nI n := en
  have L : (0 : Int64) = (0 : Int32).toInt64 ∧ (7 : Int64) = (7 : Int32).toInt64 := ⟨rfl, rfl⟩
  by_cases hs : 0 ≤ a1 ∧ a1 ≤ 7
  · obtain ⟨m, hm, rfl⟩ := nn_rng (n := 7) (by decide) hs
    by_cases h5 : n = 5
    · subst h5
      refine ⟨-nI 5, refC 5 gc, refR 5 (thr gr), ?_, ?_, hS.refu (by decide)⟩
      · unfold fX11_mean
        rw [s11_within, pu_bd, if_pos hs, if_neg (by decide), ec, if_neg (by decide), show (-5 : Int32) = -nI 5 from rfl, s11_refused (by decide), pu_bd]
      · unfold fX12_mean
        rw [pu_let, L.1, L.2, s12_inI, pu_bd, if_pos hs, if_neg (by decide), pu_gd (by decide), pu_let]
        show (if am_I (thr gr) 2 1 = (5 : Int32) then _ else _) = _
        rw [et, if_pos (show nI 5 = (5 : Int32) from rfl), show (-5 : Int32) = -nI 5 from rfl, s12_tellN (by decide) (by decide), pu_bd]
        rfl
    · have hn5 : n < 5 := by omega
      have S1 := hS.w (om_say n hn5) (x := nI m) (okAt_of (n := 7) (by omega) (by unfold okLo; rw [if_neg (by omega), if_neg (by omega)]) (by unfold okHi; (repeat rw [if_neg (by omega)]); rw [if_pos (by omega)]; rfl) hm (by decide)) (by omega) (by unfold npk; omega)
      have S2 := (S1.w (J := 1) (ca := 1) (ck := 14) (by decide +kernel) (x := nI (n + 1)) (okAt_of (n := 5) (by decide) rfl rfl (by omega) (by decide)) (by decide) (by unfold npk; omega)).acc
      refine ⟨nI (n + 1), _, _, ?_, ?_, S2⟩
      · unfold fX11_mean
        have q1 : am_I (am_si gc 17 n (nI m)) 1 14 = nI n := by rw [pI_si_ne _ _ _ (by decide)]; exact ec
        rw [s11_within, pu_bd, if_pos hs, if_neg (by decide), ec, if_pos (show nI n < (5 : Int32) from nI_lt (b := 5) hn5 (by decide)), pu_gd (nn_in hn5 (by decide)), nI_clamp (by omega), pu_let, pu_let, q1, nI_1, s11_accepted, pu_bd, pI_si, if_pos ⟨rfl, rfl⟩]
      · unfold fX12_mean
        have q1 : am_I (am_si (thr gr) 2 (206 + n) (nI m)) 2 1 = nI n := by rw [pI_si, if_neg (by omega)]; exact et
        rw [pu_let, L.1, L.2, s12_inI, pu_bd, if_pos hs, if_neg (by decide), pu_gd (by decide), pu_let]
        show (if am_I (thr gr) 2 1 = (5 : Int32) then _ else _) = _
        rw [et, if_neg (show ¬ nI n = (5 : Int32) from fun z => h5 ((nn_eq (b := 5) (by omega) (by decide)).mp z)), show (206 : Int32) + am_I (am_si gr 0 0 0) 2 (1 : Int32).toNatClampNeg = nI (206 + n) from by rw [show am_I (am_si gr 0 0 0) 2 (1 : Int32).toNatClampNeg = nI n from et]; exact nI_add 206 n, pu_gd (nn_in (by omega) (by decide)), nI_clamp (by omega), pu_let, pu_gd (by decide), pu_gd (by decide), pu_let]
        show am_bd (fX12_tell (am_I (thr gr) 2 1 + 1) (am_si (am_si (thr gr) 2 (206 + n) (nI m)) 2 1 (am_I (am_si (thr gr) 2 (206 + n) (nI m)) 2 1 + 1))) _ = _
        rw [et, q1, nI_1, s12_tellP (nI_le (a := 0) (Nat.zero_le _) (by omega)), pu_bd]
  · refine ⟨-nI 1, refC 1 gc, refR 1 (thr gr), ?_, ?_, hS.refu (by decide)⟩
    · unfold fX11_mean
      rw [s11_within, pu_bd, if_neg hs, if_pos rfl, show (-1 : Int32) = -nI 1 from rfl, s11_refused (by decide), pu_bd]
    · unfold fX12_mean
      rw [pu_let, L.1, L.2, s12_inI, pu_bd, if_neg hs, if_pos rfl, show (-1 : Int32) = -nI 1 from rfl, s12_tellN (by decide) (by decide), pu_bd]
      rfl
