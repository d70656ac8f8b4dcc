/-! ===== back ===== -/
theorem TxtR.cgB {ρ ρ' : Row} {b : Nat} {L : pLw} (h : TxtR ρ b L) (e : ∀ k, b ≤ k → k < b + 900 → ρ' k = ρ k) : TxtR ρ' b L := by
  obtain ⟨h1, h2, h3, o, r, nc, h4, h5, h6⟩ := h
  refine ⟨h1, by rw [e _ (by omega) (by omega)]; exact h2, h3, o, r, nc, h4, fun i hi => by rw [e _ (by omega) (by omega), e _ (by omega) (by omega)]; exact h5 i hi, fun i hi => ?_⟩
  rw [e (b + 2 + 8 * i) (by omega) (by omega), e (b + 2 + 8 * i + 3) (by omega) (by omega), e (b + 2 + 8 * i + 4) (by omega) (by omega), e (b + 2 + 8 * i + 5) (by omega) (by omega), e (b + 2 + 8 * i + 6) (by omega) (by omega)]
  exact h6 i hi
theorem LwsR.cgB {own : Nat → Nat} {g : am_G} {la n : Nat} {ρ ρ' : Row} (hL : LwsR own g la ρ n) (hn : n ≤ 6) (hρ : ∀ k, 260 ≤ k → k < 5660 → ρ' k = ρ k) : LwsR own g la ρ' n := by
  refine ⟨fun l hl => ?_, hL.2⟩
  obtain ⟨p, L, h1, h2, h3, h4⟩ := hL.1 l hl
  exact ⟨p, L, h1, h2, h3, h4.cgB (fun k h1 h2 => hρ k (by omega) (by omega))⟩
theorem backL {k : Nat} (hk : k < 2) : ∀ (d i n : Nat) (g : am_G), i + d = 5660 → d < n → fX12_back_L39 (nI k) n (nI i) g = some (nI 0, accR (am_si (am_sr g 2 (fun j => if i ≤ j ∧ j < 5660 then am_I g 3 (5660 * k + j) else am_I g 2 j)) 0 8 (nI 0)))
  | 0, i, n, g, hd, hn => by
    obtain ⟨n, rfl⟩ : ∃ m, n = m + 1 := ⟨n - 1, by omega⟩
    obtain rfl : i = 5660 := by omega
    have e : (fun j => if 5660 ≤ j ∧ j < 5660 then am_I g 3 (5660 * k + j) else am_I g 2 j) = am_I g 2 := by
      funext j
      rw [if_neg (by omega)]
    rw [e, sr_self, fX12_back_L39]
    simp (disch := first | omega | assumption | decide) only [↓pv_let, ↓pv_jn, ↓reduceIte, pv_bd, ↓pv_ocs, ↓pv_ocn, pv_gdt, pe_gd, pe_clamp, pt_eq, pf_eq, pt_le, pf_le, pt_lt, pf_lt, nI_add, nn_mul, pe_sub, pb_0, pb_1, pb_z, pe_ieq, pe_ine, pe_ik, pP_si, pS_si, pn_si, ps_si, pL_si, decide_true, ofNat_nI, pe_srI, pe_srN, pe_srS, pe_srP, not_true_eq_false, not_false_eq_true, true_and, and_true, and_self, false_and, and_false, nI_m1, nI_ms, Nat.add_sub_cancel, pl_0, pl_1, pl_2, pl_3, pl_4, pl_5, pl_6, pl_7, pl_8, pl_9, pl_10, pl_11, pl_12, pl_13, pl_14, pl_15, pl_16, pl_17, pl_18, pl_19, pl_20, pl_21, pl_22, pl_23, pl_24, pl_25, pl_26, pl_27, pl_28, pl_29, pl_30, pl_31, pl_32, pl_34, pl_36, pl_37, pl_40, pl_41, pl_42, pl_43, pl_45, pl_47, pl_48, pl_50, pl_57, pl_59, pl_60, pl_61, pl_62, pl_64, pl_70, pl_91, pl_93, pl_97, pl_98, pl_99, pl_100, pl_106, pl_122, pl_128, pl_136, pl_142, pl_165, pl_168, pl_170, pl_171, pl_173, pl_175, pl_187, pl_188, pl_189, pl_190, pl_206, pl_211, pl_219, pl_229, pl_255, pl_260, pl_400, pl_500, pl_512, pl_900, pl_999, pl_1000, pl_1001, pl_1005, pl_1020, pl_1023, pl_1024, pl_1103, pl_2000, pl_2040, pl_2176, pl_5660, pl_9999, pl_12345, pl_1000000, pl_1000003, pl_100000000, pl_1000000000, pz_0, pz_1, pz_t, q12_tellP]
  | d + 1, i, n, g, hd, hn => by
    obtain ⟨n, rfl⟩ : ∃ m, n = m + 1 := ⟨n - 1, by omega⟩
    have IH := backL hk d (i + 1) n (am_si g 2 i (am_I g 3 (5660 * k + i))) (by omega) (by omega)
    have e : am_sr (am_si g 2 i (am_I g 3 (5660 * k + i))) 2 (fun j => if i + 1 ≤ j ∧ j < 5660 then am_I (am_si g 2 i (am_I g 3 (5660 * k + i))) 3 (5660 * k + j) else am_I (am_si g 2 i (am_I g 3 (5660 * k + i))) 2 j) = am_sr g 2 (fun j => if i ≤ j ∧ j < 5660 then am_I g 3 (5660 * k + j) else am_I g 2 j) := by
      show am_sr (am_sr g 2 _) 2 _ = _
      rw [sr_sr]
      congr 1
      funext j
      rw [pI_si_ne _ _ _ (show 3 ≠ 2 by decide), pI_si_row]
      by_cases h : j = i
      · subst h
        rw [if_neg (by omega), am_up_eq, if_pos (by omega)]
      · rw [am_up_ne h]
        by_cases h2 : i + 1 ≤ j ∧ j < 5660
        · rw [if_pos h2, if_pos (by omega)]
        · rw [if_neg h2, if_neg (by omega)]
    rw [e] at IH
    rw [← IH, fX12_back_L39]
    simp (disch := first | omega | assumption | decide) only [↓pv_let, ↓pv_jn, ↓reduceIte, pv_bd, ↓pv_ocs, ↓pv_ocn, pv_gdt, pe_gd, pe_clamp, pt_eq, pf_eq, pt_le, pf_le, pt_lt, pf_lt, nI_add, nn_mul, pe_sub, pb_0, pb_1, pb_z, pe_ieq, pe_ine, pe_ik, pP_si, pS_si, pn_si, ps_si, pL_si, decide_true, ofNat_nI, pe_srI, pe_srN, pe_srS, pe_srP, not_true_eq_false, not_false_eq_true, true_and, and_true, and_self, false_and, and_false, nI_m1, nI_ms, Nat.add_sub_cancel, pl_0, pl_1, pl_2, pl_3, pl_4, pl_5, pl_6, pl_7, pl_8, pl_9, pl_10, pl_11, pl_12, pl_13, pl_14, pl_15, pl_16, pl_17, pl_18, pl_19, pl_20, pl_21, pl_22, pl_23, pl_24, pl_25, pl_26, pl_27, pl_28, pl_29, pl_30, pl_31, pl_32, pl_34, pl_36, pl_37, pl_40, pl_41, pl_42, pl_43, pl_45, pl_47, pl_48, pl_50, pl_57, pl_59, pl_60, pl_61, pl_62, pl_64, pl_70, pl_91, pl_93, pl_97, pl_98, pl_99, pl_100, pl_106, pl_122, pl_128, pl_136, pl_142, pl_165, pl_168, pl_170, pl_171, pl_173, pl_175, pl_187, pl_188, pl_189, pl_190, pl_206, pl_211, pl_219, pl_229, pl_255, pl_260, pl_400, pl_500, pl_512, pl_900, pl_999, pl_1000, pl_1001, pl_1005, pl_1020, pl_1023, pl_1024, pl_1103, pl_2000, pl_2040, pl_2176, pl_5660, pl_9999, pl_12345, pl_1000000, pl_1000003, pl_100000000, pl_1000000000, pz_0, pz_1, pz_t]
