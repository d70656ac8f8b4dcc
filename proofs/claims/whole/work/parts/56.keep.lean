/-! ===== keeping for undo ===== -/
theorem md16 {x : Nat} (h : x < 16) : nI (x + 1) - nI (x + 1) / nI 16 * nI 16 = nI ((x + 1) % 16) := by
  have key : ∀ x, x < 16 → nI (x + 1) - nI (x + 1) / nI 16 * nI 16 = nI ((x + 1) % 16) := by decide +kernel
  exact key x h
theorem mn16 {k : Nat} (h : k ≤ 16) : am_min (nI 16) (nI (k + 1)) = nI (min 16 (k + 1)) := by
  have key : ∀ k, k < 17 → am_min (nI 16) (nI (k + 1)) = nI (min 16 (k + 1)) := by decide +kernel
  exact key k (by omega)
/-- the copy and the numbers of a keeping -/
def kpT (g : am_G) (p5 p x k kd : Nat) : am_G := am_si (am_si (am_si (cpk g p5 p) 28 x (nI kd)) 26 2 (nI ((x + 1) % 16))) 26 3 (nI (min 16 (k + 1)))
theorem q8_keepS {g : am_G} {p5 kd x k : Nat} (hx : x < 16) (hk : k ≤ 16) (e : am_I g 26 2 = nI x) (ek : am_I g 26 3 = nI k) (hP : PkS g 2) (h5 : am_P g 27 x = some p5) (hP5 : PkS g p5) (h79 : 79 ≤ p5) : fX8_keep 2 (nI kd) g = some ((), kpT g p5 2 x k kd) := by
  have c := q2_copyFrom hP5 hP (by omega)
  have f := cpk_fr g p5 2
  have e2 : am_I (cpk g p5 2) 26 2 = nI x := by rw [f.2 26 (by omega)]; exact e
  have e3 : am_I (cpk g p5 2) 26 3 = nI k := by rw [f.2 26 (by omega)]; exact ek
  have h0 := hP5.1
  unfold fX8_keep kpT
  simp (disch := first | omega | assumption | decide) only [↓pv_let, ↓pv_jn, ↓reduceIte, pv_bd, ↓pv_ocs, ↓pv_ocn, pv_gdt, pe_gd, pe_clamp, pt_eq, pf_eq, pt_le, pf_le, pt_lt, pf_lt, nI_add, nn_mul, pe_sub, pb_0, pb_1, pb_z, pe_ieq, pe_ine, pe_ik, pP_si, pS_si, pn_si, ps_si, pL_si, decide_true, ofNat_nI, pe_srI, pe_srN, pe_srS, pe_srP, not_true_eq_false, not_false_eq_true, true_and, and_true, and_self, false_and, and_false, nI_m1, nI_ms, Nat.add_sub_cancel, pl_0, pl_1, pl_2, pl_3, pl_4, pl_5, pl_6, pl_7, pl_8, pl_9, pl_10, pl_11, pl_12, pl_13, pl_14, pl_15, pl_16, pl_17, pl_18, pl_19, pl_20, pl_21, pl_22, pl_23, pl_24, pl_25, pl_26, pl_27, pl_28, pl_29, pl_30, pl_31, pl_32, pl_34, pl_36, pl_37, pl_40, pl_41, pl_42, pl_43, pl_45, pl_47, pl_48, pl_50, pl_57, pl_59, pl_60, pl_61, pl_62, pl_64, pl_70, pl_91, pl_93, pl_97, pl_98, pl_99, pl_100, pl_106, pl_122, pl_128, pl_136, pl_142, pl_165, pl_168, pl_170, pl_171, pl_173, pl_175, pl_187, pl_188, pl_189, pl_190, pl_206, pl_211, pl_219, pl_229, pl_255, pl_260, pl_400, pl_500, pl_512, pl_900, pl_999, pl_1000, pl_1001, pl_1005, pl_1020, pl_1023, pl_1024, pl_1103, pl_2000, pl_2040, pl_2176, pl_5660, pl_9999, pl_12345, pl_1000000, pl_1000003, pl_100000000, pl_1000000000, pz_0, pz_1, pz_t, e, h5, h0, c, e2, e3, md16, mn16]
theorem q8_keepN {g : am_G} {kd x k : Nat} (hx : x < 16) (hk : k ≤ 16) (e : am_I g 26 2 = nI x) (ek : am_I g 26 3 = nI k) (hP : PkS g 2) (h5 : am_P g 27 x = none) (hn : 79 ≤ am_n g) : ∃ h, fX8_keep 2 (nI kd) g = some ((), kpT h (am_n g) 2 x k kd) ∧ am_n h = am_n g + 6 ∧ am_s h = am_s g + 98 ∧ PkS h (am_n g) ∧ (∀ a, a < am_n g → am_S h a = am_S g a ∧ am_I h a = am_I g a) ∧ (∀ a, a < am_n g → a ≠ 27 → am_P h a = am_P g a) ∧ am_P h 27 = am_up (am_P g 27) x (some (am_n g)) := by
  obtain ⟨g18, q1, q2, q3, q4, q5⟩ := q2_init (g := g) rfl hn
  have nP : ∀ a, a ≠ 27 → am_P (am_sp g18 27 x (some (am_n g))) a = am_P g18 a := fun a ha => pP_spn ha
  have hP5 : PkS (am_sp g18 27 x (some (am_n g))) (am_n g) := by
    obtain ⟨h0, h1, h2, h3, h4, h5, s1, s2, s3, s4, s5⟩ := q4
    exact ⟨h0, by rw [nP _ (by omega)]; exact h1, by rw [nP _ (by omega)]; exact h2, by rw [nP _ (by omega)]; exact h3, by rw [nP _ (by omega)]; exact h4, by rw [nP _ (by omega)]; exact h5, s1, s2, s3, s4, s5⟩
  have hP2 : PkS (am_sp g18 27 x (some (am_n g))) 2 := by
    obtain ⟨h0, h1, h2, h3, h4, h5', s1, s2, s3, s4, s5⟩ := hP
    refine ⟨?_, ?_, ?_, ?_, ?_, ?_, ?_, ?_, ?_, ?_, ?_⟩
    · rw [pS_sp, (q5 _ (by omega)).1]; exact h0
    · rw [nP _ (by omega), (q5 _ (by omega)).2.1]; exact h1
    · rw [nP _ (by omega), (q5 _ (by omega)).2.1]; exact h2
    · rw [nP _ (by omega), (q5 _ (by omega)).2.1]; exact h3
    · rw [nP _ (by omega), (q5 _ (by omega)).2.1]; exact h4
    · rw [nP _ (by omega), (q5 _ (by omega)).2.1]; exact h5'
    · rw [pS_sp, (q5 _ (by omega)).1]; exact s1
    · rw [pS_sp, (q5 _ (by omega)).1]; exact s2
    · rw [pS_sp, (q5 _ (by omega)).1]; exact s3
    · rw [pS_sp, (q5 _ (by omega)).1]; exact s4
    · rw [pS_sp, (q5 _ (by omega)).1]; exact s5
  have c := q2_copyFrom hP5 hP2 (by omega)
  have f := cpk_fr (am_sp g18 27 x (some (am_n g))) (am_n g) 2
  have e0 : am_I g18 26 2 = nI x := by rw [(q5 _ (by omega)).2.2]; exact e
  have e2 : am_I (cpk (am_sp g18 27 x (some (am_n g))) (am_n g) 2) 26 2 = nI x := by rw [f.2 26 (by omega)]; exact e0
  have e3 : am_I (cpk (am_sp g18 27 x (some (am_n g))) (am_n g) 2) 26 3 = nI k := by rw [f.2 26 (by omega), pI_sp, (q5 _ (by omega)).2.2]; exact ek
  have h0 := q4.1
  refine ⟨am_sp g18 27 x (some (am_n g)), ?_, q2, q3, hP5, fun a ha => ⟨(q5 a ha).1, (q5 a ha).2.2⟩, fun a ha hne => by rw [nP a hne]; exact (q5 a ha).2.1, ?_⟩
  · unfold fX8_keep kpT
    simp (disch := first | omega | assumption | decide) only [↓pv_let, ↓pv_jn, ↓reduceIte, pv_bd, ↓pv_ocs, ↓pv_ocn, pv_gdt, pe_gd, pe_clamp, pt_eq, pf_eq, pt_le, pf_le, pt_lt, pf_lt, nI_add, nn_mul, pe_sub, pb_0, pb_1, pb_z, pe_ieq, pe_ine, pe_ik, pP_si, pS_si, pn_si, ps_si, pL_si, decide_true, ofNat_nI, pe_srI, pe_srN, pe_srS, pe_srP, not_true_eq_false, not_false_eq_true, true_and, and_true, and_self, false_and, and_false, nI_m1, nI_ms, Nat.add_sub_cancel, pl_0, pl_1, pl_2, pl_3, pl_4, pl_5, pl_6, pl_7, pl_8, pl_9, pl_10, pl_11, pl_12, pl_13, pl_14, pl_15, pl_16, pl_17, pl_18, pl_19, pl_20, pl_21, pl_22, pl_23, pl_24, pl_25, pl_26, pl_27, pl_28, pl_29, pl_30, pl_31, pl_32, pl_34, pl_36, pl_37, pl_40, pl_41, pl_42, pl_43, pl_45, pl_47, pl_48, pl_50, pl_57, pl_59, pl_60, pl_61, pl_62, pl_64, pl_70, pl_91, pl_93, pl_97, pl_98, pl_99, pl_100, pl_106, pl_122, pl_128, pl_136, pl_142, pl_165, pl_168, pl_170, pl_171, pl_173, pl_175, pl_187, pl_188, pl_189, pl_190, pl_206, pl_211, pl_219, pl_229, pl_255, pl_260, pl_400, pl_500, pl_512, pl_900, pl_999, pl_1000, pl_1001, pl_1005, pl_1020, pl_1023, pl_1024, pl_1103, pl_2000, pl_2040, pl_2176, pl_5660, pl_9999, pl_12345, pl_1000000, pl_1000003, pl_100000000, pl_1000000000, pz_0, pz_1, pz_t, e, h5, q1, h0, pI_sp, e0, pP_spe, pS_sp, c, e2, e3, md16, mn16]
  · funext j
    by_cases h : j = x
    · subst h; rw [pP_spe, am_up_eq]
    · rw [pP_spk h, am_up_ne h, (q5 27 (by omega)).2.1]
/-! remember in the reference -/
theorem keepAllL {k : Nat} (hk : k < 21) : ∀ (d i n : Nat) (g : am_G), i + d = 136 → d < n → fX12_keepAll_L2 (nI k) n (nI i) g = some ((), am_sr g 5 (fun j => if 136 * k + i ≤ j ∧ j < 136 * k + 136 then am_I g 2 (6 + (j - 136 * k)) else am_I g 5 j))
  | 0, i, n, g, hd, hn => by
    obtain ⟨n, rfl⟩ : ∃ n', n = n' + 1 := ⟨n - 1, by omega⟩
    obtain rfl : i = 136 := by omega
    have e : (fun j => if 136 * k + 136 ≤ j ∧ j < 136 * k + 136 then am_I g 2 (6 + (j - 136 * k)) else am_I g 5 j) = am_I g 5 := by
      funext j
      rw [if_neg (by omega)]
    rw [e, sr_self, fX12_keepAll_L2]
    simp (disch := first | omega | assumption | decide) only [↓pv_let, ↓pv_jn, ↓reduceIte, pv_bd, ↓pv_ocs, ↓pv_ocn, pv_gdt, pe_gd, pe_clamp, pt_eq, pf_eq, pt_le, pf_le, pt_lt, pf_lt, nI_add, nn_mul, pe_sub, pb_0, pb_1, pb_z, pe_ieq, pe_ine, pe_ik, pP_si, pS_si, pn_si, ps_si, pL_si, decide_true, ofNat_nI, pe_srI, pe_srN, pe_srS, pe_srP, not_true_eq_false, not_false_eq_true, true_and, and_true, and_self, false_and, and_false, nI_m1, nI_ms, Nat.add_sub_cancel, pl_0, pl_1, pl_2, pl_3, pl_4, pl_5, pl_6, pl_7, pl_8, pl_9, pl_10, pl_11, pl_12, pl_13, pl_14, pl_15, pl_16, pl_17, pl_18, pl_19, pl_20, pl_21, pl_22, pl_23, pl_24, pl_25, pl_26, pl_27, pl_28, pl_29, pl_30, pl_31, pl_32, pl_34, pl_36, pl_37, pl_40, pl_41, pl_42, pl_43, pl_45, pl_47, pl_48, pl_50, pl_57, pl_59, pl_60, pl_61, pl_62, pl_64, pl_70, pl_91, pl_93, pl_97, pl_98, pl_99, pl_100, pl_106, pl_122, pl_128, pl_136, pl_142, pl_165, pl_168, pl_170, pl_171, pl_173, pl_175, pl_187, pl_188, pl_189, pl_190, pl_206, pl_211, pl_219, pl_229, pl_255, pl_260, pl_400, pl_500, pl_512, pl_900, pl_999, pl_1000, pl_1001, pl_1005, pl_1020, pl_1023, pl_1024, pl_1103, pl_2000, pl_2040, pl_2176, pl_5660, pl_9999, pl_12345, pl_1000000, pl_1000003, pl_100000000, pl_1000000000, pz_0, pz_1, pz_t]
  | d + 1, i, n, g, hd, hn => by
    obtain ⟨n, rfl⟩ : ∃ n', n = n' + 1 := ⟨n - 1, by omega⟩
    have IH := keepAllL hk d (i + 1) n (am_si g 5 (136 * k + i) (am_I g 2 (6 + i))) (by omega) (by omega)
    rw [fX12_keepAll_L2]
    simp (disch := first | omega | assumption | decide) only [↓pv_let, ↓pv_jn, ↓reduceIte, pv_bd, ↓pv_ocs, ↓pv_ocn, pv_gdt, pe_gd, pe_clamp, pt_eq, pf_eq, pt_le, pf_le, pt_lt, pf_lt, nI_add, nn_mul, pe_sub, pb_0, pb_1, pb_z, pe_ieq, pe_ine, pe_ik, pP_si, pS_si, pn_si, ps_si, pL_si, decide_true, ofNat_nI, pe_srI, pe_srN, pe_srS, pe_srP, not_true_eq_false, not_false_eq_true, true_and, and_true, and_self, false_and, and_false, nI_m1, nI_ms, Nat.add_sub_cancel, pl_0, pl_1, pl_2, pl_3, pl_4, pl_5, pl_6, pl_7, pl_8, pl_9, pl_10, pl_11, pl_12, pl_13, pl_14, pl_15, pl_16, pl_17, pl_18, pl_19, pl_20, pl_21, pl_22, pl_23, pl_24, pl_25, pl_26, pl_27, pl_28, pl_29, pl_30, pl_31, pl_32, pl_34, pl_36, pl_37, pl_40, pl_41, pl_42, pl_43, pl_45, pl_47, pl_48, pl_50, pl_57, pl_59, pl_60, pl_61, pl_62, pl_64, pl_70, pl_91, pl_93, pl_97, pl_98, pl_99, pl_100, pl_106, pl_122, pl_128, pl_136, pl_142, pl_165, pl_168, pl_170, pl_171, pl_173, pl_175, pl_187, pl_188, pl_189, pl_190, pl_206, pl_211, pl_219, pl_229, pl_255, pl_260, pl_400, pl_500, pl_512, pl_900, pl_999, pl_1000, pl_1001, pl_1005, pl_1020, pl_1023, pl_1024, pl_1103, pl_2000, pl_2040, pl_2176, pl_5660, pl_9999, pl_12345, pl_1000000, pl_1000003, pl_100000000, pl_1000000000, pz_0, pz_1, pz_t]
    rw [IH]
    have e : am_sr (am_si g 5 (136 * k + i) (am_I g 2 (6 + i))) 5 (fun j => if 136 * k + (i + 1) ≤ j ∧ j < 136 * k + 136 then am_I (am_si g 5 (136 * k + i) (am_I g 2 (6 + i))) 2 (6 + (j - 136 * k)) else am_I (am_si g 5 (136 * k + i) (am_I g 2 (6 + i))) 5 j) = am_sr g 5 (fun j => if 136 * k + i ≤ j ∧ j < 136 * k + 136 then am_I g 2 (6 + (j - 136 * k)) else am_I g 5 j) := by
      show am_sr (am_sr g 5 _) 5 _ = _
      rw [sr_sr]
      congr 1
      funext j
      rw [pI_si_ne _ _ _ (show 2 ≠ 5 by decide), pI_si_row]
      by_cases h : j = 136 * k + i
      · subst h
        rw [if_neg (by omega), am_up_eq, if_pos (by omega)]
        congr 1
        omega
      · rw [am_up_ne h]
        by_cases h2 : 136 * k + (i + 1) ≤ j ∧ j < 136 * k + 136
        · rw [if_pos h2, if_pos (by omega)]
        · rw [if_neg h2, if_neg (by omega)]
    rw [e]
theorem q12_keepAll {k : Nat} (hk : k < 21) (g : am_G) : fX12_keepAll (nI k) g = some ((), am_sr g 5 (fun j => if 136 * k ≤ j ∧ j < 136 * k + 136 then am_I g 2 (6 + (j - 136 * k)) else am_I g 5 j)) := keepAllL hk 136 0 am_fu g rfl (by decide)
theorem putBackL {k : Nat} (hk : k < 21) : ∀ (d i n : Nat) (g : am_G), i + d = 136 → d < n → fX12_putBack_L2 (nI k) n (nI i) g = some ((), am_sr g 2 (fun j => if 6 + i ≤ j ∧ j < 142 then am_I g 5 (136 * k + (j - 6)) else am_I g 2 j))
  | 0, i, n, g, hd, hn => by
    obtain ⟨n, rfl⟩ : ∃ n', n = n' + 1 := ⟨n - 1, by omega⟩
    obtain rfl : i = 136 := by omega
    have e : (fun j => if 6 + 136 ≤ j ∧ j < 142 then am_I g 5 (136 * k + (j - 6)) else am_I g 2 j) = am_I g 2 := by
      funext j
      rw [if_neg (by omega)]
    rw [e, sr_self, fX12_putBack_L2]
    simp (disch := first | omega | assumption | decide) only [↓pv_let, ↓pv_jn, ↓reduceIte, pv_bd, ↓pv_ocs, ↓pv_ocn, pv_gdt, pe_gd, pe_clamp, pt_eq, pf_eq, pt_le, pf_le, pt_lt, pf_lt, nI_add, nn_mul, pe_sub, pb_0, pb_1, pb_z, pe_ieq, pe_ine, pe_ik, pP_si, pS_si, pn_si, ps_si, pL_si, decide_true, ofNat_nI, pe_srI, pe_srN, pe_srS, pe_srP, not_true_eq_false, not_false_eq_true, true_and, and_true, and_self, false_and, and_false, nI_m1, nI_ms, Nat.add_sub_cancel, pl_0, pl_1, pl_2, pl_3, pl_4, pl_5, pl_6, pl_7, pl_8, pl_9, pl_10, pl_11, pl_12, pl_13, pl_14, pl_15, pl_16, pl_17, pl_18, pl_19, pl_20, pl_21, pl_22, pl_23, pl_24, pl_25, pl_26, pl_27, pl_28, pl_29, pl_30, pl_31, pl_32, pl_34, pl_36, pl_37, pl_40, pl_41, pl_42, pl_43, pl_45, pl_47, pl_48, pl_50, pl_57, pl_59, pl_60, pl_61, pl_62, pl_64, pl_70, pl_91, pl_93, pl_97, pl_98, pl_99, pl_100, pl_106, pl_122, pl_128, pl_136, pl_142, pl_165, pl_168, pl_170, pl_171, pl_173, pl_175, pl_187, pl_188, pl_189, pl_190, pl_206, pl_211, pl_219, pl_229, pl_255, pl_260, pl_400, pl_500, pl_512, pl_900, pl_999, pl_1000, pl_1001, pl_1005, pl_1020, pl_1023, pl_1024, pl_1103, pl_2000, pl_2040, pl_2176, pl_5660, pl_9999, pl_12345, pl_1000000, pl_1000003, pl_100000000, pl_1000000000, pz_0, pz_1, pz_t]
  | d + 1, i, n, g, hd, hn => by
    obtain ⟨n, rfl⟩ : ∃ n', n = n' + 1 := ⟨n - 1, by omega⟩
    have IH := putBackL hk d (i + 1) n (am_si g 2 (6 + i) (am_I g 5 (136 * k + i))) (by omega) (by omega)
    rw [fX12_putBack_L2]
    simp (disch := first | omega | assumption | decide) only [↓pv_let, ↓pv_jn, ↓reduceIte, pv_bd, ↓pv_ocs, ↓pv_ocn, pv_gdt, pe_gd, pe_clamp, pt_eq, pf_eq, pt_le, pf_le, pt_lt, pf_lt, nI_add, nn_mul, pe_sub, pb_0, pb_1, pb_z, pe_ieq, pe_ine, pe_ik, pP_si, pS_si, pn_si, ps_si, pL_si, decide_true, ofNat_nI, pe_srI, pe_srN, pe_srS, pe_srP, not_true_eq_false, not_false_eq_true, true_and, and_true, and_self, false_and, and_false, nI_m1, nI_ms, Nat.add_sub_cancel, pl_0, pl_1, pl_2, pl_3, pl_4, pl_5, pl_6, pl_7, pl_8, pl_9, pl_10, pl_11, pl_12, pl_13, pl_14, pl_15, pl_16, pl_17, pl_18, pl_19, pl_20, pl_21, pl_22, pl_23, pl_24, pl_25, pl_26, pl_27, pl_28, pl_29, pl_30, pl_31, pl_32, pl_34, pl_36, pl_37, pl_40, pl_41, pl_42, pl_43, pl_45, pl_47, pl_48, pl_50, pl_57, pl_59, pl_60, pl_61, pl_62, pl_64, pl_70, pl_91, pl_93, pl_97, pl_98, pl_99, pl_100, pl_106, pl_122, pl_128, pl_136, pl_142, pl_165, pl_168, pl_170, pl_171, pl_173, pl_175, pl_187, pl_188, pl_189, pl_190, pl_206, pl_211, pl_219, pl_229, pl_255, pl_260, pl_400, pl_500, pl_512, pl_900, pl_999, pl_1000, pl_1001, pl_1005, pl_1020, pl_1023, pl_1024, pl_1103, pl_2000, pl_2040, pl_2176, pl_5660, pl_9999, pl_12345, pl_1000000, pl_1000003, pl_100000000, pl_1000000000, pz_0, pz_1, pz_t]
    rw [IH]
    have e : am_sr (am_si g 2 (6 + i) (am_I g 5 (136 * k + i))) 2 (fun j => if 6 + (i + 1) ≤ j ∧ j < 142 then am_I (am_si g 2 (6 + i) (am_I g 5 (136 * k + i))) 5 (136 * k + (j - 6)) else am_I (am_si g 2 (6 + i) (am_I g 5 (136 * k + i))) 2 j) = am_sr g 2 (fun j => if 6 + i ≤ j ∧ j < 142 then am_I g 5 (136 * k + (j - 6)) else am_I g 2 j) := by
      show am_sr (am_sr g 2 _) 2 _ = _
      rw [sr_sr]
      congr 1
      funext j
      rw [pI_si_ne _ _ _ (show 5 ≠ 2 by decide), pI_si_row]
      by_cases h : j = 6 + i
      · subst h
        rw [if_neg (by omega), am_up_eq, if_pos (by omega)]
        congr 1
        omega
      · rw [am_up_ne h]
        by_cases h2 : 6 + (i + 1) ≤ j ∧ j < 142
        · rw [if_pos h2, if_pos (by omega)]
        · rw [if_neg h2, if_neg (by omega)]
    rw [e]
theorem q12_putBack {k : Nat} (hk : k < 21) (g : am_G) : fX12_putBack (nI k) g = some ((), am_sr g 2 (fun j => if 6 ≤ j ∧ j < 142 then am_I g 5 (136 * k + (j - 6)) else am_I g 2 j)) := putBackL hk 136 0 am_fu g rfl (by decide)
theorem remL1 {kk : am_G → Option (Unit × am_G)} {a1 : Int32} : ∀ (d i n : Nat) (g : am_G), i + d = 2040 → d < n → fX12_remember_L11 kk a1 n (nI i) g = kk (am_sr g 5 (fun j => if i ≤ j ∧ j < 2040 then am_I g 5 (j + 136) else am_I g 5 j))
  | 0, i, n, g, hd, hn => by
    obtain ⟨n, rfl⟩ : ∃ n', n = n' + 1 := ⟨n - 1, by omega⟩
    obtain rfl : i = 2040 := by omega
    have e : (fun j => if 2040 ≤ j ∧ j < 2040 then am_I g 5 (j + 136) else am_I g 5 j) = am_I g 5 := by
      funext j
      rw [if_neg (by omega)]
    rw [e, sr_self, fX12_remember_L11]
    simp (disch := first | omega | assumption | decide) only [↓pv_let, ↓pv_jn, ↓reduceIte, pv_bd, ↓pv_ocs, ↓pv_ocn, pv_gdt, pe_gd, pe_clamp, pt_eq, pf_eq, pt_le, pf_le, pt_lt, pf_lt, nI_add, nn_mul, pe_sub, pb_0, pb_1, pb_z, pe_ieq, pe_ine, pe_ik, pP_si, pS_si, pn_si, ps_si, pL_si, decide_true, ofNat_nI, pe_srI, pe_srN, pe_srS, pe_srP, not_true_eq_false, not_false_eq_true, true_and, and_true, and_self, false_and, and_false, nI_m1, nI_ms, Nat.add_sub_cancel, pl_0, pl_1, pl_2, pl_3, pl_4, pl_5, pl_6, pl_7, pl_8, pl_9, pl_10, pl_11, pl_12, pl_13, pl_14, pl_15, pl_16, pl_17, pl_18, pl_19, pl_20, pl_21, pl_22, pl_23, pl_24, pl_25, pl_26, pl_27, pl_28, pl_29, pl_30, pl_31, pl_32, pl_34, pl_36, pl_37, pl_40, pl_41, pl_42, pl_43, pl_45, pl_47, pl_48, pl_50, pl_57, pl_59, pl_60, pl_61, pl_62, pl_64, pl_70, pl_91, pl_93, pl_97, pl_98, pl_99, pl_100, pl_106, pl_122, pl_128, pl_136, pl_142, pl_165, pl_168, pl_170, pl_171, pl_173, pl_175, pl_187, pl_188, pl_189, pl_190, pl_206, pl_211, pl_219, pl_229, pl_255, pl_260, pl_400, pl_500, pl_512, pl_900, pl_999, pl_1000, pl_1001, pl_1005, pl_1020, pl_1023, pl_1024, pl_1103, pl_2000, pl_2040, pl_2176, pl_5660, pl_9999, pl_12345, pl_1000000, pl_1000003, pl_100000000, pl_1000000000, pz_0, pz_1, pz_t]
  | d + 1, i, n, g, hd, hn => by
    obtain ⟨n, rfl⟩ : ∃ n', n = n' + 1 := ⟨n - 1, by omega⟩
    have IH := remL1 (kk := kk) (a1 := a1) d (i + 1) n (am_si g 5 i (am_I g 5 (i + 136))) (by omega) (by omega)
    rw [fX12_remember_L11]
    simp (disch := first | omega | assumption | decide) only [↓pv_let, ↓pv_jn, ↓reduceIte, pv_bd, ↓pv_ocs, ↓pv_ocn, pv_gdt, pe_gd, pe_clamp, pt_eq, pf_eq, pt_le, pf_le, pt_lt, pf_lt, nI_add, nn_mul, pe_sub, pb_0, pb_1, pb_z, pe_ieq, pe_ine, pe_ik, pP_si, pS_si, pn_si, ps_si, pL_si, decide_true, ofNat_nI, pe_srI, pe_srN, pe_srS, pe_srP, not_true_eq_false, not_false_eq_true, true_and, and_true, and_self, false_and, and_false, nI_m1, nI_ms, Nat.add_sub_cancel, pl_0, pl_1, pl_2, pl_3, pl_4, pl_5, pl_6, pl_7, pl_8, pl_9, pl_10, pl_11, pl_12, pl_13, pl_14, pl_15, pl_16, pl_17, pl_18, pl_19, pl_20, pl_21, pl_22, pl_23, pl_24, pl_25, pl_26, pl_27, pl_28, pl_29, pl_30, pl_31, pl_32, pl_34, pl_36, pl_37, pl_40, pl_41, pl_42, pl_43, pl_45, pl_47, pl_48, pl_50, pl_57, pl_59, pl_60, pl_61, pl_62, pl_64, pl_70, pl_91, pl_93, pl_97, pl_98, pl_99, pl_100, pl_106, pl_122, pl_128, pl_136, pl_142, pl_165, pl_168, pl_170, pl_171, pl_173, pl_175, pl_187, pl_188, pl_189, pl_190, pl_206, pl_211, pl_219, pl_229, pl_255, pl_260, pl_400, pl_500, pl_512, pl_900, pl_999, pl_1000, pl_1001, pl_1005, pl_1020, pl_1023, pl_1024, pl_1103, pl_2000, pl_2040, pl_2176, pl_5660, pl_9999, pl_12345, pl_1000000, pl_1000003, pl_100000000, pl_1000000000, pz_0, pz_1, pz_t]
    rw [IH]
    have e : am_sr (am_si g 5 i (am_I g 5 (i + 136))) 5 (fun j => if i + 1 ≤ j ∧ j < 2040 then am_I (am_si g 5 i (am_I g 5 (i + 136))) 5 (j + 136) else am_I (am_si g 5 i (am_I g 5 (i + 136))) 5 j) = am_sr g 5 (fun j => if i ≤ j ∧ j < 2040 then am_I g 5 (j + 136) else am_I g 5 j) := by
      show am_sr (am_sr g 5 _) 5 _ = _
      rw [sr_sr]
      congr 1
      funext j
      rw [pI_si_row]
      by_cases h : j = i
      · subst h
        rw [if_neg (by omega), am_up_eq, if_pos (by omega)]
      · by_cases h2 : i + 1 ≤ j ∧ j < 2040
        · rw [if_pos h2, if_pos (by omega), am_up_ne (by omega)]
        · rw [if_neg h2, if_neg (by omega), am_up_ne h]
    rw [e]
theorem remL2 {kk : am_G → Option (Unit × am_G)} {a1 : Int32} : ∀ (d i n : Nat) (g : am_G), i + d = 15 → d < n → fX12_remember_L42 kk a1 n (nI i) g = kk (am_sr g 6 (fun j => if i ≤ j ∧ j < 15 then am_I g 6 (j + 1) else am_I g 6 j))
  | 0, i, n, g, hd, hn => by
    obtain ⟨n, rfl⟩ : ∃ n', n = n' + 1 := ⟨n - 1, by omega⟩
    obtain rfl : i = 15 := by omega
    have e : (fun j => if 15 ≤ j ∧ j < 15 then am_I g 6 (j + 1) else am_I g 6 j) = am_I g 6 := by
      funext j
      rw [if_neg (by omega)]
    rw [e, sr_self, fX12_remember_L42]
    simp (disch := first | omega | assumption | decide) only [↓pv_let, ↓pv_jn, ↓reduceIte, pv_bd, ↓pv_ocs, ↓pv_ocn, pv_gdt, pe_gd, pe_clamp, pt_eq, pf_eq, pt_le, pf_le, pt_lt, pf_lt, nI_add, nn_mul, pe_sub, pb_0, pb_1, pb_z, pe_ieq, pe_ine, pe_ik, pP_si, pS_si, pn_si, ps_si, pL_si, decide_true, ofNat_nI, pe_srI, pe_srN, pe_srS, pe_srP, not_true_eq_false, not_false_eq_true, true_and, and_true, and_self, false_and, and_false, nI_m1, nI_ms, Nat.add_sub_cancel, pl_0, pl_1, pl_2, pl_3, pl_4, pl_5, pl_6, pl_7, pl_8, pl_9, pl_10, pl_11, pl_12, pl_13, pl_14, pl_15, pl_16, pl_17, pl_18, pl_19, pl_20, pl_21, pl_22, pl_23, pl_24, pl_25, pl_26, pl_27, pl_28, pl_29, pl_30, pl_31, pl_32, pl_34, pl_36, pl_37, pl_40, pl_41, pl_42, pl_43, pl_45, pl_47, pl_48, pl_50, pl_57, pl_59, pl_60, pl_61, pl_62, pl_64, pl_70, pl_91, pl_93, pl_97, pl_98, pl_99, pl_100, pl_106, pl_122, pl_128, pl_136, pl_142, pl_165, pl_168, pl_170, pl_171, pl_173, pl_175, pl_187, pl_188, pl_189, pl_190, pl_206, pl_211, pl_219, pl_229, pl_255, pl_260, pl_400, pl_500, pl_512, pl_900, pl_999, pl_1000, pl_1001, pl_1005, pl_1020, pl_1023, pl_1024, pl_1103, pl_2000, pl_2040, pl_2176, pl_5660, pl_9999, pl_12345, pl_1000000, pl_1000003, pl_100000000, pl_1000000000, pz_0, pz_1, pz_t]
  | d + 1, i, n, g, hd, hn => by
    obtain ⟨n, rfl⟩ : ∃ n', n = n' + 1 := ⟨n - 1, by omega⟩
    have IH := remL2 (kk := kk) (a1 := a1) d (i + 1) n (am_si g 6 i (am_I g 6 (i + 1))) (by omega) (by omega)
    rw [fX12_remember_L42]
    simp (disch := first | omega | assumption | decide) only [↓pv_let, ↓pv_jn, ↓reduceIte, pv_bd, ↓pv_ocs, ↓pv_ocn, pv_gdt, pe_gd, pe_clamp, pt_eq, pf_eq, pt_le, pf_le, pt_lt, pf_lt, nI_add, nn_mul, pe_sub, pb_0, pb_1, pb_z, pe_ieq, pe_ine, pe_ik, pP_si, pS_si, pn_si, ps_si, pL_si, decide_true, ofNat_nI, pe_srI, pe_srN, pe_srS, pe_srP, not_true_eq_false, not_false_eq_true, true_and, and_true, and_self, false_and, and_false, nI_m1, nI_ms, Nat.add_sub_cancel, pl_0, pl_1, pl_2, pl_3, pl_4, pl_5, pl_6, pl_7, pl_8, pl_9, pl_10, pl_11, pl_12, pl_13, pl_14, pl_15, pl_16, pl_17, pl_18, pl_19, pl_20, pl_21, pl_22, pl_23, pl_24, pl_25, pl_26, pl_27, pl_28, pl_29, pl_30, pl_31, pl_32, pl_34, pl_36, pl_37, pl_40, pl_41, pl_42, pl_43, pl_45, pl_47, pl_48, pl_50, pl_57, pl_59, pl_60, pl_61, pl_62, pl_64, pl_70, pl_91, pl_93, pl_97, pl_98, pl_99, pl_100, pl_106, pl_122, pl_128, pl_136, pl_142, pl_165, pl_168, pl_170, pl_171, pl_173, pl_175, pl_187, pl_188, pl_189, pl_190, pl_206, pl_211, pl_219, pl_229, pl_255, pl_260, pl_400, pl_500, pl_512, pl_900, pl_999, pl_1000, pl_1001, pl_1005, pl_1020, pl_1023, pl_1024, pl_1103, pl_2000, pl_2040, pl_2176, pl_5660, pl_9999, pl_12345, pl_1000000, pl_1000003, pl_100000000, pl_1000000000, pz_0, pz_1, pz_t]
    rw [IH]
    have e : am_sr (am_si g 6 i (am_I g 6 (i + 1))) 6 (fun j => if i + 1 ≤ j ∧ j < 15 then am_I (am_si g 6 i (am_I g 6 (i + 1))) 6 (j + 1) else am_I (am_si g 6 i (am_I g 6 (i + 1))) 6 j) = am_sr g 6 (fun j => if i ≤ j ∧ j < 15 then am_I g 6 (j + 1) else am_I g 6 j) := by
      show am_sr (am_sr g 6 _) 6 _ = _
      rw [sr_sr]
      congr 1
      funext j
      rw [pI_si_row]
      by_cases h : j = i
      · subst h
        rw [if_neg (by omega), am_up_eq, if_pos (by omega)]
      · by_cases h2 : i + 1 ≤ j ∧ j < 15
        · rw [if_pos h2, if_pos (by omega), am_up_ne (by omega)]
        · rw [if_neg h2, if_neg (by omega), am_up_ne h]
    rw [e]
/-- how far the rows move -/
def dl (k : Nat) : Nat := if k = 16 then 1 else 0
theorem q12_remember {g : am_G} {k kd : Nat} (hk : k ≤ 16) (ek : am_I g 0 8 = nI k) : ∃ g', fX12_remember (nI kd) g = some ((), g') ∧ g'.2 = g.2 ∧ (∀ a, a ≠ 5 → a ≠ 6 → ∀ j, ¬ (a = 0 ∧ j = 8) → am_I g' a j = am_I g a j) ∧ am_I g' 0 8 = nI (min 16 (k + 1)) ∧
    (∀ i c, i < min 16 (k + 1) → c < 136 → am_I g' 5 (136 * i + c) = if i = min 15 k then am_I g 2 (6 + c) else am_I g 5 (136 * (i + dl k) + c)) ∧ (∀ i, i < min 16 (k + 1) → am_I g' 6 i = if i = min 15 k then nI kd else am_I g 6 (i + dl k)) := by
  by_cases h16 : k = 16
  · subst h16
    have h15 : nI 16 - nI 1 = nI 15 := by decide
    have run : fX12_remember (nI kd) g = some ((), am_si (am_si (am_sr (am_si (am_sr (am_sr g 5 (fun j => if 0 ≤ j ∧ j < 2040 then am_I g 5 (j + 136) else am_I g 5 j)) 6 (fun j => if 0 ≤ j ∧ j < 15 then am_I g 6 (j + 1) else am_I g 6 j)) 0 8 (nI 15)) 5 (fun j => if 2040 ≤ j ∧ j < 2176 then am_I g 2 (6 + (j - 2040)) else (if 0 ≤ j ∧ j < 2040 then am_I g 5 (j + 136) else am_I g 5 j))) 6 15 (nI kd)) 0 8 (nI 16)) := by
      unfold fX12_remember
      have r1 := fun kk => remL1 (kk := kk) (a1 := nI kd) 2040 0 am_fu g rfl (by decide)
      have r2 := fun kk => remL2 (kk := kk) (a1 := nI kd) 15 0 am_fu (am_sr g 5 (fun j => if 0 ≤ j ∧ j < 2040 then am_I g 5 (j + 136) else am_I g 5 j)) rfl (by decide)
      simp (disch := first | omega | assumption | decide) only [↓pv_let, ↓pv_jn, ↓reduceIte, pv_bd, ↓pv_ocs, ↓pv_ocn, pv_gdt, pe_gd, pe_clamp, pt_eq, pf_eq, pt_le, pf_le, pt_lt, pf_lt, nI_add, nn_mul, pe_sub, pb_0, pb_1, pb_z, pe_ieq, pe_ine, pe_ik, pP_si, pS_si, pn_si, ps_si, pL_si, decide_true, ofNat_nI, pe_srI, pe_srN, pe_srS, pe_srP, not_true_eq_false, not_false_eq_true, true_and, and_true, and_self, false_and, and_false, nI_m1, nI_ms, Nat.add_sub_cancel, pl_0, pl_1, pl_2, pl_3, pl_4, pl_5, pl_6, pl_7, pl_8, pl_9, pl_10, pl_11, pl_12, pl_13, pl_14, pl_15, pl_16, pl_17, pl_18, pl_19, pl_20, pl_21, pl_22, pl_23, pl_24, pl_25, pl_26, pl_27, pl_28, pl_29, pl_30, pl_31, pl_32, pl_34, pl_36, pl_37, pl_40, pl_41, pl_42, pl_43, pl_45, pl_47, pl_48, pl_50, pl_57, pl_59, pl_60, pl_61, pl_62, pl_64, pl_70, pl_91, pl_93, pl_97, pl_98, pl_99, pl_100, pl_106, pl_122, pl_128, pl_136, pl_142, pl_165, pl_168, pl_170, pl_171, pl_173, pl_175, pl_187, pl_188, pl_189, pl_190, pl_206, pl_211, pl_219, pl_229, pl_255, pl_260, pl_400, pl_500, pl_512, pl_900, pl_999, pl_1000, pl_1001, pl_1005, pl_1020, pl_1023, pl_1024, pl_1103, pl_2000, pl_2040, pl_2176, pl_5660, pl_9999, pl_12345, pl_1000000, pl_1000003, pl_100000000, pl_1000000000, pz_0, pz_1, pz_t, ek, r1, r2, h15, q12_keepAll]
    refine ⟨_, run, rfl, ?_, pe_ieq _ _ _ _, ?_, ?_⟩
    · intro a h5 h6 j hj
      rw [pI_si, if_neg hj, pI_si_ne _ _ _ h6, pI_sr_ne _ _ h5, pI_si, if_neg hj, pI_sr_ne _ _ h6, pI_sr_ne _ _ h5]
    · intro i c hi hc
      have hi : i < 16 := hi
      rw [pI_si_ne _ _ _ (by decide), pI_si_ne _ _ _ (by decide), pI_sr_row]
      show (if 2040 ≤ 136 * i + c ∧ 136 * i + c < 2176 then _ else _) = if i = 15 then _ else am_I g 5 (136 * (i + 1) + c)
      by_cases h : i = 15
      · subst h
        rw [if_pos (by omega), if_pos rfl, show 6 + (136 * 15 + c - 2040) = 6 + c by omega]
      · rw [if_neg (by omega), if_neg h, if_pos (by omega), show 136 * i + c + 136 = 136 * (i + 1) + c by omega]
    · intro i hi
      have hi : i < 16 := hi
      rw [pI_si_ne _ _ _ (by decide)]
      show _ = if i = 15 then nI kd else am_I g 6 (i + 1)
      by_cases h : i = 15
      · subst h
        rw [pe_ieq, if_pos rfl]
      · rw [pe_ik h, if_neg h, pI_sr_ne _ _ (by decide), pI_si_ne _ _ _ (by decide), pI_sr_row, if_pos (by omega)]
  · have hk' : k < 16 := by omega
    have e1 : min 16 (k + 1) = k + 1 := by omega
    have e2 : min 15 k = k := by omega
    have e3 : dl k = 0 := if_neg h16
    have hne : (nI k = nI 16) = False := eq_false (fun z => h16 ((nn_eq (by omega) (by decide)).mp z))
    have run : fX12_remember (nI kd) g = some ((), am_si (am_si (am_sr g 5 (fun j => if 136 * k ≤ j ∧ j < 136 * k + 136 then am_I g 2 (6 + (j - 136 * k)) else am_I g 5 j)) 6 k (nI kd)) 0 8 (nI (k + 1))) := by
      unfold fX12_remember
      simp (disch := first | omega | assumption | decide) only [↓pv_let, ↓pv_jn, ↓reduceIte, pv_bd, ↓pv_ocs, ↓pv_ocn, pv_gdt, pe_gd, pe_clamp, pt_eq, pf_eq, pt_le, pf_le, pt_lt, pf_lt, nI_add, nn_mul, pe_sub, pb_0, pb_1, pb_z, pe_ieq, pe_ine, pe_ik, pP_si, pS_si, pn_si, ps_si, pL_si, decide_true, ofNat_nI, pe_srI, pe_srN, pe_srS, pe_srP, not_true_eq_false, not_false_eq_true, true_and, and_true, and_self, false_and, and_false, nI_m1, nI_ms, Nat.add_sub_cancel, pl_0, pl_1, pl_2, pl_3, pl_4, pl_5, pl_6, pl_7, pl_8, pl_9, pl_10, pl_11, pl_12, pl_13, pl_14, pl_15, pl_16, pl_17, pl_18, pl_19, pl_20, pl_21, pl_22, pl_23, pl_24, pl_25, pl_26, pl_27, pl_28, pl_29, pl_30, pl_31, pl_32, pl_34, pl_36, pl_37, pl_40, pl_41, pl_42, pl_43, pl_45, pl_47, pl_48, pl_50, pl_57, pl_59, pl_60, pl_61, pl_62, pl_64, pl_70, pl_91, pl_93, pl_97, pl_98, pl_99, pl_100, pl_106, pl_122, pl_128, pl_136, pl_142, pl_165, pl_168, pl_170, pl_171, pl_173, pl_175, pl_187, pl_188, pl_189, pl_190, pl_206, pl_211, pl_219, pl_229, pl_255, pl_260, pl_400, pl_500, pl_512, pl_900, pl_999, pl_1000, pl_1001, pl_1005, pl_1020, pl_1023, pl_1024, pl_1103, pl_2000, pl_2040, pl_2176, pl_5660, pl_9999, pl_12345, pl_1000000, pl_1000003, pl_100000000, pl_1000000000, pz_0, pz_1, pz_t, ek, hne, q12_keepAll]
    rw [e1, e2, e3]
    refine ⟨_, run, rfl, ?_, pe_ieq _ _ _ _, ?_, ?_⟩
    · intro a h5 h6 j hj
      rw [pI_si, if_neg hj, pI_si_ne _ _ _ h6, pI_sr_ne _ _ h5]
    · intro i c hi hc
      rw [pI_si_ne _ _ _ (by decide), pI_si_ne _ _ _ (by decide), pI_sr_row]
      by_cases h : i = k
      · subst h
        rw [if_pos (by omega), if_pos rfl]
        congr 1
        omega
      · rw [if_neg (by omega), if_neg h, Nat.add_zero]
    · intro i hi
      rw [pI_si_ne _ _ _ (by decide)]
      by_cases h : i = k
      · subst h
        rw [pe_ieq, if_pos rfl]
      · rw [pe_ik h, if_neg h, pI_sr_ne _ _ (by decide), Nat.add_zero]
