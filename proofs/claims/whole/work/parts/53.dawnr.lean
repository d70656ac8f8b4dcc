/-! ===== a dawn in the reference ===== -/
def wN (ρ : Row) (f : Nat → Int32) : Nat → Row
  | 0 => ρ
  | n + 1 => am_up (am_up (wN ρ f n) (10 + 10 * n + 0) (f n)) (10 + 10 * n + 8) (nI 0)
def zP (ρ : Row) : Nat → Row
  | 0 => ρ
  | n + 1 => am_up (zP ρ n) (70 + n) (nI 0)
theorem wN_sn (ρ : Row) (f : Nat → Int32) {s : Nat} : ∀ n, s < n → wN ρ f n (10 + 10 * s + 0) = f s
  | 0, h => absurd h (by omega)
  | n + 1, h => by
    rw [wN, am_up_ne (by omega)]
    by_cases e : s = n
    · subst e; rw [am_up_eq]
    · rw [am_up_ne (by omega)]; exact wN_sn ρ f n (by omega)
theorem wN_st (ρ : Row) (f : Nat → Int32) {s : Nat} : ∀ n, s < n → wN ρ f n (10 + 10 * s + 8) = nI 0
  | 0, h => absurd h (by omega)
  | n + 1, h => by
    rw [wN]
    by_cases e : s = n
    · subst e; rw [am_up_eq]
    · rw [am_up_ne (by omega), am_up_ne (by omega)]; exact wN_st ρ f n (by omega)
theorem wN_ne (ρ : Row) (f : Nat → Int32) {j : Nat} (h : ∀ s, s < 6 → j ≠ 10 + 10 * s + 0 ∧ j ≠ 10 + 10 * s + 8) : ∀ n, n ≤ 6 → wN ρ f n j = ρ j
  | 0, _ => rfl
  | n + 1, hn => by rw [wN, am_up_ne (h n (by omega)).2, am_up_ne (h n (by omega)).1]; exact wN_ne ρ f h n (by omega)
theorem zP_in (ρ : Row) {k : Nat} : ∀ n, k < n → zP ρ n (70 + k) = nI 0
  | 0, h => absurd h (by omega)
  | n + 1, h => by
    rw [zP]
    by_cases e : k = n
    · subst e; rw [am_up_eq]
    · rw [am_up_ne (by omega)]; exact zP_in ρ n (by omega)
theorem zP_ne (ρ : Row) {j : Nat} (h : j < 70 ∨ 106 ≤ j) : ∀ n, n ≤ 36 → zP ρ n j = ρ j
  | 0, _ => rfl
  | n + 1, hn => by rw [zP, am_up_ne (by omega)]; exact zP_ne ρ h n (by omega)
theorem dwnN_sn (q : Option pLw) (ρ : Row) {s : Nat} : ∀ n, s < n → dwnN q ρ n (10 + 10 * s + 0) = nsn q ρ s
  | 0, h => absurd h (by omega)
  | n + 1, h => by
    rw [dwnN]
    by_cases e : s = n
    · subst e; rw [am_up_eq]
    · rw [am_up_ne (by omega)]; exact dwnN_sn q ρ n (by omega)
theorem dwn_eq (q : Option pLw) (ρ : Row) : zP (wN (am_up ρ 6 (ρ 6 + nI 1)) (nsn q ρ) 6) 36 = dwn q ρ := by
  funext j
  unfold dwn eas
  by_cases h1 : 70 ≤ j ∧ j < 106
  · obtain ⟨k, rfl⟩ : ∃ k, j = 70 + k := ⟨j - 70, by omega⟩
    rw [zP_in _ 36 (by omega), if_pos (Or.inr h1)]
  · rw [zP_ne _ (by omega) 36 (Nat.le_refl _)]
    by_cases h2 : 10 ≤ j ∧ j < 70 ∧ (j - 10) % 10 = 8
    · obtain ⟨s, hs, rfl⟩ : ∃ s, s < 6 ∧ j = 10 + 10 * s + 8 := ⟨(j - 10) / 10, by omega, by omega⟩
      rw [wN_st _ _ 6 hs, if_pos (Or.inl h2)]
    · rw [if_neg (by omega)]
      by_cases h3 : 10 ≤ j ∧ j < 70 ∧ (j - 10) % 10 = 0
      · obtain ⟨s, hs, rfl⟩ : ∃ s, s < 6 ∧ j = 10 + 10 * s + 0 := ⟨(j - 10) / 10, by omega, by omega⟩
        rw [wN_sn _ _ 6 hs, dwnN_sn q ρ 6 hs]
      · rw [wN_ne _ _ (fun s hs => by omega) 6 (Nat.le_refl _), dwnN_at q ρ 6 (Nat.le_refl _) j (fun s hs => by omega)]
theorem dawnL1 {k : am_G → Option (Int32 × am_G)} {q : Option pLw} {ρ : Row} (hV : okV ρ) : ∀ (d s n : Nat) (g : am_G), s + d = 6 → d < n → LawR (am_I g 2) q → am_I g 0 20 = nI 0 → rr g = am_up ρ 6 (ρ 6 + nI 1) → (∀ t, t < s → am_I g 22 t = nsn q ρ t) → ∃ g', fX12_dawnIt_L13 k n (nI s) g = k g' ∧ am_I g' 2 = am_I g 2 ∧ (∀ t, t < 6 → am_I g' 22 t = nsn q ρ t) ∧ FrW g g'
  | 0, s, n, g, hd, hn, hq, h20, hr, hsh => by
    obtain ⟨n, rfl⟩ : ∃ n', n = n' + 1 := ⟨n - 1, by omega⟩
    obtain rfl : s = 6 := by omega
    refine ⟨g, ?_, rfl, hsh, FrW.rf g⟩
    rw [fX12_dawnIt_L13]
    simp (disch := first | omega | assumption | decide) only [↓pv_let, ↓pv_jn, ↓reduceIte, pv_bd, ↓pv_ocs, ↓pv_ocn, pv_gdt, pe_gd, pe_clamp, pt_eq, pf_eq, pt_le, pf_le, pt_lt, pf_lt, nI_add, nn_mul, pe_sub, pb_0, pb_1, pb_z, pe_ieq, pe_ine, pe_ik, pP_si, pS_si, pn_si, ps_si, pL_si, decide_true, ofNat_nI, pe_srI, pe_srN, pe_srS, pe_srP, not_true_eq_false, not_false_eq_true, true_and, and_true, and_self, false_and, and_false, nI_m1, nI_ms, Nat.add_sub_cancel, pl_0, pl_1, pl_2, pl_3, pl_4, pl_5, pl_6, pl_7, pl_8, pl_9, pl_10, pl_11, pl_12, pl_13, pl_14, pl_15, pl_16, pl_17, pl_18, pl_19, pl_20, pl_21, pl_22, pl_23, pl_24, pl_25, pl_26, pl_27, pl_28, pl_29, pl_30, pl_31, pl_32, pl_34, pl_36, pl_37, pl_40, pl_41, pl_42, pl_43, pl_45, pl_47, pl_48, pl_50, pl_57, pl_59, pl_60, pl_61, pl_62, pl_64, pl_70, pl_91, pl_93, pl_97, pl_98, pl_99, pl_100, pl_106, pl_122, pl_128, pl_136, pl_142, pl_165, pl_168, pl_170, pl_171, pl_173, pl_175, pl_187, pl_188, pl_189, pl_190, pl_206, pl_211, pl_219, pl_229, pl_255, pl_260, pl_400, pl_500, pl_512, pl_900, pl_999, pl_1000, pl_1001, pl_1005, pl_1020, pl_1023, pl_1024, pl_1103, pl_2000, pl_2040, pl_2176, pl_5660, pl_9999, pl_12345, pl_1000000, pl_1000003, pl_100000000, pl_1000000000, pz_0, pz_1, pz_t]
  | d + 1, s, n, g, hd, hn, hq, h20, hr, hsh => by
    obtain ⟨n, rfl⟩ : ∃ n', n = n' + 1 := ⟨n - 1, by omega⟩
    have hs : s < 6 := by omega
    obtain ⟨g1, e1, f1⟩ := q12_fll hq h20 hs
    have r1 : am_I g1 2 = am_I g 2 := f1.row (by decide)
    obtain ⟨g2, e2, f2⟩ := q12_thw (g := g1) (q := q) (by rw [r1]; exact hq) (by rw [f1.at (by decide)]; exact h20) hs
    have r2 : am_I g2 2 = am_I g 2 := (f2.row (by decide)).trans r1
    rw [fll_cg (ag_rr hr) hs] at e1
    rw [r1, thw_cg (ag_rr hr) hs] at e2
    have es : am_I g2 2 (10 + 10 * s + 0) = ρ (10 + 10 * s + 0) := by rw [r2, ← rr_at (g := g) (by omega), hr, am_up_ne (by omega)]
    have f3 : FrW g (am_si g2 22 s (nsn q ρ s)) := (f1.tr f2).W.si22 _ _
    have r3 : am_I (am_si g2 22 s (nsn q ρ s)) 2 = am_I g 2 := by rw [pI_si_ne _ _ _ (by decide)]; exact r2
    obtain ⟨g', e', r', s', f'⟩ := dawnL1 (k := k) hV d (s + 1) n (am_si g2 22 s (nsn q ρ s)) (by omega) (by omega) (by rw [r3]; exact hq) (by rw [pI_si_ne _ _ _ (by decide), f2.at (by decide), f1.at (by decide)]; exact h20) (by rw [rr_cg r3]; exact hr) (fun t ht => by
      by_cases h : t = s
      · subst h; rw [pe_ieq]
      · rw [pe_ik h, f2.at (by omega), f1.at (by omega)]; exact hsh t (by omega))
    refine ⟨g', ?_, r'.trans r3, s', f3.tr f'⟩
    rw [← e', fX12_dawnIt_L13]
    simp (disch := first | omega | assumption | decide) only [↓pv_let, ↓pv_jn, ↓reduceIte, pv_bd, ↓pv_ocs, ↓pv_ocn, pv_gdt, pe_gd, pe_clamp, pt_eq, pf_eq, pt_le, pf_le, pt_lt, pf_lt, nI_add, nn_mul, pe_sub, pb_0, pb_1, pb_z, pe_ieq, pe_ine, pe_ik, pP_si, pS_si, pn_si, ps_si, pL_si, decide_true, ofNat_nI, pe_srI, pe_srN, pe_srS, pe_srP, not_true_eq_false, not_false_eq_true, true_and, and_true, and_self, false_and, and_false, nI_m1, nI_ms, Nat.add_sub_cancel, pl_0, pl_1, pl_2, pl_3, pl_4, pl_5, pl_6, pl_7, pl_8, pl_9, pl_10, pl_11, pl_12, pl_13, pl_14, pl_15, pl_16, pl_17, pl_18, pl_19, pl_20, pl_21, pl_22, pl_23, pl_24, pl_25, pl_26, pl_27, pl_28, pl_29, pl_30, pl_31, pl_32, pl_34, pl_36, pl_37, pl_40, pl_41, pl_42, pl_43, pl_45, pl_47, pl_48, pl_50, pl_57, pl_59, pl_60, pl_61, pl_62, pl_64, pl_70, pl_91, pl_93, pl_97, pl_98, pl_99, pl_100, pl_106, pl_122, pl_128, pl_136, pl_142, pl_165, pl_168, pl_170, pl_171, pl_173, pl_175, pl_187, pl_188, pl_189, pl_190, pl_206, pl_211, pl_219, pl_229, pl_255, pl_260, pl_400, pl_500, pl_512, pl_900, pl_999, pl_1000, pl_1001, pl_1005, pl_1020, pl_1023, pl_1024, pl_1103, pl_2000, pl_2040, pl_2176, pl_5660, pl_9999, pl_12345, pl_1000000, pl_1000003, pl_100000000, pl_1000000000, pz_0, pz_1, pz_t, e1, e2, s12_ofSlope, es, q12_within]
    rfl
theorem dawnL2 {k : am_G → Option (Int32 × am_G)} {ρ : Row} {f : Nat → Int32} : ∀ (d s n : Nat) (g : am_G), s + d = 6 → d < n → rr g = wN ρ f s → (∀ t, t < 6 → am_I g 22 t = f t) → ∃ g', fX12_dawnIt_L69 k n (nI s) g = k g' ∧ rr g' = wN ρ f 6 ∧ FrW g g'
  | 0, s, n, g, hd, hn, hr, hsh => by
    obtain ⟨n, rfl⟩ : ∃ n', n = n' + 1 := ⟨n - 1, by omega⟩
    obtain rfl : s = 6 := by omega
    refine ⟨g, ?_, hr, FrW.rf g⟩
    rw [fX12_dawnIt_L69]
    simp (disch := first | omega | assumption | decide) only [↓pv_let, ↓pv_jn, ↓reduceIte, pv_bd, ↓pv_ocs, ↓pv_ocn, pv_gdt, pe_gd, pe_clamp, pt_eq, pf_eq, pt_le, pf_le, pt_lt, pf_lt, nI_add, nn_mul, pe_sub, pb_0, pb_1, pb_z, pe_ieq, pe_ine, pe_ik, pP_si, pS_si, pn_si, ps_si, pL_si, decide_true, ofNat_nI, pe_srI, pe_srN, pe_srS, pe_srP, not_true_eq_false, not_false_eq_true, true_and, and_true, and_self, false_and, and_false, nI_m1, nI_ms, Nat.add_sub_cancel, pl_0, pl_1, pl_2, pl_3, pl_4, pl_5, pl_6, pl_7, pl_8, pl_9, pl_10, pl_11, pl_12, pl_13, pl_14, pl_15, pl_16, pl_17, pl_18, pl_19, pl_20, pl_21, pl_22, pl_23, pl_24, pl_25, pl_26, pl_27, pl_28, pl_29, pl_30, pl_31, pl_32, pl_34, pl_36, pl_37, pl_40, pl_41, pl_42, pl_43, pl_45, pl_47, pl_48, pl_50, pl_57, pl_59, pl_60, pl_61, pl_62, pl_64, pl_70, pl_91, pl_93, pl_97, pl_98, pl_99, pl_100, pl_106, pl_122, pl_128, pl_136, pl_142, pl_165, pl_168, pl_170, pl_171, pl_173, pl_175, pl_187, pl_188, pl_189, pl_190, pl_206, pl_211, pl_219, pl_229, pl_255, pl_260, pl_400, pl_500, pl_512, pl_900, pl_999, pl_1000, pl_1001, pl_1005, pl_1020, pl_1023, pl_1024, pl_1103, pl_2000, pl_2040, pl_2176, pl_5660, pl_9999, pl_12345, pl_1000000, pl_1000003, pl_100000000, pl_1000000000, pz_0, pz_1, pz_t]
  | d + 1, s, n, g, hd, hn, hr, hsh => by
    obtain ⟨n, rfl⟩ : ∃ n', n = n' + 1 := ⟨n - 1, by omega⟩
    have hs : s < 6 := by omega
    have e22 := hsh s hs
    obtain ⟨g', e', r', f'⟩ := dawnL2 (k := k) (ρ := ρ) (f := f) d (s + 1) n (am_si (am_si g 2 (10 + 10 * s + 0) (f s)) 2 (10 + 10 * s + 8) (nI 0)) (by omega) (by omega) (by
      rw [rr_up (by omega), rr_up (by omega), hr]
      rfl) (fun t ht => by rw [pI_si_ne _ _ _ (by decide), pI_si_ne _ _ _ (by decide)]; exact hsh t ht)
    refine ⟨g', ?_, r', (((FrW.rf g).si2 (by unfold pkj; omega) _).si2 (by unfold pkj; omega) _).tr f'⟩
    rw [← e', fX12_dawnIt_L69]
    simp (disch := first | omega | assumption | decide) only [↓pv_let, ↓pv_jn, ↓reduceIte, pv_bd, ↓pv_ocs, ↓pv_ocn, pv_gdt, pe_gd, pe_clamp, pt_eq, pf_eq, pt_le, pf_le, pt_lt, pf_lt, nI_add, nn_mul, pe_sub, pb_0, pb_1, pb_z, pe_ieq, pe_ine, pe_ik, pP_si, pS_si, pn_si, ps_si, pL_si, decide_true, ofNat_nI, pe_srI, pe_srN, pe_srS, pe_srP, not_true_eq_false, not_false_eq_true, true_and, and_true, and_self, false_and, and_false, nI_m1, nI_ms, Nat.add_sub_cancel, pl_0, pl_1, pl_2, pl_3, pl_4, pl_5, pl_6, pl_7, pl_8, pl_9, pl_10, pl_11, pl_12, pl_13, pl_14, pl_15, pl_16, pl_17, pl_18, pl_19, pl_20, pl_21, pl_22, pl_23, pl_24, pl_25, pl_26, pl_27, pl_28, pl_29, pl_30, pl_31, pl_32, pl_34, pl_36, pl_37, pl_40, pl_41, pl_42, pl_43, pl_45, pl_47, pl_48, pl_50, pl_57, pl_59, pl_60, pl_61, pl_62, pl_64, pl_70, pl_91, pl_93, pl_97, pl_98, pl_99, pl_100, pl_106, pl_122, pl_128, pl_136, pl_142, pl_165, pl_168, pl_170, pl_171, pl_173, pl_175, pl_187, pl_188, pl_189, pl_190, pl_206, pl_211, pl_219, pl_229, pl_255, pl_260, pl_400, pl_500, pl_512, pl_900, pl_999, pl_1000, pl_1001, pl_1005, pl_1020, pl_1023, pl_1024, pl_1103, pl_2000, pl_2040, pl_2176, pl_5660, pl_9999, pl_12345, pl_1000000, pl_1000003, pl_100000000, pl_1000000000, pz_0, pz_1, pz_t, s12_slopeAt, e22]
theorem dawnL3 {ρ : Row} (hV : okV (zP ρ 36)) : ∀ (d i n : Nat) (g : am_G), i + d = 36 → d < n → rr g = zP ρ i → ∃ g', fX12_dawnIt_L111 n (nI i) g = some (nI (sldU 6 0 (zP ρ 36)).1, g') ∧ rr g' = (sldU 6 0 (zP ρ 36)).2 ∧ FrW g g'
  | 0, i, n, g, hd, hn, hr => by
    obtain ⟨n, rfl⟩ : ∃ n', n = n' + 1 := ⟨n - 1, by omega⟩
    obtain rfl : i = 36 := by omega
    obtain ⟨g', e, r, f⟩ := q12_slides hr hV
    refine ⟨g', ?_, r, f⟩
    rw [fX12_dawnIt_L111]
    simp (disch := first | omega | assumption | decide) only [↓pv_let, ↓pv_jn, ↓reduceIte, pv_bd, ↓pv_ocs, ↓pv_ocn, pv_gdt, pe_gd, pe_clamp, pt_eq, pf_eq, pt_le, pf_le, pt_lt, pf_lt, nI_add, nn_mul, pe_sub, pb_0, pb_1, pb_z, pe_ieq, pe_ine, pe_ik, pP_si, pS_si, pn_si, ps_si, pL_si, decide_true, ofNat_nI, pe_srI, pe_srN, pe_srS, pe_srP, not_true_eq_false, not_false_eq_true, true_and, and_true, and_self, false_and, and_false, nI_m1, nI_ms, Nat.add_sub_cancel, pl_0, pl_1, pl_2, pl_3, pl_4, pl_5, pl_6, pl_7, pl_8, pl_9, pl_10, pl_11, pl_12, pl_13, pl_14, pl_15, pl_16, pl_17, pl_18, pl_19, pl_20, pl_21, pl_22, pl_23, pl_24, pl_25, pl_26, pl_27, pl_28, pl_29, pl_30, pl_31, pl_32, pl_34, pl_36, pl_37, pl_40, pl_41, pl_42, pl_43, pl_45, pl_47, pl_48, pl_50, pl_57, pl_59, pl_60, pl_61, pl_62, pl_64, pl_70, pl_91, pl_93, pl_97, pl_98, pl_99, pl_100, pl_106, pl_122, pl_128, pl_136, pl_142, pl_165, pl_168, pl_170, pl_171, pl_173, pl_175, pl_187, pl_188, pl_189, pl_190, pl_206, pl_211, pl_219, pl_229, pl_255, pl_260, pl_400, pl_500, pl_512, pl_900, pl_999, pl_1000, pl_1001, pl_1005, pl_1020, pl_1023, pl_1024, pl_1103, pl_2000, pl_2040, pl_2176, pl_5660, pl_9999, pl_12345, pl_1000000, pl_1000003, pl_100000000, pl_1000000000, pz_0, pz_1, pz_t, e]
  | d + 1, i, n, g, hd, hn, hr => by
    obtain ⟨n, rfl⟩ : ∃ n', n = n' + 1 := ⟨n - 1, by omega⟩
    obtain ⟨g', e', r', f'⟩ := dawnL3 hV d (i + 1) n (am_si g 2 (70 + i) (nI 0)) (by omega) (by omega) (by
      rw [rr_up (by omega), hr]
      rfl)
    refine ⟨g', ?_, r', ((FrW.rf g).si2 (by unfold pkj; omega) _).tr f'⟩
    rw [← e', fX12_dawnIt_L111]
    simp (disch := first | omega | assumption | decide) only [↓pv_let, ↓pv_jn, ↓reduceIte, pv_bd, ↓pv_ocs, ↓pv_ocn, pv_gdt, pe_gd, pe_clamp, pt_eq, pf_eq, pt_le, pf_le, pt_lt, pf_lt, nI_add, nn_mul, pe_sub, pb_0, pb_1, pb_z, pe_ieq, pe_ine, pe_ik, pP_si, pS_si, pn_si, ps_si, pL_si, decide_true, ofNat_nI, pe_srI, pe_srN, pe_srS, pe_srP, not_true_eq_false, not_false_eq_true, true_and, and_true, and_self, false_and, and_false, nI_m1, nI_ms, Nat.add_sub_cancel, pl_0, pl_1, pl_2, pl_3, pl_4, pl_5, pl_6, pl_7, pl_8, pl_9, pl_10, pl_11, pl_12, pl_13, pl_14, pl_15, pl_16, pl_17, pl_18, pl_19, pl_20, pl_21, pl_22, pl_23, pl_24, pl_25, pl_26, pl_27, pl_28, pl_29, pl_30, pl_31, pl_32, pl_34, pl_36, pl_37, pl_40, pl_41, pl_42, pl_43, pl_45, pl_47, pl_48, pl_50, pl_57, pl_59, pl_60, pl_61, pl_62, pl_64, pl_70, pl_91, pl_93, pl_97, pl_98, pl_99, pl_100, pl_106, pl_122, pl_128, pl_136, pl_142, pl_165, pl_168, pl_170, pl_171, pl_173, pl_175, pl_187, pl_188, pl_189, pl_190, pl_206, pl_211, pl_219, pl_229, pl_255, pl_260, pl_400, pl_500, pl_512, pl_900, pl_999, pl_1000, pl_1001, pl_1005, pl_1020, pl_1023, pl_1024, pl_1103, pl_2000, pl_2040, pl_2176, pl_5660, pl_9999, pl_12345, pl_1000000, pl_1000003, pl_100000000, pl_1000000000, pz_0, pz_1, pz_t]
theorem q12_dawnIt {g : am_G} {q : Option pLw} {ρ : Row} (hq : LawR (am_I g 2) q) (h20 : am_I g 0 20 = nI 0) (hr : rr g = ρ) (hV : okV ρ) (hdy : ρ 6 < nI 999) : ∃ g', fX12_dawnIt g = some (nI (dwnP q ρ).1, g') ∧ rr g' = (dwnP q ρ).2 ∧ FrW g g' := by
  have e6 : am_I g 2 6 = ρ 6 := by rw [← hr, rr_at (by decide)]
  have f0 : FrW g (am_si g 2 6 (ρ 6 + nI 1)) := (FrW.rf g).si2 (by unfold pkj; omega) _
  have r0 : rr (am_si g 2 6 (ρ 6 + nI 1)) = am_up ρ 6 (ρ 6 + nI 1) := by rw [rr_up (by decide), hr]
  obtain ⟨g1, e1, r1, s1, f1⟩ := dawnL1 (k := fun g23 => fX12_dawnIt_L69 (fun g40 => fX12_dawnIt_L111 am_fu (nI 0) g40) am_fu (nI 0) g23) (q := q) hV 6 0 am_fu (am_si g 2 6 (ρ 6 + nI 1)) rfl (by decide) (hq.fw f0) (by rw [pI_si_ne _ _ _ (by decide)]; exact h20) r0 (fun t ht => absurd ht (by omega))
  obtain ⟨g2, e2, r2, f2⟩ := dawnL2 (k := fun g40 => fX12_dawnIt_L111 am_fu (nI 0) g40) (ρ := am_up ρ 6 (ρ 6 + nI 1)) (f := nsn q ρ) 6 0 am_fu g1 rfl (by decide) ((rr_cg r1).trans r0) s1
  have hz := dwn_eq q ρ
  obtain ⟨g3, e3, r3, f3⟩ := dawnL3 (ρ := wN (am_up ρ 6 (ρ 6 + nI 1)) (nsn q ρ) 6) (by rw [hz]; exact dwn_ok hV hdy) 36 0 am_fu g2 rfl (by decide) r2
  rw [hz] at e3 r3
  refine ⟨g3, ?_, r3, ((f0.tr f1).tr f2).tr f3⟩
  unfold fX12_dawnIt
  simp (disch := first | omega | assumption | decide) only [↓pv_let, ↓pv_jn, ↓reduceIte, pv_bd, ↓pv_ocs, ↓pv_ocn, pv_gdt, pe_gd, pe_clamp, pt_eq, pf_eq, pt_le, pf_le, pt_lt, pf_lt, nI_add, nn_mul, pe_sub, pb_0, pb_1, pb_z, pe_ieq, pe_ine, pe_ik, pP_si, pS_si, pn_si, ps_si, pL_si, decide_true, ofNat_nI, pe_srI, pe_srN, pe_srS, pe_srP, not_true_eq_false, not_false_eq_true, true_and, and_true, and_self, false_and, and_false, nI_m1, nI_ms, Nat.add_sub_cancel, pl_0, pl_1, pl_2, pl_3, pl_4, pl_5, pl_6, pl_7, pl_8, pl_9, pl_10, pl_11, pl_12, pl_13, pl_14, pl_15, pl_16, pl_17, pl_18, pl_19, pl_20, pl_21, pl_22, pl_23, pl_24, pl_25, pl_26, pl_27, pl_28, pl_29, pl_30, pl_31, pl_32, pl_34, pl_36, pl_37, pl_40, pl_41, pl_42, pl_43, pl_45, pl_47, pl_48, pl_50, pl_57, pl_59, pl_60, pl_61, pl_62, pl_64, pl_70, pl_91, pl_93, pl_97, pl_98, pl_99, pl_100, pl_106, pl_122, pl_128, pl_136, pl_142, pl_165, pl_168, pl_170, pl_171, pl_173, pl_175, pl_187, pl_188, pl_189, pl_190, pl_206, pl_211, pl_219, pl_229, pl_255, pl_260, pl_400, pl_500, pl_512, pl_900, pl_999, pl_1000, pl_1001, pl_1005, pl_1020, pl_1023, pl_1024, pl_1103, pl_2000, pl_2040, pl_2176, pl_5660, pl_9999, pl_12345, pl_1000000, pl_1000003, pl_100000000, pl_1000000000, pz_0, pz_1, pz_t, e6]
  exact (e1.trans e2).trans e3
