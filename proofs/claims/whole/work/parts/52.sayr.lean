/-! ===== saying and dawn in the reference ===== -/
def FrW (g g' : am_G) : Prop := (∀ a k, a ≠ 21 → a ≠ 22 → ¬ (a = 0 ∧ (k = 34 ∨ k = 38)) → ¬ (a = 2 ∧ pkj k) → am_I g' a k = am_I g a k) ∧ (∀ a k, a ≠ 20 → a ≠ 18 → ¬ (a = 0 ∧ (k = 39 ∨ k = 40)) → am_L g' a k = am_L g a k) ∧ g'.2.2 = g.2.2
theorem FrW.rf (g : am_G) : FrW g g := ⟨fun _ _ _ _ _ _ => rfl, fun _ _ _ _ _ => rfl, rfl⟩
theorem FrW.tr {g h i : am_G} (h1 : FrW g h) (h2 : FrW h i) : FrW g i := ⟨fun a k x y z w => (h2.1 a k x y z w).trans (h1.1 a k x y z w), fun a k z w x => (h2.2.1 a k z w x).trans (h1.2.1 a k z w x), h2.2.2.trans h1.2.2⟩
theorem FrS.W {g h : am_G} (h1 : FrS g h) : FrW g h := ⟨fun a k _ _ z _ => h1.1 a k z, h1.2.1, h1.2.2⟩
theorem FrW.si2 {g h : am_G} (h1 : FrW g h) {k : Nat} (hk : pkj k) (x : Int32) : FrW g (am_si h 2 k x) := ⟨fun a j x y z w => by rw [pI_si, if_neg (fun e => w ⟨e.1, by rw [e.2]; exact hk⟩)]; exact h1.1 a j x y z w, h1.2.1, h1.2.2⟩
theorem FrW.si21 {g h : am_G} (h1 : FrW g h) (k : Nat) (x : Int32) : FrW g (am_si h 21 k x) := ⟨fun a j x y z w => by rw [pI_si_ne _ _ _ x]; exact h1.1 a j x y z w, h1.2.1, h1.2.2⟩
theorem FrW.si22 {g h : am_G} (h1 : FrW g h) (k : Nat) (x : Int32) : FrW g (am_si h 22 k x) := ⟨fun a j x y z w => by rw [pI_si_ne _ _ _ y]; exact h1.1 a j x y z w, h1.2.1, h1.2.2⟩
theorem TxtR.cg {ρ ρ' : Row} {b : Nat} {L : pLw} (h : TxtR ρ b L) (e : ∀ k, b ≤ k → ρ' k = ρ k) : TxtR ρ' b L := by
  obtain ⟨h1, h2, h3, o, r, nc, h4, h5, h6⟩ := h
  refine ⟨h1, by rw [e _ (by omega)]; exact h2, h3, o, r, nc, h4, fun i hi => by rw [e _ (by omega), e _ (by omega)]; exact h5 i hi, fun i hi => ?_⟩
  rw [e (b + 2 + 8 * i) (by omega), e (b + 2 + 8 * i + 3) (by omega), e (b + 2 + 8 * i + 4) (by omega), e (b + 2 + 8 * i + 5) (by omega), e (b + 2 + 8 * i + 6) (by omega)]
  exact h6 i hi
theorem LawR.cg {ρ ρ' : Row} {q : Option pLw} (h : LawR ρ q) (e : ∀ k, k = 5 ∨ 260 ≤ k → ρ' k = ρ k) : LawR ρ' q := by
  rcases h with ⟨a, rfl⟩ | ⟨f, L, a, b, c, rfl⟩
  · exact Or.inl ⟨by rw [e 5 (Or.inl rfl)]; exact a, rfl⟩
  · exact Or.inr ⟨f, L, a, by rw [e 5 (Or.inl rfl)]; exact b, c.cg (fun k hk => e k (Or.inr (by omega))), rfl⟩
theorem LawR.fw {g g' : am_G} {q : Option pLw} (h : LawR (am_I g 2) q) (f : FrW g g') : LawR (am_I g' 2) q := h.cg fun k hk => f.1 2 k (by decide) (by decide) (by omega) (by unfold pkj; omega)
theorem mvL {s : Nat} (hs : s < 6) (ρ : Row) : ∀ (d i n : Nat) (g : am_G), i + d = 6 → d < n → rr g = mvp ρ s i → ∃ g', fX12_slide_L124 (nI s) n (nI i) g = some ((), g') ∧ rr g' = mvp ρ s 6 ∧ FrW g g'
  | 0, i, n, g, hd, hn, hr => by
    obtain ⟨n, rfl⟩ : ∃ n', n = n' + 1 := ⟨n - 1, by omega⟩
    obtain rfl : i = 6 := by omega
    refine ⟨g, ?_, hr, FrW.rf g⟩
    rw [fX12_slide_L124]
    simp (disch := first | omega | assumption | decide) only [↓pv_let, ↓pv_jn, ↓reduceIte, pv_bd, ↓pv_ocs, ↓pv_ocn, pv_gdt, pe_gd, pe_clamp, pt_eq, pf_eq, pt_le, pf_le, pt_lt, pf_lt, nI_add, nn_mul, pe_sub, pb_0, pb_1, pb_z, pe_ieq, pe_ine, pe_ik, pP_si, pS_si, pn_si, ps_si, pL_si, decide_true, ofNat_nI, pe_srI, pe_srN, pe_srS, pe_srP, not_true_eq_false, not_false_eq_true, true_and, and_true, and_self, false_and, and_false, nI_m1, nI_ms, Nat.add_sub_cancel, pl_0, pl_1, pl_2, pl_3, pl_4, pl_5, pl_6, pl_7, pl_8, pl_9, pl_10, pl_11, pl_12, pl_13, pl_14, pl_15, pl_16, pl_17, pl_18, pl_19, pl_20, pl_21, pl_22, pl_23, pl_24, pl_25, pl_26, pl_27, pl_28, pl_29, pl_30, pl_31, pl_32, pl_34, pl_36, pl_37, pl_40, pl_41, pl_42, pl_43, pl_45, pl_47, pl_48, pl_50, pl_57, pl_59, pl_60, pl_61, pl_62, pl_64, pl_70, pl_91, pl_93, pl_97, pl_98, pl_99, pl_100, pl_106, pl_122, pl_128, pl_136, pl_142, pl_165, pl_168, pl_170, pl_171, pl_173, pl_175, pl_187, pl_188, pl_189, pl_190, pl_206, pl_211, pl_219, pl_229, pl_255, pl_260, pl_400, pl_500, pl_512, pl_900, pl_999, pl_1000, pl_1001, pl_1005, pl_1020, pl_1023, pl_1024, pl_1103, pl_2000, pl_2040, pl_2176, pl_5660, pl_9999, pl_12345, pl_1000000, pl_1000003, pl_100000000, pl_1000000000, pz_0, pz_1, pz_t]
  | d + 1, i, n, g, hd, hn, hr => by
    obtain ⟨n, rfl⟩ : ∃ n', n = n' + 1 := ⟨n - 1, by omega⟩
    obtain ⟨g', e, r', f'⟩ := mvL hs ρ d (i + 1) n (am_si (am_si g 2 (106 + 6 * s + i) (am_I g 2 (70 + 6 * s + i))) 2 (70 + 6 * s + i) (nI 0)) (by omega) (by omega) (by
      rw [rr_up (by omega), rr_up (by omega), ← rr_at (g := g) (show 70 + 6 * s + i < 259 by omega), hr]
      rfl)
    refine ⟨g', ?_, r', (((FrW.rf g).si2 (by unfold pkj; omega) _).si2 (by unfold pkj; omega) _).tr f'⟩
    rw [← e, fX12_slide_L124]
    simp (disch := first | omega | assumption | decide) only [↓pv_let, ↓pv_jn, ↓reduceIte, pv_bd, ↓pv_ocs, ↓pv_ocn, pv_gdt, pe_gd, pe_clamp, pt_eq, pf_eq, pt_le, pf_le, pt_lt, pf_lt, nI_add, nn_mul, pe_sub, pb_0, pb_1, pb_z, pe_ieq, pe_ine, pe_ik, pP_si, pS_si, pn_si, ps_si, pL_si, decide_true, ofNat_nI, pe_srI, pe_srN, pe_srS, pe_srP, not_true_eq_false, not_false_eq_true, true_and, and_true, and_self, false_and, and_false, nI_m1, nI_ms, Nat.add_sub_cancel, pl_0, pl_1, pl_2, pl_3, pl_4, pl_5, pl_6, pl_7, pl_8, pl_9, pl_10, pl_11, pl_12, pl_13, pl_14, pl_15, pl_16, pl_17, pl_18, pl_19, pl_20, pl_21, pl_22, pl_23, pl_24, pl_25, pl_26, pl_27, pl_28, pl_29, pl_30, pl_31, pl_32, pl_34, pl_36, pl_37, pl_40, pl_41, pl_42, pl_43, pl_45, pl_47, pl_48, pl_50, pl_57, pl_59, pl_60, pl_61, pl_62, pl_64, pl_70, pl_91, pl_93, pl_97, pl_98, pl_99, pl_100, pl_106, pl_122, pl_128, pl_136, pl_142, pl_165, pl_168, pl_170, pl_171, pl_173, pl_175, pl_187, pl_188, pl_189, pl_190, pl_206, pl_211, pl_219, pl_229, pl_255, pl_260, pl_400, pl_500, pl_512, pl_900, pl_999, pl_1000, pl_1001, pl_1005, pl_1020, pl_1023, pl_1024, pl_1103, pl_2000, pl_2040, pl_2176, pl_5660, pl_9999, pl_12345, pl_1000000, pl_1000003, pl_100000000, pl_1000000000, pz_0, pz_1, pz_t]
theorem q12_slide {g : am_G} {s : Nat} {ρ : Row} (hs : s < 6) (hr : rr g = ρ) (hV : okV ρ) : ∃ g', fX12_slide (nI s) g = some ((), g') ∧ rr g' = sld1 ρ s ∧ FrW g g' := by
  have at_ : ∀ j, j < 259 → am_I g 2 j = ρ j := fun j hj => by rw [← hr, rr_at hj]
  have es := at_ (10 + 10 * s + 0) (by omega)
  have eb := at_ (10 + 10 * s + 2) (by omega)
  have eg := at_ (10 + 10 * s + 3) (by omega)
  have tail : ∀ g7 : am_G, FrW g g7 → rr g7 = sldA ρ s → ∃ g', fX12_slide_L124 (nI s) am_fu (nI 0) (am_si (am_si (am_si g7 2 (10 + 10 * s + 0) (nI 0)) 2 (10 + 10 * s + 8) (nI 0)) 2 (10 + 10 * s + 9) (am_I g7 2 (10 + 10 * s + 9) + nI 1)) = some ((), g') ∧ rr g' = sld1 ρ s ∧ FrW g g' := by
    intro g7 f7 r7
    have f8 : FrW g (am_si (am_si (am_si g7 2 (10 + 10 * s + 0) (nI 0)) 2 (10 + 10 * s + 8) (nI 0)) 2 (10 + 10 * s + 9) (am_I g7 2 (10 + 10 * s + 9) + nI 1)) := ((f7.si2 (by unfold pkj; omega) _).si2 (by unfold pkj; omega) _).si2 (by unfold pkj; omega) _
    obtain ⟨g', e, r', f'⟩ := mvL hs (sldB (sldA ρ s) s) 6 0 am_fu (am_si (am_si (am_si g7 2 (10 + 10 * s + 0) (nI 0)) 2 (10 + 10 * s + 8) (nI 0)) 2 (10 + 10 * s + 9) (am_I g7 2 (10 + 10 * s + 9) + nI 1)) rfl (by decide) (by
      rw [rr_up (by omega), rr_up (by omega), rr_up (by omega), ← rr_at (g := g7) (show 10 + 10 * s + 9 < 259 by omega), r7]
      rfl)
    exact ⟨g', e, r', f8.tr f'⟩
  unfold fX12_slide
  rcases hV.below hs with e | ⟨b, hb1, hb2, e⟩
  · have eb' : am_I g 2 (10 + 10 * s + 2) = -1 := eb.trans e
    have hn1 : ((-1 : Int32) = -1) = True := eq_true rfl
    by_cases hg : ρ (10 + 10 * s + 3) = nI 1
    · have eg' : am_I g 2 (10 + 10 * s + 3) = nI 1 := eg.trans hg
      obtain ⟨g', e', r', f'⟩ := tail (am_si g 2 9 (am_I g 2 9 + am_I g 2 (10 + 10 * s + 0))) ((FrW.rf g).si2 (by unfold pkj; omega) _) (by
        rw [rr_up (by omega), es, at_ 9 (by omega), hr]
        unfold sldA
        rw [if_pos e, if_pos hg])
      refine ⟨g', ?_, r', f'⟩
      rw [← e']
      simp (disch := first | omega | assumption | decide) only [↓pv_let, ↓pv_jn, ↓reduceIte, pv_bd, ↓pv_ocs, ↓pv_ocn, pv_gdt, pe_gd, pe_clamp, pt_eq, pf_eq, pt_le, pf_le, pt_lt, pf_lt, nI_add, nn_mul, pe_sub, pb_0, pb_1, pb_z, pe_ieq, pe_ine, pe_ik, pP_si, pS_si, pn_si, ps_si, pL_si, decide_true, ofNat_nI, pe_srI, pe_srN, pe_srS, pe_srP, not_true_eq_false, not_false_eq_true, true_and, and_true, and_self, false_and, and_false, nI_m1, nI_ms, Nat.add_sub_cancel, pl_0, pl_1, pl_2, pl_3, pl_4, pl_5, pl_6, pl_7, pl_8, pl_9, pl_10, pl_11, pl_12, pl_13, pl_14, pl_15, pl_16, pl_17, pl_18, pl_19, pl_20, pl_21, pl_22, pl_23, pl_24, pl_25, pl_26, pl_27, pl_28, pl_29, pl_30, pl_31, pl_32, pl_34, pl_36, pl_37, pl_40, pl_41, pl_42, pl_43, pl_45, pl_47, pl_48, pl_50, pl_57, pl_59, pl_60, pl_61, pl_62, pl_64, pl_70, pl_91, pl_93, pl_97, pl_98, pl_99, pl_100, pl_106, pl_122, pl_128, pl_136, pl_142, pl_165, pl_168, pl_170, pl_171, pl_173, pl_175, pl_187, pl_188, pl_189, pl_190, pl_206, pl_211, pl_219, pl_229, pl_255, pl_260, pl_400, pl_500, pl_512, pl_900, pl_999, pl_1000, pl_1001, pl_1005, pl_1020, pl_1023, pl_1024, pl_1103, pl_2000, pl_2040, pl_2176, pl_5660, pl_9999, pl_12345, pl_1000000, pl_1000003, pl_100000000, pl_1000000000, pz_0, pz_1, pz_t, s12_ofSlope, s12_slopeAt, eb', eg', hn1]
    · have eg' : (am_I g 2 (10 + 10 * s + 3) = nI 1) = False := eq_false (fun z => hg (eg.symm.trans z))
      obtain ⟨g', e', r', f'⟩ := tail (am_si g 2 8 (am_I g 2 8 + am_I g 2 (10 + 10 * s + 0))) ((FrW.rf g).si2 (by unfold pkj; omega) _) (by
        rw [rr_up (by omega), es, at_ 8 (by omega), hr]
        unfold sldA
        rw [if_pos e, if_neg hg])
      refine ⟨g', ?_, r', f'⟩
      rw [← e']
      simp (disch := first | omega | assumption | decide) only [↓pv_let, ↓pv_jn, ↓reduceIte, pv_bd, ↓pv_ocs, ↓pv_ocn, pv_gdt, pe_gd, pe_clamp, pt_eq, pf_eq, pt_le, pf_le, pt_lt, pf_lt, nI_add, nn_mul, pe_sub, pb_0, pb_1, pb_z, pe_ieq, pe_ine, pe_ik, pP_si, pS_si, pn_si, ps_si, pL_si, decide_true, ofNat_nI, pe_srI, pe_srN, pe_srS, pe_srP, not_true_eq_false, not_false_eq_true, true_and, and_true, and_self, false_and, and_false, nI_m1, nI_ms, Nat.add_sub_cancel, pl_0, pl_1, pl_2, pl_3, pl_4, pl_5, pl_6, pl_7, pl_8, pl_9, pl_10, pl_11, pl_12, pl_13, pl_14, pl_15, pl_16, pl_17, pl_18, pl_19, pl_20, pl_21, pl_22, pl_23, pl_24, pl_25, pl_26, pl_27, pl_28, pl_29, pl_30, pl_31, pl_32, pl_34, pl_36, pl_37, pl_40, pl_41, pl_42, pl_43, pl_45, pl_47, pl_48, pl_50, pl_57, pl_59, pl_60, pl_61, pl_62, pl_64, pl_70, pl_91, pl_93, pl_97, pl_98, pl_99, pl_100, pl_106, pl_122, pl_128, pl_136, pl_142, pl_165, pl_168, pl_170, pl_171, pl_173, pl_175, pl_187, pl_188, pl_189, pl_190, pl_206, pl_211, pl_219, pl_229, pl_255, pl_260, pl_400, pl_500, pl_512, pl_900, pl_999, pl_1000, pl_1001, pl_1005, pl_1020, pl_1023, pl_1024, pl_1103, pl_2000, pl_2040, pl_2176, pl_5660, pl_9999, pl_12345, pl_1000000, pl_1000003, pl_100000000, pl_1000000000, pz_0, pz_1, pz_t, s12_ofSlope, s12_slopeAt, eb', eg', hn1]
  · have eb' : am_I g 2 (10 + 10 * s + 2) = nI b := eb.trans e
    have hn1 : (nI b = -nI 1) = False := nI_neg1 (by omega)
    obtain ⟨m1, q1, e1⟩ := hV.snow hb2
    obtain ⟨m2, q2, e2⟩ := hV.snow hs
    obtain ⟨m, q3, e3⟩ := min9 q1 q2
    have e4 : am_I g 2 (10 + 10 * b + 0) + am_I g 2 (10 + 10 * s + 0) = nI m1 + nI m2 := by rw [at_ _ (by omega), at_ _ (by omega), e1, e2]
    have hw : ∀ g0, fX12_within ((am_I g 2 (10 + 10 * b + 0) + am_I g 2 (10 + 10 * s + 0)).toInt64) (nI 0) (nI 9999) g0 = some (am_min (nI 9999) (am_I g 2 (10 + 10 * b + 0) + am_I g 2 (10 + 10 * s + 0)), g0) := by
      intro g0
      rw [q12_within 9999 (by decide), e4, e3]
      by_cases h : nI 0 < nI m
      · rw [show am_max (nI 0) (nI m) = nI m from if_pos h]
      · rw [show am_max (nI 0) (nI m) = nI 0 from if_neg h]
        have : m = 0 := by
          have := (nI_ltI (a := 0) (b := m) (by decide) (by omega)).mpr
          exact Nat.eq_zero_of_not_pos fun z => h (this z)
        rw [this]
    obtain ⟨g', e', r', f'⟩ := tail (am_si g 2 (10 + 10 * b + 0) (am_min (nI 9999) (am_I g 2 (10 + 10 * b + 0) + am_I g 2 (10 + 10 * s + 0)))) ((FrW.rf g).si2 (by unfold pkj; omega) _) (by
      rw [rr_up (by omega), at_ _ (by omega), es, hr]
      unfold sldA
      rw [e, if_neg (nI_m1ne (by omega)), pe_clamp (by omega)])
    refine ⟨g', ?_, r', f'⟩
    rw [← e']
    simp (disch := first | omega | assumption | decide) only [↓pv_let, ↓pv_jn, ↓reduceIte, pv_bd, ↓pv_ocs, ↓pv_ocn, pv_gdt, pe_gd, pe_clamp, pt_eq, pf_eq, pt_le, pf_le, pt_lt, pf_lt, nI_add, nn_mul, pe_sub, pb_0, pb_1, pb_z, pe_ieq, pe_ine, pe_ik, pP_si, pS_si, pn_si, ps_si, pL_si, decide_true, ofNat_nI, pe_srI, pe_srN, pe_srS, pe_srP, not_true_eq_false, not_false_eq_true, true_and, and_true, and_self, false_and, and_false, nI_m1, nI_ms, Nat.add_sub_cancel, pl_0, pl_1, pl_2, pl_3, pl_4, pl_5, pl_6, pl_7, pl_8, pl_9, pl_10, pl_11, pl_12, pl_13, pl_14, pl_15, pl_16, pl_17, pl_18, pl_19, pl_20, pl_21, pl_22, pl_23, pl_24, pl_25, pl_26, pl_27, pl_28, pl_29, pl_30, pl_31, pl_32, pl_34, pl_36, pl_37, pl_40, pl_41, pl_42, pl_43, pl_45, pl_47, pl_48, pl_50, pl_57, pl_59, pl_60, pl_61, pl_62, pl_64, pl_70, pl_91, pl_93, pl_97, pl_98, pl_99, pl_100, pl_106, pl_122, pl_128, pl_136, pl_142, pl_165, pl_168, pl_170, pl_171, pl_173, pl_175, pl_187, pl_188, pl_189, pl_190, pl_206, pl_211, pl_219, pl_229, pl_255, pl_260, pl_400, pl_500, pl_512, pl_900, pl_999, pl_1000, pl_1001, pl_1005, pl_1020, pl_1023, pl_1024, pl_1103, pl_2000, pl_2040, pl_2176, pl_5660, pl_9999, pl_12345, pl_1000000, pl_1000003, pl_100000000, pl_1000000000, pz_0, pz_1, pz_t, s12_ofSlope, s12_slopeAt, eb', hn1, hw]
/-! stable slopes -/
theorem sld1_lo {ρ : Row} (hV : okV ρ) {s : Nat} (hs : s < 6) {j : Nat} (hj : 10 ≤ j ∧ j < 10 + 10 * s) : sld1 ρ s j = ρ j := by
  unfold sld1
  have m : ∀ n, n ≤ 6 → mvp (sldB (sldA ρ s) s) s n j = sldB (sldA ρ s) s j := by
    intro n
    induction n with
    | zero => intro _; rfl
    | succ n ih => intro hn; rw [mvp, am_up_ne (by omega), am_up_ne (by omega)]; exact ih (by omega)
  rw [m 6 (Nat.le_refl _)]
  unfold sldB
  rw [am_up_ne (by omega), am_up_ne (by omega), am_up_ne (by omega)]
  unfold sldA
  rcases hV.below hs with e | ⟨b, hb1, hb2, e⟩
  · rw [if_pos e]
    split
    · rw [am_up_ne (by omega)]
    · rw [am_up_ne (by omega)]
  · rw [e, if_neg (nI_m1ne (by omega)), pe_clamp (by omega), am_up_ne (by omega)]
theorem sld1_s (ρ : Row) {s : Nat} (hs : s < 6) : sld1 ρ s (10 + 10 * s + 0) = nI 0 := by
  unfold sld1
  have m : ∀ n, n ≤ 6 → mvp (sldB (sldA ρ s) s) s n (10 + 10 * s + 0) = sldB (sldA ρ s) s (10 + 10 * s + 0) := by
    intro n
    induction n with
    | zero => intro _; rfl
    | succ n ih => intro hn; rw [mvp, am_up_ne (by omega), am_up_ne (by omega)]; exact ih (by omega)
  rw [m 6 (Nat.le_refl _)]
  unfold sldB
  rw [am_up_ne (by omega), am_up_ne (by omega), am_up_eq]
theorem unst_sld {ρ : Row} (hV : okV ρ) {s : Nat} (hs : s < 6) (hst : ∀ t, t < s → unst ρ t = false) : ∀ t, t < s + 1 → unst (sld1 ρ s) t = false := by
  intro t ht
  by_cases h : t = s
  · subst h
    unfold unst
    rw [sld1_s ρ hs]
    simp
  · have := hst t (by omega)
    unfold unst at this ⊢
    rw [sld1_lo hV hs (by omega), sld1_lo hV hs (by omega), sld1_lo hV hs (by omega)]
    exact this
theorem slidesStep {g : am_G} {s : Nat} {ρ : Row} (hs : s < 6) (hr : rr g = ρ) (hu : unst ρ s = false) (n c : Nat) : fX12_slides_L4 (n + 1) (nI c) (nI s) g = fX12_slides_L4 n (nI c) (nI (s + 1)) g := by
  have es : am_I g 2 (10 + 10 * s + 0) = ρ (10 + 10 * s + 0) := by rw [← hr, rr_at (by omega)]
  have et : am_I g 2 (10 + 10 * s + 8) = ρ (10 + 10 * s + 8) := by rw [← hr, rr_at (by omega)]
  have eh : am_I g 2 (10 + 10 * s + 1) = ρ (10 + 10 * s + 1) := by rw [← hr, rr_at (by omega)]
  unfold unst at hu
  rw [fX12_slides_L4]
  by_cases n1 : ρ (10 + 10 * s + 0) ≤ nI 0
  · simp (disch := first | omega | assumption | decide) only [↓pv_let, ↓pv_jn, ↓reduceIte, pv_bd, ↓pv_ocs, ↓pv_ocn, pv_gdt, pe_gd, pe_clamp, pt_eq, pf_eq, pt_le, pf_le, pt_lt, pf_lt, nI_add, nn_mul, pe_sub, pb_0, pb_1, pb_z, pe_ieq, pe_ine, pe_ik, pP_si, pS_si, pn_si, ps_si, pL_si, decide_true, ofNat_nI, pe_srI, pe_srN, pe_srS, pe_srP, not_true_eq_false, not_false_eq_true, true_and, and_true, and_self, false_and, and_false, nI_m1, nI_ms, Nat.add_sub_cancel, pl_0, pl_1, pl_2, pl_3, pl_4, pl_5, pl_6, pl_7, pl_8, pl_9, pl_10, pl_11, pl_12, pl_13, pl_14, pl_15, pl_16, pl_17, pl_18, pl_19, pl_20, pl_21, pl_22, pl_23, pl_24, pl_25, pl_26, pl_27, pl_28, pl_29, pl_30, pl_31, pl_32, pl_34, pl_36, pl_37, pl_40, pl_41, pl_42, pl_43, pl_45, pl_47, pl_48, pl_50, pl_57, pl_59, pl_60, pl_61, pl_62, pl_64, pl_70, pl_91, pl_93, pl_97, pl_98, pl_99, pl_100, pl_106, pl_122, pl_128, pl_136, pl_142, pl_165, pl_168, pl_170, pl_171, pl_173, pl_175, pl_187, pl_188, pl_189, pl_190, pl_206, pl_211, pl_219, pl_229, pl_255, pl_260, pl_400, pl_500, pl_512, pl_900, pl_999, pl_1000, pl_1001, pl_1005, pl_1020, pl_1023, pl_1024, pl_1103, pl_2000, pl_2040, pl_2176, pl_5660, pl_9999, pl_12345, pl_1000000, pl_1000003, pl_100000000, pl_1000000000, pz_0, pz_1, pz_t, s12_ofSlope, es, n1]
  · have n2 : ρ (10 + 10 * s + 0) + ρ (10 + 10 * s + 8) ≤ ρ (10 + 10 * s + 1) := by
      refine Int32.not_lt.mp fun z => ?_
      rw [decide_eq_true (Int32.not_le.mp n1), decide_eq_true z] at hu
      exact absurd hu (by decide)
    simp (disch := first | omega | assumption | decide) only [↓pv_let, ↓pv_jn, ↓reduceIte, pv_bd, ↓pv_ocs, ↓pv_ocn, pv_gdt, pe_gd, pe_clamp, pt_eq, pf_eq, pt_le, pf_le, pt_lt, pf_lt, nI_add, nn_mul, pe_sub, pb_0, pb_1, pb_z, pe_ieq, pe_ine, pe_ik, pP_si, pS_si, pn_si, ps_si, pL_si, decide_true, ofNat_nI, pe_srI, pe_srN, pe_srS, pe_srP, not_true_eq_false, not_false_eq_true, true_and, and_true, and_self, false_and, and_false, nI_m1, nI_ms, Nat.add_sub_cancel, pl_0, pl_1, pl_2, pl_3, pl_4, pl_5, pl_6, pl_7, pl_8, pl_9, pl_10, pl_11, pl_12, pl_13, pl_14, pl_15, pl_16, pl_17, pl_18, pl_19, pl_20, pl_21, pl_22, pl_23, pl_24, pl_25, pl_26, pl_27, pl_28, pl_29, pl_30, pl_31, pl_32, pl_34, pl_36, pl_37, pl_40, pl_41, pl_42, pl_43, pl_45, pl_47, pl_48, pl_50, pl_57, pl_59, pl_60, pl_61, pl_62, pl_64, pl_70, pl_91, pl_93, pl_97, pl_98, pl_99, pl_100, pl_106, pl_122, pl_128, pl_136, pl_142, pl_165, pl_168, pl_170, pl_171, pl_173, pl_175, pl_187, pl_188, pl_189, pl_190, pl_206, pl_211, pl_219, pl_229, pl_255, pl_260, pl_400, pl_500, pl_512, pl_900, pl_999, pl_1000, pl_1001, pl_1005, pl_1020, pl_1023, pl_1024, pl_1103, pl_2000, pl_2040, pl_2176, pl_5660, pl_9999, pl_12345, pl_1000000, pl_1000003, pl_100000000, pl_1000000000, pz_0, pz_1, pz_t, s12_ofSlope, es, et, eh, n1, n2]
theorem slidesWalk {g : am_G} {ρ : Row} (hr : rr g = ρ) (n c : Nat) : ∀ s, s ≤ 6 → (∀ t, t < s → unst ρ t = false) → fX12_slides_L4 (n + s) (nI c) (nI 0) g = fX12_slides_L4 n (nI c) (nI s) g
  | 0, _, _ => rfl
  | s + 1, hs, h => by
    have := slidesWalk hr (n + 1) c s (by omega) (fun t ht => h t (by omega))
    rw [show n + (s + 1) = n + 1 + s by omega, this]
    exact slidesStep (by omega) hr (h s (by omega)) n c
theorem slidesL : ∀ (d s n c : Nat) (g : am_G) (ρ : Row), s + d = 6 → 8 * d < n → c ≤ s → rr g = ρ → okV ρ → (∀ t, t < s → unst ρ t = false) → ∃ g', fX12_slides_L4 n (nI c) (nI s) g = some (nI (c + (sldU d s ρ).1), g') ∧ rr g' = (sldU d s ρ).2 ∧ FrW g g'
  | 0, s, n, c, g, ρ, hd, hn, hc, hr, hV, hst => by
    obtain ⟨n, rfl⟩ : ∃ n', n = n' + 1 := ⟨n - 1, by omega⟩
    obtain rfl : s = 6 := by omega
    refine ⟨g, ?_, hr, FrW.rf g⟩
    rw [fX12_slides_L4]
    simp (disch := first | omega | assumption | decide) only [↓pv_let, ↓pv_jn, ↓reduceIte, pv_bd, ↓pv_ocs, ↓pv_ocn, pv_gdt, pe_gd, pe_clamp, pt_eq, pf_eq, pt_le, pf_le, pt_lt, pf_lt, nI_add, nn_mul, pe_sub, pb_0, pb_1, pb_z, pe_ieq, pe_ine, pe_ik, pP_si, pS_si, pn_si, ps_si, pL_si, decide_true, ofNat_nI, pe_srI, pe_srN, pe_srS, pe_srP, not_true_eq_false, not_false_eq_true, true_and, and_true, and_self, false_and, and_false, nI_m1, nI_ms, Nat.add_sub_cancel, pl_0, pl_1, pl_2, pl_3, pl_4, pl_5, pl_6, pl_7, pl_8, pl_9, pl_10, pl_11, pl_12, pl_13, pl_14, pl_15, pl_16, pl_17, pl_18, pl_19, pl_20, pl_21, pl_22, pl_23, pl_24, pl_25, pl_26, pl_27, pl_28, pl_29, pl_30, pl_31, pl_32, pl_34, pl_36, pl_37, pl_40, pl_41, pl_42, pl_43, pl_45, pl_47, pl_48, pl_50, pl_57, pl_59, pl_60, pl_61, pl_62, pl_64, pl_70, pl_91, pl_93, pl_97, pl_98, pl_99, pl_100, pl_106, pl_122, pl_128, pl_136, pl_142, pl_165, pl_168, pl_170, pl_171, pl_173, pl_175, pl_187, pl_188, pl_189, pl_190, pl_206, pl_211, pl_219, pl_229, pl_255, pl_260, pl_400, pl_500, pl_512, pl_900, pl_999, pl_1000, pl_1001, pl_1005, pl_1020, pl_1023, pl_1024, pl_1103, pl_2000, pl_2040, pl_2176, pl_5660, pl_9999, pl_12345, pl_1000000, pl_1000003, pl_100000000, pl_1000000000, pz_0, pz_1, pz_t]
    rfl
  | d + 1, s, n, c, g, ρ, hd, hn, hc, hr, hV, hst => by
    have hs : s < 6 := by omega
    rw [sldU]
    by_cases hu : unst ρ s = true
    · rw [if_pos hu]
      obtain ⟨n, rfl⟩ : ∃ n', n = n' + (s + 1) + 1 := ⟨n - (s + 2), by omega⟩
      have es : am_I g 2 (10 + 10 * s + 0) = ρ (10 + 10 * s + 0) := by rw [← hr, rr_at (by omega)]
      have et : am_I g 2 (10 + 10 * s + 8) = ρ (10 + 10 * s + 8) := by rw [← hr, rr_at (by omega)]
      have eh : am_I g 2 (10 + 10 * s + 1) = ρ (10 + 10 * s + 1) := by rw [← hr, rr_at (by omega)]
      have hu' := hu
      unfold unst at hu'
      rw [Bool.and_eq_true, decide_eq_true_eq, decide_eq_true_eq] at hu'
      have n1 : (ρ (10 + 10 * s + 0) ≤ nI 0) = False := eq_false (Int32.not_le.mpr hu'.1)
      have n2 : (ρ (10 + 10 * s + 0) + ρ (10 + 10 * s + 8) ≤ ρ (10 + 10 * s + 1)) = False := eq_false (Int32.not_le.mpr hu'.2)
      obtain ⟨g1, e1, r1, f1⟩ := q12_slide hs hr hV
      have hst1 := unst_sld hV hs hst
      obtain ⟨g', e', r', f'⟩ := slidesL d (s + 1) n (c + 1) g1 (sld1 ρ s) (by omega) (by omega) (by omega) r1 (sld1_ok hV hs) hst1
      refine ⟨g', ?_, r', f1.tr f'⟩
      rw [show c + ((sldU d (s + 1) (sld1 ρ s)).1 + 1) = c + 1 + (sldU d (s + 1) (sld1 ρ s)).1 by omega, ← e', ← slidesWalk r1 n (c + 1) (s + 1) (by omega) hst1, fX12_slides_L4]
      simp (disch := first | omega | assumption | decide) only [↓pv_let, ↓pv_jn, ↓reduceIte, pv_bd, ↓pv_ocs, ↓pv_ocn, pv_gdt, pe_gd, pe_clamp, pt_eq, pf_eq, pt_le, pf_le, pt_lt, pf_lt, nI_add, nn_mul, pe_sub, pb_0, pb_1, pb_z, pe_ieq, pe_ine, pe_ik, pP_si, pS_si, pn_si, ps_si, pL_si, decide_true, ofNat_nI, pe_srI, pe_srN, pe_srS, pe_srP, not_true_eq_false, not_false_eq_true, true_and, and_true, and_self, false_and, and_false, nI_m1, nI_ms, Nat.add_sub_cancel, pl_0, pl_1, pl_2, pl_3, pl_4, pl_5, pl_6, pl_7, pl_8, pl_9, pl_10, pl_11, pl_12, pl_13, pl_14, pl_15, pl_16, pl_17, pl_18, pl_19, pl_20, pl_21, pl_22, pl_23, pl_24, pl_25, pl_26, pl_27, pl_28, pl_29, pl_30, pl_31, pl_32, pl_34, pl_36, pl_37, pl_40, pl_41, pl_42, pl_43, pl_45, pl_47, pl_48, pl_50, pl_57, pl_59, pl_60, pl_61, pl_62, pl_64, pl_70, pl_91, pl_93, pl_97, pl_98, pl_99, pl_100, pl_106, pl_122, pl_128, pl_136, pl_142, pl_165, pl_168, pl_170, pl_171, pl_173, pl_175, pl_187, pl_188, pl_189, pl_190, pl_206, pl_211, pl_219, pl_229, pl_255, pl_260, pl_400, pl_500, pl_512, pl_900, pl_999, pl_1000, pl_1001, pl_1005, pl_1020, pl_1023, pl_1024, pl_1103, pl_2000, pl_2040, pl_2176, pl_5660, pl_9999, pl_12345, pl_1000000, pl_1000003, pl_100000000, pl_1000000000, pz_0, pz_1, pz_t, s12_ofSlope, es, et, eh, n1, n2, e1]
    · rw [if_neg hu]
      have hu' : unst ρ s = false := by simpa using hu
      obtain ⟨n, rfl⟩ : ∃ n', n = n' + 1 := ⟨n - 1, by omega⟩
      obtain ⟨g', e', r', f'⟩ := slidesL d (s + 1) n c g ρ (by omega) (by omega) (by omega) hr hV (fun t ht => by
        by_cases h : t = s
        · rw [h]; exact hu'
        · exact hst t (by omega))
      exact ⟨g', by rw [slidesStep hs hr hu']; exact e', r', f'⟩
theorem q12_slides {g : am_G} {ρ : Row} (hr : rr g = ρ) (hV : okV ρ) : ∃ g', fX12_slides g = some (nI (sldU 6 0 ρ).1, g') ∧ rr g' = (sldU 6 0 ρ).2 ∧ FrW g g' := by
  obtain ⟨g', e, r, f⟩ := slidesL 6 0 am_fu 0 g ρ rfl (by decide) (Nat.le_refl _) hr hV (fun t ht => absurd ht (by omega))
  rw [Nat.zero_add] at e
  exact ⟨g', e, r, f⟩
/-! sayIt -/
theorem okV_rr {g : am_G} {ρ : Row} (hr : rr g = ρ) (hV : okV ρ) : okV (am_I g 2) := hV.cg fun j hj hs => by rw [← hr, rr_at hj]
theorem ag_rr {g : am_G} {ρ : Row} (hr : rr g = ρ) : agV (am_I g 2) ρ := fun j hj _ => by rw [← hr, rr_at hj]
theorem sayL1 {k : am_G → Option (Int32 × am_G)} {a1 : Int32} {w pl l : Nat} {q : Option pLw} {ρ : Row} (hw : w < 16) (hpl : pl < 4) (hl : l ≤ 3) (hV : okV ρ) : ∀ (d s n : Nat) (g : am_G), s + d = 6 → d < n → LawR (am_I g 2) q → am_I g 0 20 = nI 0 → rr g = ρ → (∀ t, t < s → am_I g 21 t = shk q ρ w pl l t) → ∃ g', fX12_sayIt_L3 k a1 (nI w) (nI pl) (nI l) n (nI s) g = k g' ∧ am_I g' 2 = am_I g 2 ∧ (∀ t, t < 6 → am_I g' 21 t = shk q ρ w pl l t) ∧ FrW g g'
  | 0, s, n, g, hd, hn, hq, h20, hr, hsh => by
    obtain ⟨n, rfl⟩ : ∃ n', n = n' + 1 := ⟨n - 1, by omega⟩
    obtain rfl : s = 6 := by omega
    refine ⟨g, ?_, rfl, hsh, FrW.rf g⟩
    rw [fX12_sayIt_L3]
    simp (disch := first | omega | assumption | decide) only [↓pv_let, ↓pv_jn, ↓reduceIte, pv_bd, ↓pv_ocs, ↓pv_ocn, pv_gdt, pe_gd, pe_clamp, pt_eq, pf_eq, pt_le, pf_le, pt_lt, pf_lt, nI_add, nn_mul, pe_sub, pb_0, pb_1, pb_z, pe_ieq, pe_ine, pe_ik, pP_si, pS_si, pn_si, ps_si, pL_si, decide_true, ofNat_nI, pe_srI, pe_srN, pe_srS, pe_srP, not_true_eq_false, not_false_eq_true, true_and, and_true, and_self, false_and, and_false, nI_m1, nI_ms, Nat.add_sub_cancel, pl_0, pl_1, pl_2, pl_3, pl_4, pl_5, pl_6, pl_7, pl_8, pl_9, pl_10, pl_11, pl_12, pl_13, pl_14, pl_15, pl_16, pl_17, pl_18, pl_19, pl_20, pl_21, pl_22, pl_23, pl_24, pl_25, pl_26, pl_27, pl_28, pl_29, pl_30, pl_31, pl_32, pl_34, pl_36, pl_37, pl_40, pl_41, pl_42, pl_43, pl_45, pl_47, pl_48, pl_50, pl_57, pl_59, pl_60, pl_61, pl_62, pl_64, pl_70, pl_91, pl_93, pl_97, pl_98, pl_99, pl_100, pl_106, pl_122, pl_128, pl_136, pl_142, pl_165, pl_168, pl_170, pl_171, pl_173, pl_175, pl_187, pl_188, pl_189, pl_190, pl_206, pl_211, pl_219, pl_229, pl_255, pl_260, pl_400, pl_500, pl_512, pl_900, pl_999, pl_1000, pl_1001, pl_1005, pl_1020, pl_1023, pl_1024, pl_1103, pl_2000, pl_2040, pl_2176, pl_5660, pl_9999, pl_12345, pl_1000000, pl_1000003, pl_100000000, pl_1000000000, pz_0, pz_1, pz_t]
  | d + 1, s, n, g, hd, hn, hq, h20, hr, hsh => by
    obtain ⟨n, rfl⟩ : ∃ n', n = n' + 1 := ⟨n - 1, by omega⟩
    have hs : s < 6 := by omega
    obtain ⟨g1, e1, f1⟩ := q12_shakesOf hq h20 (okV_rr hr hV) hw hpl hl hs
    rw [shk_cg (ag_rr hr) l hw hpl hs] at e1
    have r1 : am_I g1 2 = am_I g 2 := f1.row (by decide)
    have f2 : FrW g (am_si g1 21 s (shk q ρ w pl l s)) := f1.W.si21 _ _
    have r2 : am_I (am_si g1 21 s (shk q ρ w pl l s)) 2 = am_I g 2 := by rw [pI_si_ne _ _ _ (by decide)]; exact r1
    obtain ⟨g', e', r', s', f'⟩ := sayL1 (k := k) (a1 := a1) hw hpl hl hV d (s + 1) n (am_si g1 21 s (shk q ρ w pl l s)) (by omega) (by omega) (by rw [r2]; exact hq) (by rw [pI_si_ne _ _ _ (by decide), f1.at (by decide)]; exact h20) (by rw [rr_cg r2]; exact hr) (fun t ht => by
      by_cases h : t = s
      · subst h; rw [pe_ieq]
      · rw [pe_ik h, f1.at (by omega)]; exact hsh t (by omega))
    refine ⟨g', ?_, r'.trans r2, s', f2.tr f'⟩
    rw [← e', fX12_sayIt_L3]
    simp (disch := first | omega | assumption | decide) only [↓pv_let, ↓pv_jn, ↓reduceIte, pv_bd, ↓pv_ocs, ↓pv_ocn, pv_gdt, pe_gd, pe_clamp, pt_eq, pf_eq, pt_le, pf_le, pt_lt, pf_lt, nI_add, nn_mul, pe_sub, pb_0, pb_1, pb_z, pe_ieq, pe_ine, pe_ik, pP_si, pS_si, pn_si, ps_si, pL_si, decide_true, ofNat_nI, pe_srI, pe_srN, pe_srS, pe_srP, not_true_eq_false, not_false_eq_true, true_and, and_true, and_self, false_and, and_false, nI_m1, nI_ms, Nat.add_sub_cancel, pl_0, pl_1, pl_2, pl_3, pl_4, pl_5, pl_6, pl_7, pl_8, pl_9, pl_10, pl_11, pl_12, pl_13, pl_14, pl_15, pl_16, pl_17, pl_18, pl_19, pl_20, pl_21, pl_22, pl_23, pl_24, pl_25, pl_26, pl_27, pl_28, pl_29, pl_30, pl_31, pl_32, pl_34, pl_36, pl_37, pl_40, pl_41, pl_42, pl_43, pl_45, pl_47, pl_48, pl_50, pl_57, pl_59, pl_60, pl_61, pl_62, pl_64, pl_70, pl_91, pl_93, pl_97, pl_98, pl_99, pl_100, pl_106, pl_122, pl_128, pl_136, pl_142, pl_165, pl_168, pl_170, pl_171, pl_173, pl_175, pl_187, pl_188, pl_189, pl_190, pl_206, pl_211, pl_219, pl_229, pl_255, pl_260, pl_400, pl_500, pl_512, pl_900, pl_999, pl_1000, pl_1001, pl_1005, pl_1020, pl_1023, pl_1024, pl_1103, pl_2000, pl_2040, pl_2176, pl_5660, pl_9999, pl_12345, pl_1000000, pl_1000003, pl_100000000, pl_1000000000, pz_0, pz_1, pz_t, e1]
theorem sayL2 {i : Nat} {ρ : Row} {sh : Nat → Int32} (hi : i < 6) (hV : okV ρ) : ∀ (d s n : Nat) (g : am_G), s + d = 6 → d < n → rr g = prs ρ i sh s → (∀ t, t < 6 → am_I g 21 t = sh t) → ∃ g', fX12_sayIt_L36 (nI i) n (nI s) g = some (nI (sldU 6 0 (prs ρ i sh 6)).1, g') ∧ rr g' = (sldU 6 0 (prs ρ i sh 6)).2 ∧ FrW g g'
  | 0, s, n, g, hd, hn, hr, hsh => by
    obtain ⟨n, rfl⟩ : ∃ n', n = n' + 1 := ⟨n - 1, by omega⟩
    obtain rfl : s = 6 := by omega
    obtain ⟨g', e, r, f⟩ := q12_slides hr (hV.cg (prs_ag ρ hi _ 6 (Nat.le_refl _)))
    refine ⟨g', ?_, r, f⟩
    rw [fX12_sayIt_L36]
    simp (disch := first | omega | assumption | decide) only [↓pv_let, ↓pv_jn, ↓reduceIte, pv_bd, ↓pv_ocs, ↓pv_ocn, pv_gdt, pe_gd, pe_clamp, pt_eq, pf_eq, pt_le, pf_le, pt_lt, pf_lt, nI_add, nn_mul, pe_sub, pb_0, pb_1, pb_z, pe_ieq, pe_ine, pe_ik, pP_si, pS_si, pn_si, ps_si, pL_si, decide_true, ofNat_nI, pe_srI, pe_srN, pe_srS, pe_srP, not_true_eq_false, not_false_eq_true, true_and, and_true, and_self, false_and, and_false, nI_m1, nI_ms, Nat.add_sub_cancel, pl_0, pl_1, pl_2, pl_3, pl_4, pl_5, pl_6, pl_7, pl_8, pl_9, pl_10, pl_11, pl_12, pl_13, pl_14, pl_15, pl_16, pl_17, pl_18, pl_19, pl_20, pl_21, pl_22, pl_23, pl_24, pl_25, pl_26, pl_27, pl_28, pl_29, pl_30, pl_31, pl_32, pl_34, pl_36, pl_37, pl_40, pl_41, pl_42, pl_43, pl_45, pl_47, pl_48, pl_50, pl_57, pl_59, pl_60, pl_61, pl_62, pl_64, pl_70, pl_91, pl_93, pl_97, pl_98, pl_99, pl_100, pl_106, pl_122, pl_128, pl_136, pl_142, pl_165, pl_168, pl_170, pl_171, pl_173, pl_175, pl_187, pl_188, pl_189, pl_190, pl_206, pl_211, pl_219, pl_229, pl_255, pl_260, pl_400, pl_500, pl_512, pl_900, pl_999, pl_1000, pl_1001, pl_1005, pl_1020, pl_1023, pl_1024, pl_1103, pl_2000, pl_2040, pl_2176, pl_5660, pl_9999, pl_12345, pl_1000000, pl_1000003, pl_100000000, pl_1000000000, pz_0, pz_1, pz_t, e]
  | d + 1, s, n, g, hd, hn, hr, hsh => by
    obtain ⟨n, rfl⟩ : ∃ n', n = n' + 1 := ⟨n - 1, by omega⟩
    have hs : s < 6 := by omega
    have e21 := hsh s hs
    obtain ⟨g', e', r', f'⟩ := sayL2 hi hV d (s + 1) n (am_si (am_si g 2 (10 + 10 * s + 8) (am_I g 2 (10 + 10 * s + 8) + sh s)) 2 (70 + 6 * s + i) (am_I g 2 (70 + 6 * s + i) + sh s)) (by omega) (by omega) (by
      rw [rr_up (by omega), rr_up (by omega), ← rr_at (g := g) (show 10 + 10 * s + 8 < 259 by omega), ← rr_at (g := g) (show 70 + 6 * s + i < 259 by omega), hr]
      rfl) (fun t ht => by rw [pI_si_ne _ _ _ (by decide), pI_si_ne _ _ _ (by decide)]; exact hsh t ht)
    refine ⟨g', ?_, r', (((FrW.rf g).si2 (by unfold pkj; omega) _).si2 (by unfold pkj; omega) _).tr f'⟩
    rw [← e', fX12_sayIt_L36]
    simp (disch := first | omega | assumption | decide) only [↓pv_let, ↓pv_jn, ↓reduceIte, pv_bd, ↓pv_ocs, ↓pv_ocn, pv_gdt, pe_gd, pe_clamp, pt_eq, pf_eq, pt_le, pf_le, pt_lt, pf_lt, nI_add, nn_mul, pe_sub, pb_0, pb_1, pb_z, pe_ieq, pe_ine, pe_ik, pP_si, pS_si, pn_si, ps_si, pL_si, decide_true, ofNat_nI, pe_srI, pe_srN, pe_srS, pe_srP, not_true_eq_false, not_false_eq_true, true_and, and_true, and_self, false_and, and_false, nI_m1, nI_ms, Nat.add_sub_cancel, pl_0, pl_1, pl_2, pl_3, pl_4, pl_5, pl_6, pl_7, pl_8, pl_9, pl_10, pl_11, pl_12, pl_13, pl_14, pl_15, pl_16, pl_17, pl_18, pl_19, pl_20, pl_21, pl_22, pl_23, pl_24, pl_25, pl_26, pl_27, pl_28, pl_29, pl_30, pl_31, pl_32, pl_34, pl_36, pl_37, pl_40, pl_41, pl_42, pl_43, pl_45, pl_47, pl_48, pl_50, pl_57, pl_59, pl_60, pl_61, pl_62, pl_64, pl_70, pl_91, pl_93, pl_97, pl_98, pl_99, pl_100, pl_106, pl_122, pl_128, pl_136, pl_142, pl_165, pl_168, pl_170, pl_171, pl_173, pl_175, pl_187, pl_188, pl_189, pl_190, pl_206, pl_211, pl_219, pl_229, pl_255, pl_260, pl_400, pl_500, pl_512, pl_900, pl_999, pl_1000, pl_1001, pl_1005, pl_1020, pl_1023, pl_1024, pl_1103, pl_2000, pl_2040, pl_2176, pl_5660, pl_9999, pl_12345, pl_1000000, pl_1000003, pl_100000000, pl_1000000000, pz_0, pz_1, pz_t, s12_slopeAt, e21]
theorem q12_sayIt {g : am_G} {i w pl l : Nat} {q : Option pLw} {ρ : Row} (hi : i < 6) (hw : w < 16) (hpl : pl < 4) (hl : l ≤ 3) (hq : LawR (am_I g 2) q) (h20 : am_I g 0 20 = nI 0) (hr : rr g = ρ) (hV : okV ρ) : ∃ g', fX12_sayIt (nI i) (nI w) (nI pl) (nI l) g = some (nI (sayP q ρ i w pl l).1, g') ∧ rr g' = (sayP q ρ i w pl l).2 ∧ FrW g g' := by
  obtain ⟨g1, e1, r1, s1, f1⟩ := sayL1 (k := fun g11 => fX12_sayIt_L36 (nI i) am_fu (nI 0) g11) (a1 := nI i) hw hpl hl hV 6 0 am_fu g rfl (by decide) hq h20 hr (fun t ht => absurd ht (by omega))
  obtain ⟨g', e', r', f'⟩ := sayL2 hi hV 6 0 am_fu g1 rfl (by decide) ((rr_cg r1).trans hr) s1
  exact ⟨g', e1.trans e', r', f1.tr f'⟩
