/-! ===== utter, a night, in the class ===== -/
theorem SaidC.fc {g g' : am_G} {ρ : Row} {w p l : Nat} (h : SaidC g ρ w p l) (e : am_I g' 37 = am_I g 37) : SaidC g' ρ w p l := by
  unfold SaidC at h ⊢
  rw [e]
  exact h
theorem utterL {p i w pl l : Nat} {q : Option pLw} {ρ : Row} (hp : okP p) (hi : i < 6) (hw : w < 16) (hpl : pl < 4) (hl : l ≤ 3) (hV : okV ρ) : ∀ (d s n : Nat) (g : am_G), s + d = 6 → d < n → PkS g p → LawC g q → SaidC g ρ w pl l → vr g 1 p = prs ρ i (shk q ρ w pl l) s → ∃ g', fX11_utter_L26 p (nI i) n (nI s) g = some (nI (sayP q ρ i w pl l).1, g') ∧ vr g' 1 p = (sayP q ρ i w pl l).2 ∧ Fc p g g'
  | 0, s, n, g, hd, hn, hP, hq, hS, hr => by
    obtain ⟨n, rfl⟩ : ∃ n', n = n' + 1 := ⟨n - 1, by omega⟩
    obtain rfl : s = 6 := by omega
    obtain ⟨g', e, r', f'⟩ := q2_slideAll hp.vp hP hr (hV.cg (prs_ag ρ hi _ 6 (Nat.le_refl _)))
    refine ⟨g', ?_, r', f'⟩
    have h0 := hP.1
    rw [fX11_utter_L26]
    simp (disch := first | omega | assumption | decide) only [↓pv_let, ↓pv_jn, ↓reduceIte, pv_bd, ↓pv_ocs, ↓pv_ocn, pv_gdt, pe_gd, pe_clamp, pt_eq, pf_eq, pt_le, pf_le, pt_lt, pf_lt, nI_add, nn_mul, pe_sub, pb_0, pb_1, pb_z, pe_ieq, pe_ine, pe_ik, pP_si, pS_si, pn_si, ps_si, pL_si, decide_true, ofNat_nI, pe_srI, pe_srN, pe_srS, pe_srP, not_true_eq_false, not_false_eq_true, true_and, and_true, and_self, false_and, and_false, nI_m1, nI_ms, Nat.add_sub_cancel, pl_0, pl_1, pl_2, pl_3, pl_4, pl_5, pl_6, pl_7, pl_8, pl_9, pl_10, pl_11, pl_12, pl_13, pl_14, pl_15, pl_16, pl_17, pl_18, pl_19, pl_20, pl_21, pl_22, pl_23, pl_24, pl_25, pl_26, pl_27, pl_28, pl_29, pl_30, pl_31, pl_32, pl_34, pl_36, pl_37, pl_40, pl_41, pl_42, pl_43, pl_45, pl_47, pl_48, pl_50, pl_57, pl_59, pl_60, pl_61, pl_62, pl_64, pl_70, pl_91, pl_93, pl_97, pl_98, pl_99, pl_100, pl_106, pl_122, pl_128, pl_136, pl_142, pl_165, pl_168, pl_170, pl_171, pl_173, pl_175, pl_187, pl_188, pl_189, pl_190, pl_206, pl_211, pl_219, pl_229, pl_255, pl_260, pl_400, pl_500, pl_512, pl_900, pl_999, pl_1000, pl_1001, pl_1005, pl_1020, pl_1023, pl_1024, pl_1103, pl_2000, pl_2040, pl_2176, pl_5660, pl_9999, pl_12345, pl_1000000, pl_1000003, pl_100000000, pl_1000000000, pz_0, pz_1, pz_t, h0, e]
    rfl
  | d + 1, s, n, g, hd, hn, hP, hq, hS, hr => by
    obtain ⟨n, rfl⟩ : ∃ n', n = n' + 1 := ⟨n - 1, by omega⟩
    have hs : s < 6 := by omega
    have hag := prs_ag ρ hi (shk q ρ w pl l) s (by omega)
    have es : am_I g (p + 1) s = ρ (10 + 10 * s + 0) := by rw [r_sn hs, hr]; exact hag _ (by omega) (by unfold stp; omega)
    have ef : am_I g 11 (s * 4 + pl) = ρ (10 + 10 * s + (4 + pl)) := by rw [r_fa (p := p) hs hpl, hr]; exact hag _ (by omega) (by unfold stp; omega)
    obtain ⟨g1, e1, f1, S1⟩ := q0_shakes hq hV hw hpl hl hs hS ef
    have hP1 := hP.eq f1.1
    have hr1 : vr g1 1 p = prs ρ i (shk q ρ w pl l) s := (hp.fa f1).trans hr
    have q1 := q2_press hP1 hs hi (shk q ρ w pl l s)
    have f2 : Fc p g (am_si (am_si g1 (p + 2) s (am_I g1 (p + 2) s + shk q ρ w pl l s)) (p + 3) (s * 6 + i) (am_I g1 (p + 3) (s * 6 + i) + shk q ρ w pl l s)) := (f1.Fc.si (by omega) _ _).si (by omega) _ _
    obtain ⟨g', e', r', f'⟩ := utterL hp hi hw hpl hl hV d (s + 1) n _ (by omega) (by omega) (hP.eq f2.1) (hq.fcp hp f2) (S1.fc (by
      unfold okP at hp
      rw [pI_si_ne _ _ _ (show 37 ≠ p + 3 by omega), pI_si_ne _ _ _ (show 37 ≠ p + 2 by omega)])) (by
      rw [w_pa hp.vp hs hi, w_st hp.vp hs, r_st hs, r_pa hs hi, hr1]
      rfl)
    refine ⟨g', ?_, r', f2.tr f'⟩
    rw [← e', fX11_utter_L26]
    obtain ⟨h0, h1, h2, h3, h4, h5, s1, s2, s3, s4, s5⟩ := hP
    have h0' := hP1.1
    simp (disch := first | omega | assumption | decide) only [↓pv_let, ↓pv_jn, ↓reduceIte, pv_bd, ↓pv_ocs, ↓pv_ocn, pv_gdt, pe_gd, pe_clamp, pt_eq, pf_eq, pt_le, pf_le, pt_lt, pf_lt, nI_add, nn_mul, pe_sub, pb_0, pb_1, pb_z, pe_ieq, pe_ine, pe_ik, pP_si, pS_si, pn_si, ps_si, pL_si, decide_true, ofNat_nI, pe_srI, pe_srN, pe_srS, pe_srP, not_true_eq_false, not_false_eq_true, true_and, and_true, and_self, false_and, and_false, nI_m1, nI_ms, Nat.add_sub_cancel, pl_0, pl_1, pl_2, pl_3, pl_4, pl_5, pl_6, pl_7, pl_8, pl_9, pl_10, pl_11, pl_12, pl_13, pl_14, pl_15, pl_16, pl_17, pl_18, pl_19, pl_20, pl_21, pl_22, pl_23, pl_24, pl_25, pl_26, pl_27, pl_28, pl_29, pl_30, pl_31, pl_32, pl_34, pl_36, pl_37, pl_40, pl_41, pl_42, pl_43, pl_45, pl_47, pl_48, pl_50, pl_57, pl_59, pl_60, pl_61, pl_62, pl_64, pl_70, pl_91, pl_93, pl_97, pl_98, pl_99, pl_100, pl_106, pl_122, pl_128, pl_136, pl_142, pl_165, pl_168, pl_170, pl_171, pl_173, pl_175, pl_187, pl_188, pl_189, pl_190, pl_206, pl_211, pl_219, pl_229, pl_255, pl_260, pl_400, pl_500, pl_512, pl_900, pl_999, pl_1000, pl_1001, pl_1005, pl_1020, pl_1023, pl_1024, pl_1103, pl_2000, pl_2040, pl_2176, pl_5660, pl_9999, pl_12345, pl_1000000, pl_1000003, pl_100000000, pl_1000000000, pz_0, pz_1, pz_t, h0, h1, s1, es, e1, h0', q1]
theorem vr_wd {g : am_G} {p w : Nat} (hw : w < 16) : am_I g 13 w = vr g 1 p (142 + 4 * w + 0) ∧ am_I g 14 w = vr g 1 p (142 + 4 * w + 1) := ⟨r_wd (c := 0) hw (by decide), r_wd (c := 1) hw (by decide)⟩
/-- onDay and ofSaid, one behind the other -/
theorem q0_tell {g : am_G} {p w : Nat} {ρ : Row} (hp : okP p) (hw : w < 16) (pl l : Nat) (hr : vr g 1 p = ρ) : ∃ g1 g2, fX0_onDay (am_I g p 5) g = some ((), g1) ∧ fX0_ofSaid (nI w) (nI pl) (nI l) g1 = some ((), g2) ∧ FcA g g1 ∧ FcA g g2 ∧ SaidC g2 ρ w pl l := by
  obtain ⟨g1, e1, f1, d1, d2, d3⟩ := q0_onDay (am_I g p 5) g
  have r1 : vr g1 1 p = ρ := (hp.fa f1).trans hr
  obtain ⟨g2, e2, f2, S2⟩ := q0_ofSaid (w := w) hw pl l (g := g1) (ρ := ρ) (by rw [(vr_wd (p := p) hw).1, r1]) (by rw [(vr_wd (p := p) hw).2, r1]) (by rw [d2, r_mo (p := p), hr]) (by rw [d1, r_da, hr])
  exact ⟨g1, g2, e1, e2, f1, f1.tr f2, S2⟩
theorem q11_utter {g : am_G} {p i w pl l : Nat} {q : Option pLw} {ρ : Row} (hp : okP p) (hi : i < 6) (hw : w < 16) (hpl : pl < 4) (hl : l ≤ 3) (hP : PkS g p) (hq : LawC g q) (hr : vr g 1 p = ρ) (hV : okV ρ) : ∃ g', fX11_utter p (nI i) (nI w) (nI pl) (nI l) g = some (nI (sayP q ρ i w pl l).1, g') ∧ vr g' 1 p = (sayP q ρ i w pl l).2 ∧ Fc p g g' := by
  obtain ⟨g1, g2, e1, e2, f1, f2, S2⟩ := q0_tell hp hw pl l hr
  obtain ⟨g', e, r', f'⟩ := utterL hp hi hw hpl hl hV 6 0 am_fu g2 rfl (by decide) (hP.eq f2.1) (hq.fc f2) S2 ((hp.fa f2).trans hr)
  refine ⟨g', ?_, r', f2.Fc.tr f'⟩
  have h0 := hP.1
  unfold fX11_utter
  simp (disch := first | omega | assumption | decide) only [↓pv_let, ↓pv_jn, ↓reduceIte, pv_bd, ↓pv_ocs, ↓pv_ocn, pv_gdt, pe_gd, pe_clamp, pt_eq, pf_eq, pt_le, pf_le, pt_lt, pf_lt, nI_add, nn_mul, pe_sub, pb_0, pb_1, pb_z, pe_ieq, pe_ine, pe_ik, pP_si, pS_si, pn_si, ps_si, pL_si, decide_true, ofNat_nI, pe_srI, pe_srN, pe_srS, pe_srP, not_true_eq_false, not_false_eq_true, true_and, and_true, and_self, false_and, and_false, nI_m1, nI_ms, Nat.add_sub_cancel, pl_0, pl_1, pl_2, pl_3, pl_4, pl_5, pl_6, pl_7, pl_8, pl_9, pl_10, pl_11, pl_12, pl_13, pl_14, pl_15, pl_16, pl_17, pl_18, pl_19, pl_20, pl_21, pl_22, pl_23, pl_24, pl_25, pl_26, pl_27, pl_28, pl_29, pl_30, pl_31, pl_32, pl_34, pl_36, pl_37, pl_40, pl_41, pl_42, pl_43, pl_45, pl_47, pl_48, pl_50, pl_57, pl_59, pl_60, pl_61, pl_62, pl_64, pl_70, pl_91, pl_93, pl_97, pl_98, pl_99, pl_100, pl_106, pl_122, pl_128, pl_136, pl_142, pl_165, pl_168, pl_170, pl_171, pl_173, pl_175, pl_187, pl_188, pl_189, pl_190, pl_206, pl_211, pl_219, pl_229, pl_255, pl_260, pl_400, pl_500, pl_512, pl_900, pl_999, pl_1000, pl_1001, pl_1005, pl_1020, pl_1023, pl_1024, pl_1103, pl_2000, pl_2040, pl_2176, pl_5660, pl_9999, pl_12345, pl_1000000, pl_1000003, pl_100000000, pl_1000000000, pz_0, pz_1, pz_t, h0, e1, e2, e]
theorem q11_isBarred {g : am_G} {p w pl l : Nat} {q : Option pLw} {ρ : Row} (hp : okP p) (hw : w < 16) (hpl : pl < 4) (hl : l ≤ 3) (hP : PkS g p) (hq : LawC g q) (hr : vr g 1 p = ρ) (hV : okV ρ) : ∃ g', fX11_isBarred p (nI w) (nI pl) (nI l) g = some (pb (brd q ρ w pl l = true), g') ∧ FcA g g' ∧ SaidC g' ρ w pl l := by
  obtain ⟨g1, g2, e1, e2, f1, f2, S2⟩ := q0_tell hp hw pl l hr
  obtain ⟨g', e, f', S'⟩ := q0_bars (hq.fc f2) hV hw hpl hl S2
  refine ⟨g', ?_, f2.tr f', S'⟩
  have h0 := hP.1
  unfold fX11_isBarred
  simp (disch := first | omega | assumption | decide) only [↓pv_let, ↓pv_jn, ↓reduceIte, pv_bd, ↓pv_ocs, ↓pv_ocn, pv_gdt, pe_gd, pe_clamp, pt_eq, pf_eq, pt_le, pf_le, pt_lt, pf_lt, nI_add, nn_mul, pe_sub, pb_0, pb_1, pb_z, pe_ieq, pe_ine, pe_ik, pP_si, pS_si, pn_si, ps_si, pL_si, decide_true, ofNat_nI, pe_srI, pe_srN, pe_srS, pe_srP, not_true_eq_false, not_false_eq_true, true_and, and_true, and_self, false_and, and_false, nI_m1, nI_ms, Nat.add_sub_cancel, pl_0, pl_1, pl_2, pl_3, pl_4, pl_5, pl_6, pl_7, pl_8, pl_9, pl_10, pl_11, pl_12, pl_13, pl_14, pl_15, pl_16, pl_17, pl_18, pl_19, pl_20, pl_21, pl_22, pl_23, pl_24, pl_25, pl_26, pl_27, pl_28, pl_29, pl_30, pl_31, pl_32, pl_34, pl_36, pl_37, pl_40, pl_41, pl_42, pl_43, pl_45, pl_47, pl_48, pl_50, pl_57, pl_59, pl_60, pl_61, pl_62, pl_64, pl_70, pl_91, pl_93, pl_97, pl_98, pl_99, pl_100, pl_106, pl_122, pl_128, pl_136, pl_142, pl_165, pl_168, pl_170, pl_171, pl_173, pl_175, pl_187, pl_188, pl_189, pl_190, pl_206, pl_211, pl_219, pl_229, pl_255, pl_260, pl_400, pl_500, pl_512, pl_900, pl_999, pl_1000, pl_1001, pl_1005, pl_1020, pl_1023, pl_1024, pl_1103, pl_2000, pl_2040, pl_2176, pl_5660, pl_9999, pl_12345, pl_1000000, pl_1000003, pl_100000000, pl_1000000000, pz_0, pz_1, pz_t, h0, e1, e2, e]
/-! a night -/
theorem fillL {fx a len : Nat} {x : Int32} (hl : len < 1000) : ∀ (d i n : Nat) (g : am_G), i + d = len → d < n → am_S g a = (20, len) → fJ7_fill_53178_L5 fx a x (nI len) n (nI i) g = some ((), am_sr g a (fun k => if i ≤ k ∧ k < len then x else am_I g a k))
  | 0, i, n, g, hd, hn, hS => by
    obtain ⟨n, rfl⟩ : ∃ n', n = n' + 1 := ⟨n - 1, by omega⟩
    obtain rfl : i = len := by omega
    rw [fJ7_fill_53178_L5, if_pos Int32.le_rfl]
    have e : (fun k => if i ≤ k ∧ k < i then x else am_I g a k) = am_I g a := by
      funext k
      rw [if_neg (by omega)]
    rw [e, sr_self]
  | d + 1, i, n, g, hd, hn, hS => by
    obtain ⟨n, rfl⟩ : ∃ n', n = n' + 1 := ⟨n - 1, by omega⟩
    rw [fJ7_fill_53178_L5]
    have IH := fillL (fx := fx) (x := x) hl d (i + 1) n (am_si g a i x) (by omega) (by omega) hS
    simp (disch := first | omega | assumption | decide) only [↓pv_let, ↓pv_jn, ↓reduceIte, pv_bd, ↓pv_ocs, ↓pv_ocn, pv_gdt, pe_gd, pe_clamp, pt_eq, pf_eq, pt_le, pf_le, pt_lt, pf_lt, nI_add, nn_mul, pe_sub, pb_0, pb_1, pb_z, pe_ieq, pe_ine, pe_ik, pP_si, pS_si, pn_si, ps_si, pL_si, decide_true, ofNat_nI, pe_srI, pe_srN, pe_srS, pe_srP, not_true_eq_false, not_false_eq_true, true_and, and_true, and_self, false_and, and_false, nI_m1, nI_ms, Nat.add_sub_cancel, pl_0, pl_1, pl_2, pl_3, pl_4, pl_5, pl_6, pl_7, pl_8, pl_9, pl_10, pl_11, pl_12, pl_13, pl_14, pl_15, pl_16, pl_17, pl_18, pl_19, pl_20, pl_21, pl_22, pl_23, pl_24, pl_25, pl_26, pl_27, pl_28, pl_29, pl_30, pl_31, pl_32, pl_34, pl_36, pl_37, pl_40, pl_41, pl_42, pl_43, pl_45, pl_47, pl_48, pl_50, pl_57, pl_59, pl_60, pl_61, pl_62, pl_64, pl_70, pl_91, pl_93, pl_97, pl_98, pl_99, pl_100, pl_106, pl_122, pl_128, pl_136, pl_142, pl_165, pl_168, pl_170, pl_171, pl_173, pl_175, pl_187, pl_188, pl_189, pl_190, pl_206, pl_211, pl_219, pl_229, pl_255, pl_260, pl_400, pl_500, pl_512, pl_900, pl_999, pl_1000, pl_1001, pl_1005, pl_1020, pl_1023, pl_1024, pl_1103, pl_2000, pl_2040, pl_2176, pl_5660, pl_9999, pl_12345, pl_1000000, pl_1000003, pl_100000000, pl_1000000000, pz_0, pz_1, pz_t, hS]
    rw [IH]
    have e : am_sr (am_si g a i x) a (fun k => if i + 1 ≤ k ∧ k < len then x else am_I (am_si g a i x) a k) = am_sr g a (fun k => if i ≤ k ∧ k < len then x else am_I g a k) := by
      show am_sr (am_sr g a _) a _ = _
      rw [sr_sr]
      congr 1
      funext k
      rw [pI_si_row]
      by_cases h : k = i
      · subst h
        rw [if_neg (by omega), am_up_eq, if_pos (by omega)]
      · rw [am_up_ne h]
        by_cases h2 : i + 1 ≤ k ∧ k < len
        · rw [if_pos h2, if_pos (by omega)]
        · rw [if_neg h2, if_neg (by omega)]
    rw [e]
theorem qJ_fill {fx a len : Nat} (hl : len < 1000) (x : Int32) {g : am_G} (hS : am_S g a = (20, len)) : fJ7_fill_53178 fx a x g = some ((), am_sr g a (fun k => if k < len then x else am_I g a k)) := by
  have h := fillL (fx := fx) (x := x) hl len 0 am_fu g (by omega) (by have : am_fu = 1048576 := rfl; omega) hS
  have e : (fun k => if 0 ≤ k ∧ k < len then x else am_I g a k) = (fun k => if k < len then x else am_I g a k) := by
    funext k
    by_cases h : k < len
    · rw [if_pos h, if_pos ⟨Nat.zero_le _, h⟩]
    · rw [if_neg h, if_neg (fun z => h z.2)]
  rw [e] at h
  unfold fJ7_fill_53178
  simp (disch := first | omega | assumption | decide) only [↓pv_let, ↓pv_jn, ↓reduceIte, pv_bd, ↓pv_ocs, ↓pv_ocn, pv_gdt, pe_gd, pe_clamp, pt_eq, pf_eq, pt_le, pf_le, pt_lt, pf_lt, nI_add, nn_mul, pe_sub, pb_0, pb_1, pb_z, pe_ieq, pe_ine, pe_ik, pP_si, pS_si, pn_si, ps_si, pL_si, decide_true, ofNat_nI, pe_srI, pe_srN, pe_srS, pe_srP, not_true_eq_false, not_false_eq_true, true_and, and_true, and_self, false_and, and_false, nI_m1, nI_ms, Nat.add_sub_cancel, pl_0, pl_1, pl_2, pl_3, pl_4, pl_5, pl_6, pl_7, pl_8, pl_9, pl_10, pl_11, pl_12, pl_13, pl_14, pl_15, pl_16, pl_17, pl_18, pl_19, pl_20, pl_21, pl_22, pl_23, pl_24, pl_25, pl_26, pl_27, pl_28, pl_29, pl_30, pl_31, pl_32, pl_34, pl_36, pl_37, pl_40, pl_41, pl_42, pl_43, pl_45, pl_47, pl_48, pl_50, pl_57, pl_59, pl_60, pl_61, pl_62, pl_64, pl_70, pl_91, pl_93, pl_97, pl_98, pl_99, pl_100, pl_106, pl_122, pl_128, pl_136, pl_142, pl_165, pl_168, pl_170, pl_171, pl_173, pl_175, pl_187, pl_188, pl_189, pl_190, pl_206, pl_211, pl_219, pl_229, pl_255, pl_260, pl_400, pl_500, pl_512, pl_900, pl_999, pl_1000, pl_1001, pl_1005, pl_1020, pl_1023, pl_1024, pl_1103, pl_2000, pl_2040, pl_2176, pl_5660, pl_9999, pl_12345, pl_1000000, pl_1000003, pl_100000000, pl_1000000000, pz_0, pz_1, pz_t, hS]
  exact h
theorem vr_eas {g : am_G} {p : Nat} (hp : VP 1 p) (f f' : Nat → Int32) (hf : ∀ k, k < 6 → f k = nI 0) (hf' : ∀ k, k < 36 → f' k = nI 0) : vr (am_sr (am_sr g (p + 2) f) (p + 3) f') 1 p = eas (vr g 1 p) := by
  funext j
  unfold eas
  by_cases hj : j < 259
  · rw [vr_at hj]
    by_cases h1 : (10 ≤ j ∧ j < 70 ∧ (j - 10) % 10 = 8) ∨ (70 ≤ j ∧ j < 106)
    · rw [if_pos h1]
      rcases h1 with h1 | h1
      · obtain ⟨s, hs, rfl⟩ : ∃ s, s < 6 ∧ j = 10 + 10 * s + 8 := ⟨(j - 10) / 10, by omega, by omega⟩
        rw [(va_t (v := 1) (p := p) (vT_s s hs).2.2.2.2.1).1, (va_t (v := 1) (p := p) (vT_s s hs).2.2.2.2.1).2, pI_sr_ne _ _ (by omega), pI_sr_row]
        exact hf s hs
      · obtain ⟨s, i, hs, hi, rfl⟩ : ∃ s i, s < 6 ∧ i < 6 ∧ j = 70 + 6 * s + i := ⟨(j - 70) / 6, (j - 70) % 6, by omega, by omega, by omega⟩
        rw [(va_t (v := 1) (p := p) (vT_p s hs i hi).1).1, (va_t (v := 1) (p := p) (vT_p s hs i hi).1).2, pI_sr_row]
        exact hf' _ (by omega)
    · rw [if_neg h1, vr_at hj]
      have key : ∀ j, j < 259 → ¬ ((10 ≤ j ∧ j < 70 ∧ (j - 10) % 10 = 8) ∨ (70 ≤ j ∧ j < 106)) → ((vT j).1 = true → (vT j).2.1 ≠ 2 ∧ (vT j).2.1 ≠ 3) := by decide +kernel
      have hk := key j hj h1
      have sm := vT_sm j hj
      unfold VP at hp
      have hne : vA 1 p j ≠ p + 2 ∧ vA 1 p j ≠ p + 3 := by
        unfold vA
        cases hc : (vT j).1
        · have := sm.2.1 hc; simp only [if_false, Bool.false_eq_true]; omega
        · have := sm.1 hc; have := hk hc; simp only [if_true]; omega
      rw [pI_sr_ne _ _ hne.2, pI_sr_ne _ _ hne.1]
  · rw [if_neg (by omega)]
    unfold vr
    rw [if_neg hj, if_neg hj]
theorem q2_ease {g : am_G} {p : Nat} (hp : VP 1 p) (hP : PkS g p) : ∃ g', fX2_ease p g = some ((), g') ∧ vr g' 1 p = eas (vr g 1 p) ∧ Fc p g g' := by
  obtain ⟨h0, h1, h2, h3, h4, h5, s1, s2, s3, s4, s5⟩ := hP
  have e1 := qJ_fill (fx := zc_n) (a := p + 2) (len := 6) (by decide) (nI 0) (g := g) s2
  have e2 := qJ_fill (fx := zc_n) (a := p + 3) (len := 36) (by decide) (nI 0) (g := am_sr g (p + 2) (fun k => if k < 6 then nI 0 else am_I g (p + 2) k)) s3
  refine ⟨am_sr (am_sr g (p + 2) (fun k => if k < 6 then nI 0 else am_I g (p + 2) k)) (p + 3) (fun k => if k < 36 then nI 0 else am_I (am_sr g (p + 2) (fun k => if k < 6 then nI 0 else am_I g (p + 2) k)) (p + 3) k), ?_, vr_eas hp _ _ (fun k hk => if_pos hk) (fun k hk => if_pos hk), ((Fc.rf p g).sr (by omega) _).sr (by omega) _⟩
  unfold fX2_ease
  simp (disch := first | omega | assumption | decide) only [↓pv_let, ↓pv_jn, ↓reduceIte, pv_bd, ↓pv_ocs, ↓pv_ocn, pv_gdt, pe_gd, pe_clamp, pt_eq, pf_eq, pt_le, pf_le, pt_lt, pf_lt, nI_add, nn_mul, pe_sub, pb_0, pb_1, pb_z, pe_ieq, pe_ine, pe_ik, pP_si, pS_si, pn_si, ps_si, pL_si, decide_true, ofNat_nI, pe_srI, pe_srN, pe_srS, pe_srP, not_true_eq_false, not_false_eq_true, true_and, and_true, and_self, false_and, and_false, nI_m1, nI_ms, Nat.add_sub_cancel, pl_0, pl_1, pl_2, pl_3, pl_4, pl_5, pl_6, pl_7, pl_8, pl_9, pl_10, pl_11, pl_12, pl_13, pl_14, pl_15, pl_16, pl_17, pl_18, pl_19, pl_20, pl_21, pl_22, pl_23, pl_24, pl_25, pl_26, pl_27, pl_28, pl_29, pl_30, pl_31, pl_32, pl_34, pl_36, pl_37, pl_40, pl_41, pl_42, pl_43, pl_45, pl_47, pl_48, pl_50, pl_57, pl_59, pl_60, pl_61, pl_62, pl_64, pl_70, pl_91, pl_93, pl_97, pl_98, pl_99, pl_100, pl_106, pl_122, pl_128, pl_136, pl_142, pl_165, pl_168, pl_170, pl_171, pl_173, pl_175, pl_187, pl_188, pl_189, pl_190, pl_206, pl_211, pl_219, pl_229, pl_255, pl_260, pl_400, pl_500, pl_512, pl_900, pl_999, pl_1000, pl_1001, pl_1005, pl_1020, pl_1023, pl_1024, pl_1103, pl_2000, pl_2040, pl_2176, pl_5660, pl_9999, pl_12345, pl_1000000, pl_1000003, pl_100000000, pl_1000000000, pz_0, pz_1, pz_t, h0, h2, h3, e1, e2]
theorem nsn_ok (q : Option pLw) (ρ : Row) {s : Nat} (hs : s < 6) : okAt 0 (10 + 10 * s + 0) (nsn q ρ s) := by
  have key : ∀ x : Int32, ∃ m, m ≤ 9999 ∧ am_max (nI 0) (am_min (nI 9999) x) = nI m := by
    intro x
    by_cases h1 : x < nI 9999
    · rw [show am_min (nI 9999) x = x from if_pos h1]
      by_cases h2 : nI 0 < x
      · rw [show am_max (nI 0) x = x from if_pos h2]
        obtain ⟨e1, e2⟩ := nn_of (x := x) (Int32.le_of_lt h2)
        refine ⟨x.toNatClampNeg, ?_, e1⟩
        rw [e1] at h1
        have := (nI_ltI e2 (by decide)).mp h1
        omega
      · exact ⟨0, by decide, if_neg h2⟩
    · rw [show am_min (nI 9999) x = nI 9999 from if_neg h1]
      exact ⟨9999, Nat.le_refl _, rfl⟩
  obtain ⟨m, hm, e⟩ := key (ρ (10 + 10 * s + 0) + fll q (am_up ρ 6 (ρ 6 + nI 1)) s - thw q (am_up ρ 6 (ρ 6 + nI 1)) s)
  unfold nsn
  rw [e]
  exact okAt_sn hs hm
theorem dwnN_at (q : Option pLw) (ρ : Row) : ∀ (n : Nat), n ≤ 6 → ∀ j, (∀ s, s < n → j ≠ 10 + 10 * s + 0) → dwnN q ρ n j = am_up ρ 6 (ρ 6 + nI 1) j
  | 0, _, _, _ => rfl
  | n + 1, hn, j, h => by
    rw [dwnN, am_up_ne (h n (by omega))]
    exact dwnN_at q ρ n (by omega) j (fun s hs => h s (by omega))
theorem okV.dy {ρ : Row} (h : okV ρ) (hd : ρ 6 < nI 999) : okV (am_up ρ 6 (ρ 6 + nI 1)) := by
  obtain ⟨m, hm, e⟩ := h.day
  rw [e] at hd ⊢
  have := (nI_ltI (by omega) (by decide)).mp hd
  rw [nI_add]
  exact h.up (okAt_of (n := 999) (by decide) rfl rfl (by omega) (by decide))
theorem dwnN_ok {q : Option pLw} {ρ : Row} (h : okV ρ) (hd : ρ 6 < nI 999) : ∀ n, n ≤ 6 → okV (dwnN q ρ n)
  | 0, _ => h.dy hd
  | n + 1, hn => (dwnN_ok h hd n (by omega)).up (nsn_ok q ρ (by omega))
theorem eas_ag (ρ : Row) : agV (eas ρ) ρ := by
  intro j h1 h2
  unfold eas
  unfold stp at h2
  rw [if_neg (by omega)]
theorem dwn_ok {q : Option pLw} {ρ : Row} (h : okV ρ) (hd : ρ 6 < nI 999) : okV (dwn q ρ) := (dwnN_ok h hd 6 (Nat.le_refl _)).cg (eas_ag _)
theorem nightL {p : Nat} {q : Option pLw} {ρ : Row} (hp : okP p) (hV : okV ρ) (hdy : ρ 6 < nI 999) : ∀ (d s n : Nat) (g : am_G), s + d = 6 → d < n → PkS g p → LawC g q → am_I g 37 20 = ρ 7 → am_I g 37 22 = ρ 6 + nI 1 → vr g 1 p = dwnN q ρ s → ∃ g', fX11_passNight_L23 p n (nI s) g = some (nI (dwnP q ρ).1, g') ∧ vr g' 1 p = (dwnP q ρ).2 ∧ Fc p g g'
  | 0, s, n, g, hd, hn, hP, hq, h20, h22, hr => by
    obtain ⟨n, rfl⟩ : ∃ n', n = n' + 1 := ⟨n - 1, by omega⟩
    obtain rfl : s = 6 := by omega
    obtain ⟨g1, e1, r1, f1⟩ := q2_ease hp.vp hP
    rw [hr] at r1
    obtain ⟨g', e, r', f'⟩ := q2_slideAll hp.vp (hP.eq f1.1) r1 (dwn_ok hV hdy)
    refine ⟨g', ?_, r', f1.tr f'⟩
    have h0 := hP.1
    have h0' := (hP.eq f1.1).1
    rw [fX11_passNight_L23]
    simp (disch := first | omega | assumption | decide) only [↓pv_let, ↓pv_jn, ↓reduceIte, pv_bd, ↓pv_ocs, ↓pv_ocn, pv_gdt, pe_gd, pe_clamp, pt_eq, pf_eq, pt_le, pf_le, pt_lt, pf_lt, nI_add, nn_mul, pe_sub, pb_0, pb_1, pb_z, pe_ieq, pe_ine, pe_ik, pP_si, pS_si, pn_si, ps_si, pL_si, decide_true, ofNat_nI, pe_srI, pe_srN, pe_srS, pe_srP, not_true_eq_false, not_false_eq_true, true_and, and_true, and_self, false_and, and_false, nI_m1, nI_ms, Nat.add_sub_cancel, pl_0, pl_1, pl_2, pl_3, pl_4, pl_5, pl_6, pl_7, pl_8, pl_9, pl_10, pl_11, pl_12, pl_13, pl_14, pl_15, pl_16, pl_17, pl_18, pl_19, pl_20, pl_21, pl_22, pl_23, pl_24, pl_25, pl_26, pl_27, pl_28, pl_29, pl_30, pl_31, pl_32, pl_34, pl_36, pl_37, pl_40, pl_41, pl_42, pl_43, pl_45, pl_47, pl_48, pl_50, pl_57, pl_59, pl_60, pl_61, pl_62, pl_64, pl_70, pl_91, pl_93, pl_97, pl_98, pl_99, pl_100, pl_106, pl_122, pl_128, pl_136, pl_142, pl_165, pl_168, pl_170, pl_171, pl_173, pl_175, pl_187, pl_188, pl_189, pl_190, pl_206, pl_211, pl_219, pl_229, pl_255, pl_260, pl_400, pl_500, pl_512, pl_900, pl_999, pl_1000, pl_1001, pl_1005, pl_1020, pl_1023, pl_1024, pl_1103, pl_2000, pl_2040, pl_2176, pl_5660, pl_9999, pl_12345, pl_1000000, pl_1000003, pl_100000000, pl_1000000000, pz_0, pz_1, pz_t, h0, e1, h0', e]
    rfl
  | d + 1, s, n, g, hd, hn, hP, hq, h20, h22, hr => by
    obtain ⟨n, rfl⟩ : ∃ n', n = n' + 1 := ⟨n - 1, by omega⟩
    have hs : s < 6 := by omega
    have hs0 : dwnN q ρ s (10 + 10 * s + 0) = ρ (10 + 10 * s + 0) := by rw [dwnN_at q ρ s (by omega) _ (by omega), am_up_ne (by omega)]
    have es : am_I g (p + 1) s = ρ (10 + 10 * s + 0) := by rw [r_sn hs, hr, hs0]
    have es' : am_I g (p + 1) s = (am_up ρ 6 (ρ 6 + nI 1)) (10 + 10 * s + 0) := by rw [es, am_up_ne (by omega)]
    have hV1 := hV.dy hdy
    obtain ⟨g1, e1, f1, W1⟩ := q0_ofWeather (g := g) (ρ := am_up ρ 6 (ρ 6 + nI 1)) hs (by rw [h20, am_up_ne (by decide)]) (by rw [h22, am_up_eq])
    obtain ⟨g2, e2, f2, W2⟩ := q0_falls (hq.fc f1) hV1 hs W1
    obtain ⟨g3, e3, f3, W3⟩ := q0_thaws (hq.fc (f1.tr f2)) hV1 hs W2
    have fA := (f1.tr f2).tr f3
    have h203 : am_I g3 37 20 = ρ 7 := by rw [W3 20 (by decide) (by decide)]; show am_up ρ 6 (ρ 6 + nI 1) 7 = ρ 7; rw [am_up_ne (by decide)]
    have h223 : am_I g3 37 22 = ρ 6 + nI 1 := by rw [W3 22 (by decide) (by decide)]; show am_up ρ 6 (ρ 6 + nI 1) 6 = _; rw [am_up_eq]
    have fB : Fc p g (am_si g3 (p + 1) s (nsn q ρ s)) := fA.Fc.si (by omega) _ _
    have hpp := hp
    unfold okP at hpp
    obtain ⟨g', e', r', f'⟩ := nightL hp hV hdy d (s + 1) n (am_si g3 (p + 1) s (nsn q ρ s)) (by omega) (by omega) (hP.eq fB.1) (hq.fcp hp fB) (by rw [pI_si_ne _ _ _ (by omega)]; exact h203) (by rw [pI_si_ne _ _ _ (by omega)]; exact h223) (by
      rw [w_sn hp.vp hs, hp.fa fA, hr]
      rfl)
    refine ⟨g', ?_, r', fB.tr f'⟩
    rw [← e', fX11_passNight_L23]
    obtain ⟨h0, h1, h2, h3, h4, h5, s1, s2, s3, s4, s5⟩ := hP
    have P1 := (f1).P
    have S1 := (f1).Sh
    have P3 := fA.P
    have S3 := fA.Sh
    have es1 : am_I g1 (p + 1) s = ρ (10 + 10 * s + 0) := by rw [f1.2 (p + 1) (by omega) (by omega)]; exact es
    rw [← es'] at e1
    rw [← es'] at *
    simp (disch := first | omega | assumption | decide) only [↓pv_let, ↓pv_jn, ↓reduceIte, pv_bd, ↓pv_ocs, ↓pv_ocn, pv_gdt, pe_gd, pe_clamp, pt_eq, pf_eq, pt_le, pf_le, pt_lt, pf_lt, nI_add, nn_mul, pe_sub, pb_0, pb_1, pb_z, pe_ieq, pe_ine, pe_ik, pP_si, pS_si, pn_si, ps_si, pL_si, decide_true, ofNat_nI, pe_srI, pe_srN, pe_srS, pe_srP, not_true_eq_false, not_false_eq_true, true_and, and_true, and_self, false_and, and_false, nI_m1, nI_ms, Nat.add_sub_cancel, pl_0, pl_1, pl_2, pl_3, pl_4, pl_5, pl_6, pl_7, pl_8, pl_9, pl_10, pl_11, pl_12, pl_13, pl_14, pl_15, pl_16, pl_17, pl_18, pl_19, pl_20, pl_21, pl_22, pl_23, pl_24, pl_25, pl_26, pl_27, pl_28, pl_29, pl_30, pl_31, pl_32, pl_34, pl_36, pl_37, pl_40, pl_41, pl_42, pl_43, pl_45, pl_47, pl_48, pl_50, pl_57, pl_59, pl_60, pl_61, pl_62, pl_64, pl_70, pl_91, pl_93, pl_97, pl_98, pl_99, pl_100, pl_106, pl_122, pl_128, pl_136, pl_142, pl_165, pl_168, pl_170, pl_171, pl_173, pl_175, pl_187, pl_188, pl_189, pl_190, pl_206, pl_211, pl_219, pl_229, pl_255, pl_260, pl_400, pl_500, pl_512, pl_900, pl_999, pl_1000, pl_1001, pl_1005, pl_1020, pl_1023, pl_1024, pl_1103, pl_2000, pl_2040, pl_2176, pl_5660, pl_9999, pl_12345, pl_1000000, pl_1000003, pl_100000000, pl_1000000000, pz_0, pz_1, pz_t, h0, h1, s1, e1, P1, S1, P3, S3, e2, e3, es1, q11_nearest]
    rfl
theorem q11_night {g : am_G} {p : Nat} {q : Option pLw} {ρ : Row} (hp : okP p) (hP : PkS g p) (hq : LawC g q) (hr : vr g 1 p = ρ) (hV : okV ρ) (hdy : ρ 6 < nI 999) : ∃ g', fX11_passNight p g = some (nI (dwnP q ρ).1, g') ∧ vr g' 1 p = (dwnP q ρ).2 ∧ Fc p g g' := by
  have f0 : Fc p g (am_si g p 5 (am_I g p 5 + nI 1)) := (Fc.rf p g).si (by omega) _ _
  have r0 : vr (am_si g p 5 (am_I g p 5 + nI 1)) 1 p = dwnN q ρ 0 := by rw [w_da hp.vp, r_da, hr]; rfl
  obtain ⟨g1, e1, f1, d1, d2, d3⟩ := q0_onDay (am_I (am_si g p 5 (am_I g p 5 + nI 1)) p 5) (am_si g p 5 (am_I g p 5 + nI 1))
  have fB := f0.tr (FcA.Fc (p := p) f1)
  obtain ⟨g', e', r', f'⟩ := nightL hp hV hdy 6 0 am_fu g1 rfl (by decide) (hP.eq fB.1) (hq.fcp hp fB) (by rw [d2, r_mo (p := p), r0]; show am_up ρ 6 (ρ 6 + nI 1) 7 = ρ 7; rw [am_up_ne (by decide)]) (by rw [d1, r_da, r0]; show am_up ρ 6 (ρ 6 + nI 1) 6 = _; rw [am_up_eq]) ((hp.fa f1).trans r0)
  refine ⟨g', ?_, r', fB.tr f'⟩
  have h0 := hP.1
  unfold fX11_passNight
  simp (disch := first | omega | assumption | decide) only [↓pv_let, ↓pv_jn, ↓reduceIte, pv_bd, ↓pv_ocs, ↓pv_ocn, pv_gdt, pe_gd, pe_clamp, pt_eq, pf_eq, pt_le, pf_le, pt_lt, pf_lt, nI_add, nn_mul, pe_sub, pb_0, pb_1, pb_z, pe_ieq, pe_ine, pe_ik, pP_si, pS_si, pn_si, ps_si, pL_si, decide_true, ofNat_nI, pe_srI, pe_srN, pe_srS, pe_srP, not_true_eq_false, not_false_eq_true, true_and, and_true, and_self, false_and, and_false, nI_m1, nI_ms, Nat.add_sub_cancel, pl_0, pl_1, pl_2, pl_3, pl_4, pl_5, pl_6, pl_7, pl_8, pl_9, pl_10, pl_11, pl_12, pl_13, pl_14, pl_15, pl_16, pl_17, pl_18, pl_19, pl_20, pl_21, pl_22, pl_23, pl_24, pl_25, pl_26, pl_27, pl_28, pl_29, pl_30, pl_31, pl_32, pl_34, pl_36, pl_37, pl_40, pl_41, pl_42, pl_43, pl_45, pl_47, pl_48, pl_50, pl_57, pl_59, pl_60, pl_61, pl_62, pl_64, pl_70, pl_91, pl_93, pl_97, pl_98, pl_99, pl_100, pl_106, pl_122, pl_128, pl_136, pl_142, pl_165, pl_168, pl_170, pl_171, pl_173, pl_175, pl_187, pl_188, pl_189, pl_190, pl_206, pl_211, pl_219, pl_229, pl_255, pl_260, pl_400, pl_500, pl_512, pl_900, pl_999, pl_1000, pl_1001, pl_1005, pl_1020, pl_1023, pl_1024, pl_1103, pl_2000, pl_2040, pl_2176, pl_5660, pl_9999, pl_12345, pl_1000000, pl_1000003, pl_100000000, pl_1000000000, pz_0, pz_1, pz_t, h0, pe_ieq]
  rw [pe_ieq] at e1
  simp (disch := first | omega | assumption | decide) only [↓pv_let, ↓pv_jn, ↓reduceIte, pv_bd, ↓pv_ocs, ↓pv_ocn, pv_gdt, pe_gd, pe_clamp, pt_eq, pf_eq, pt_le, pf_le, pt_lt, pf_lt, nI_add, nn_mul, pe_sub, pb_0, pb_1, pb_z, pe_ieq, pe_ine, pe_ik, pP_si, pS_si, pn_si, ps_si, pL_si, decide_true, ofNat_nI, pe_srI, pe_srN, pe_srS, pe_srP, not_true_eq_false, not_false_eq_true, true_and, and_true, and_self, false_and, and_false, nI_m1, nI_ms, Nat.add_sub_cancel, pl_0, pl_1, pl_2, pl_3, pl_4, pl_5, pl_6, pl_7, pl_8, pl_9, pl_10, pl_11, pl_12, pl_13, pl_14, pl_15, pl_16, pl_17, pl_18, pl_19, pl_20, pl_21, pl_22, pl_23, pl_24, pl_25, pl_26, pl_27, pl_28, pl_29, pl_30, pl_31, pl_32, pl_34, pl_36, pl_37, pl_40, pl_41, pl_42, pl_43, pl_45, pl_47, pl_48, pl_50, pl_57, pl_59, pl_60, pl_61, pl_62, pl_64, pl_70, pl_91, pl_93, pl_97, pl_98, pl_99, pl_100, pl_106, pl_122, pl_128, pl_136, pl_142, pl_165, pl_168, pl_170, pl_171, pl_173, pl_175, pl_187, pl_188, pl_189, pl_190, pl_206, pl_211, pl_219, pl_229, pl_255, pl_260, pl_400, pl_500, pl_512, pl_900, pl_999, pl_1000, pl_1001, pl_1005, pl_1020, pl_1023, pl_1024, pl_1103, pl_2000, pl_2040, pl_2176, pl_5660, pl_9999, pl_12345, pl_1000000, pl_1000003, pl_100000000, pl_1000000000, pz_0, pz_1, pz_t, e1, e']
