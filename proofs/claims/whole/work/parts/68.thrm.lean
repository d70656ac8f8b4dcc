/-! ===== threat, the method ===== -/
/-- how a word shakes, 0 if it can't be said -/
def shb (q : Option pLw) (ρ : Row) (p s w : Nat) : Int32 := if brd q ρ w p 1 then nI 0 else shk q ρ w p 1 s
theorem shb_rg {q : Option pLw} {ρ : Row} (hV : okV ρ) {p s w : Nat} (hw : w < 16) (hp : p < 4) (hs : s < 6) : ∃ m, m ≤ 999 ∧ shb q ρ p s w = nI m := by
  unfold shb
  split
  · exact ⟨0, by decide, rfl⟩
  · exact shk_rg hV hw hp (by decide) hs
theorem thrP1 {q : Option pLw} {ρ : Row} {nw p s : Nat} (hnw : nw ≤ 16) (hp : p < 4) (hs : s < 6) (hV : okV ρ) : ∀ (d w n : Nat) (g : am_G), w + d = nw → d < n → am_I g 12 4 = nI nw → LawC g q → vr g 1 2 = ρ → am_I g 37 20 = ρ 7 → am_I g 37 22 = ρ 6 → (∀ i, i < w → am_I g 63 i = shb q ρ p s i) → ∃ g', fX7_prepare_L19 (nI s) (nI p) n (nI w) g = some ((), g') ∧ FcS g g' ∧ (∀ i, i < nw → am_I g' 63 i = shb q ρ p s i) ∧ am_I g' 64 = am_I g 64
  | 0, w, n, g, hd, hn, h0, hq, hr, h20, h22, hsh => by
    obtain ⟨n, rfl⟩ : ∃ n', n = n' + 1 := ⟨n - 1, by omega⟩
    obtain rfl : w = nw := by omega
    refine ⟨g, ?_, FcS.rf g, hsh, rfl⟩
    rw [fX7_prepare_L19]
    simp (disch := first | omega | assumption | decide) only [↓pv_let, ↓pv_jn, ↓reduceIte, pv_bd, ↓pv_ocs, ↓pv_ocn, pv_gdt, pe_gd, pe_clamp, pt_eq, pf_eq, pt_le, pf_le, pt_lt, pf_lt, nI_add, nn_mul, pe_sub, pb_0, pb_1, pb_z, pe_ieq, pe_ine, pe_ik, pP_si, pS_si, pn_si, ps_si, pL_si, decide_true, ofNat_nI, pe_srI, pe_srN, pe_srS, pe_srP, not_true_eq_false, not_false_eq_true, true_and, and_true, and_self, false_and, and_false, nI_m1, nI_ms, Nat.add_sub_cancel, pl_0, pl_1, pl_2, pl_3, pl_4, pl_5, pl_6, pl_7, pl_8, pl_9, pl_10, pl_11, pl_12, pl_13, pl_14, pl_15, pl_16, pl_17, pl_18, pl_19, pl_20, pl_21, pl_22, pl_23, pl_24, pl_25, pl_26, pl_27, pl_28, pl_29, pl_30, pl_31, pl_32, pl_34, pl_36, pl_37, pl_40, pl_41, pl_42, pl_43, pl_45, pl_47, pl_48, pl_50, pl_57, pl_59, pl_60, pl_61, pl_62, pl_64, pl_70, pl_91, pl_93, pl_97, pl_98, pl_99, pl_100, pl_106, pl_122, pl_128, pl_136, pl_142, pl_165, pl_168, pl_170, pl_171, pl_173, pl_175, pl_187, pl_188, pl_189, pl_190, pl_206, pl_211, pl_219, pl_229, pl_255, pl_260, pl_400, pl_500, pl_512, pl_900, pl_999, pl_1000, pl_1001, pl_1005, pl_1020, pl_1023, pl_1024, pl_1103, pl_2000, pl_2040, pl_2176, pl_5660, pl_9999, pl_12345, pl_1000000, pl_1000003, pl_100000000, pl_1000000000, pz_0, pz_1, pz_t, h0]
  | d + 1, w, n, g, hd, hn, h0, hq, hr, h20, h22, hsh => by
    obtain ⟨n, rfl⟩ : ∃ n', n = n' + 1 := ⟨n - 1, by omega⟩
    have hw : w < 16 := by omega
    obtain ⟨g1, e1, f1, S1⟩ := q0_ofSaid (g := g) (ρ := ρ) hw p 1 (by rw [(vr_wd (p := 2) hw).1, hr]) (by rw [(vr_wd (p := 2) hw).2, hr]) h20 h22
    obtain ⟨g2, e2, f2, S2⟩ := q0_bars (hq.fc f1) hV hw hp (by decide) S1
    have f12 := f1.tr f2
    have r2 : vr g2 1 2 = ρ := ((show okP 2 from Or.inl rfl).fa f12).trans hr
    have key : ∃ g3, (if pb (brd q ρ w p 1 = true) = nI 0 then am_gd (am_in (nI s) 6) (am_bd (fX0_shakes (nI s) (am_I g2 3 s) g2) fun v21 g22 => fX7_prepare_L19 (nI s) (nI p) n (nI (w + 1)) (am_si g22 63 w v21)) else fX7_prepare_L19 (nI s) (nI p) n (nI (w + 1)) (am_si g2 63 w (nI 0))) = fX7_prepare_L19 (nI s) (nI p) n (nI (w + 1)) (am_si g3 63 w (shb q ρ p s w)) ∧ FcA g g3 ∧ SaidC g3 ρ w p 1 := by
      unfold shb
      by_cases hb : brd q ρ w p 1 = true
      · rw [pb_t hb, if_neg (by decide), if_pos hb]
        exact ⟨g2, rfl, f12, S2⟩
      · obtain ⟨g3, e3, f3, S3⟩ := q0_shakes (s := s) (hq.fc f12) hV hw hp (by decide) hs S2 (by rw [r_fa (p := 2) hs hp, r2])
        have es : am_I g2 3 s = ρ (10 + 10 * s + 0) := by rw [← r2]; exact r_sn (p := 2) hs
        rw [pb_f hb, if_pos rfl, if_neg hb, pe_gd (by omega) (by decide), es, e3, pu_bd]
        exact ⟨g3, rfl, f12.tr f3, S3⟩
    obtain ⟨g3, e3, f3, S3⟩ := key
    have fS : FcS g (am_si g3 63 w (shb q ρ p s w)) := f3.S.si (by omega) _ _
    obtain ⟨g', e', f', s', r'⟩ := thrP1 (q := q) hnw hp hs hV d (w + 1) n (am_si g3 63 w (shb q ρ p s w)) (by omega) (by omega) (by rw [pI_si_ne _ _ _ (by decide), f3.2 12 (by decide) (by decide)]; exact h0) ((hq.fc f3).gen rfl (by rw [pI_si_ne _ _ _ (by decide)]) (fun a ha => by rw [pI_si_ne _ _ _ (by omega)])) (by rw [← hr]; exact vr_cg fun a ha => by rw [pI_si_ne _ _ _ (by omega), f3.2 a (by omega) (by omega)]) (by rw [pI_si_ne _ _ _ (by decide)]; exact S3.2.2.2.2.2.1) (by rw [pI_si_ne _ _ _ (by decide)]; exact S3.2.2.2.2.2.2) (fun i hi => by
      by_cases e : i = w
      · subst e; rw [pe_ieq]
      · rw [pe_ik e, f3.2 63 (by decide) (by decide)]; exact hsh i (by omega))
    refine ⟨g', ?_, fS.tr f', s', by rw [r', pI_si_ne _ _ _ (by decide), f3.2 64 (by decide) (by decide)]⟩
    rw [← e', ← e3, fX7_prepare_L19]
    simp (disch := first | omega | assumption | decide) only [↓pv_let, ↓pv_jn, ↓reduceIte, pv_bd, ↓pv_ocs, ↓pv_ocn, pv_gdt, pe_gd, pe_clamp, pt_eq, pf_eq, pt_le, pf_le, pt_lt, pf_lt, nI_add, nn_mul, pe_sub, pb_0, pb_1, pb_z, pe_ieq, pe_ine, pe_ik, pP_si, pS_si, pn_si, ps_si, pL_si, decide_true, ofNat_nI, pe_srI, pe_srN, pe_srS, pe_srP, not_true_eq_false, not_false_eq_true, true_and, and_true, and_self, false_and, and_false, nI_m1, nI_ms, Nat.add_sub_cancel, pl_0, pl_1, pl_2, pl_3, pl_4, pl_5, pl_6, pl_7, pl_8, pl_9, pl_10, pl_11, pl_12, pl_13, pl_14, pl_15, pl_16, pl_17, pl_18, pl_19, pl_20, pl_21, pl_22, pl_23, pl_24, pl_25, pl_26, pl_27, pl_28, pl_29, pl_30, pl_31, pl_32, pl_34, pl_36, pl_37, pl_40, pl_41, pl_42, pl_43, pl_45, pl_47, pl_48, pl_50, pl_57, pl_59, pl_60, pl_61, pl_62, pl_64, pl_70, pl_91, pl_93, pl_97, pl_98, pl_99, pl_100, pl_106, pl_122, pl_128, pl_136, pl_142, pl_165, pl_168, pl_170, pl_171, pl_173, pl_175, pl_187, pl_188, pl_189, pl_190, pl_206, pl_211, pl_219, pl_229, pl_255, pl_260, pl_400, pl_500, pl_512, pl_900, pl_999, pl_1000, pl_1001, pl_1005, pl_1020, pl_1023, pl_1024, pl_1103, pl_2000, pl_2040, pl_2176, pl_5660, pl_9999, pl_12345, pl_1000000, pl_1000003, pl_100000000, pl_1000000000, pz_0, pz_1, pz_t, h0, e1, e2]
theorem thrP2 {a3 x23 : Int32} {q : Option pLw} {ρ : Row} {nw p s : Nat} (hnw : nw ≤ 16) (hp : p < 4) (hs : s < 6) (hV : okV ρ) : ∀ (d w n : Nat) (g : am_G), w + d = nw → d < n → am_I g 2 0 = nI nw → LawR (am_I g 2) q → am_I g 0 20 = nI 0 → rr g = ρ → (∀ i, i < w → am_I g 31 i = shb q ρ p s i) → ∃ g', (∀ k, fX12_threat_L75 k (nI s) (nI p) a3 x23 n (nI w) g = k g') ∧ FrT g g' ∧ (∀ i, i < nw → am_I g' 31 i = shb q ρ p s i)
  | 0, w, n, g, hd, hn, h0, hq, h20, hr, hsh => by
    obtain ⟨n, rfl⟩ : ∃ n', n = n' + 1 := ⟨n - 1, by omega⟩
    obtain rfl : w = nw := by omega
    refine ⟨g, fun k => ?_, FrT.rf g, hsh⟩
    rw [fX12_threat_L75]
    simp (disch := first | omega | assumption | decide) only [↓pv_let, ↓pv_jn, ↓reduceIte, pv_bd, ↓pv_ocs, ↓pv_ocn, pv_gdt, pe_gd, pe_clamp, pt_eq, pf_eq, pt_le, pf_le, pt_lt, pf_lt, nI_add, nn_mul, pe_sub, pb_0, pb_1, pb_z, pe_ieq, pe_ine, pe_ik, pP_si, pS_si, pn_si, ps_si, pL_si, decide_true, ofNat_nI, pe_srI, pe_srN, pe_srS, pe_srP, not_true_eq_false, not_false_eq_true, true_and, and_true, and_self, false_and, and_false, nI_m1, nI_ms, Nat.add_sub_cancel, pl_0, pl_1, pl_2, pl_3, pl_4, pl_5, pl_6, pl_7, pl_8, pl_9, pl_10, pl_11, pl_12, pl_13, pl_14, pl_15, pl_16, pl_17, pl_18, pl_19, pl_20, pl_21, pl_22, pl_23, pl_24, pl_25, pl_26, pl_27, pl_28, pl_29, pl_30, pl_31, pl_32, pl_34, pl_36, pl_37, pl_40, pl_41, pl_42, pl_43, pl_45, pl_47, pl_48, pl_50, pl_57, pl_59, pl_60, pl_61, pl_62, pl_64, pl_70, pl_91, pl_93, pl_97, pl_98, pl_99, pl_100, pl_106, pl_122, pl_128, pl_136, pl_142, pl_165, pl_168, pl_170, pl_171, pl_173, pl_175, pl_187, pl_188, pl_189, pl_190, pl_206, pl_211, pl_219, pl_229, pl_255, pl_260, pl_400, pl_500, pl_512, pl_900, pl_999, pl_1000, pl_1001, pl_1005, pl_1020, pl_1023, pl_1024, pl_1103, pl_2000, pl_2040, pl_2176, pl_5660, pl_9999, pl_12345, pl_1000000, pl_1000003, pl_100000000, pl_1000000000, pz_0, pz_1, pz_t, h0]
  | d + 1, w, n, g, hd, hn, h0, hq, h20, hr, hsh => by
    obtain ⟨n, rfl⟩ : ∃ n', n = n' + 1 := ⟨n - 1, by omega⟩
    have hw : w < 16 := by omega
    obtain ⟨g1, e1, f1⟩ := q12_isBarred (w := w) (p := p) (l := 1) hq h20 hw
    rw [brd_cg (ag_rr hr) p 1 hw] at e1
    have r1 : am_I g1 2 = am_I g 2 := f1.row (by decide)
    have key : ∃ g3, (∀ k, (if pb (brd q ρ w p 1 = true) = nI 0 then am_bd (fX12_shakesOf (nI w) (nI p) (nI 1) (nI s) g1) fun v44 g45 => fX12_threat_L75 k (nI s) (nI p) a3 x23 n (nI (w + 1)) (am_si g45 31 w v44) else fX12_threat_L75 k (nI s) (nI p) a3 x23 n (nI (w + 1)) (am_si g1 31 w (nI 0))) = fX12_threat_L75 k (nI s) (nI p) a3 x23 n (nI (w + 1)) (am_si g3 31 w (shb q ρ p s w))) ∧ FrS g g3 := by
      unfold shb
      by_cases hb : brd q ρ w p 1 = true
      · rw [pb_t hb]
        exact ⟨g1, fun k => by rw [if_neg (by decide), if_pos hb], f1⟩
      · obtain ⟨g3, e3, f3⟩ := q12_shakesOf (g := g1) (q := q) (p := p) (l := 1) (by rw [r1]; exact hq) (by rw [f1.at (by decide)]; exact h20) (by rw [r1]; exact okV_rr hr hV) hw hp (by decide) hs
        rw [r1, shk_cg (ag_rr hr) 1 hw hp hs] at e3
        rw [pb_f hb]
        exact ⟨g3, fun k => by rw [if_pos rfl, if_neg hb, e3, pu_bd], f1.tr f3⟩
    obtain ⟨g3, e3, f3⟩ := key
    have fT : FrT g (am_si g3 31 w (shb q ρ p s w)) := f3.T.si (by unfold scR; omega) _
    have r3 : am_I (am_si g3 31 w (shb q ρ p s w)) 2 = am_I g 2 := by rw [pI_si_ne _ _ _ (by decide), f3.row (by decide)]
    obtain ⟨g', e', f', s'⟩ := thrP2 (a3 := a3) (x23 := x23) (q := q) hnw hp hs hV d (w + 1) n (am_si g3 31 w (shb q ρ p s w)) (by omega) (by omega) (by rw [r3]; exact h0) (by rw [r3]; exact hq) (by rw [pI_si_ne _ _ _ (by decide), f3.at (by decide)]; exact h20) (by rw [rr_cg r3]; exact hr) (fun i hi => by
      by_cases e : i = w
      · subst e; rw [pe_ieq]
      · rw [pe_ik e, f3.at (by omega)]; exact hsh i (by omega))
    refine ⟨g', fun k => ?_, fT.tr f', s'⟩
    rw [← e' k, ← e3 k, fX12_threat_L75]
    simp (disch := first | omega | assumption | decide) only [↓pv_let, ↓pv_jn, ↓reduceIte, pv_bd, ↓pv_ocs, ↓pv_ocn, pv_gdt, pe_gd, pe_clamp, pt_eq, pf_eq, pt_le, pf_le, pt_lt, pf_lt, nI_add, nn_mul, pe_sub, pb_0, pb_1, pb_z, pe_ieq, pe_ine, pe_ik, pP_si, pS_si, pn_si, ps_si, pL_si, decide_true, ofNat_nI, pe_srI, pe_srN, pe_srS, pe_srP, not_true_eq_false, not_false_eq_true, true_and, and_true, and_self, false_and, and_false, nI_m1, nI_ms, Nat.add_sub_cancel, pl_0, pl_1, pl_2, pl_3, pl_4, pl_5, pl_6, pl_7, pl_8, pl_9, pl_10, pl_11, pl_12, pl_13, pl_14, pl_15, pl_16, pl_17, pl_18, pl_19, pl_20, pl_21, pl_22, pl_23, pl_24, pl_25, pl_26, pl_27, pl_28, pl_29, pl_30, pl_31, pl_32, pl_34, pl_36, pl_37, pl_40, pl_41, pl_42, pl_43, pl_45, pl_47, pl_48, pl_50, pl_57, pl_59, pl_60, pl_61, pl_62, pl_64, pl_70, pl_91, pl_93, pl_97, pl_98, pl_99, pl_100, pl_106, pl_122, pl_128, pl_136, pl_142, pl_165, pl_168, pl_170, pl_171, pl_173, pl_175, pl_187, pl_188, pl_189, pl_190, pl_206, pl_211, pl_219, pl_229, pl_255, pl_260, pl_400, pl_500, pl_512, pl_900, pl_999, pl_1000, pl_1001, pl_1005, pl_1020, pl_1023, pl_1024, pl_1103, pl_2000, pl_2040, pl_2176, pl_5660, pl_9999, pl_12345, pl_1000000, pl_1000003, pl_100000000, pl_1000000000, pz_0, pz_1, pz_t, h0, e1]
theorem FrT.sr30 {g h : am_G} (h1 : FrT g h) (f : Nat → Int32) : FrT g (am_sr h 30 f) := ⟨fun b j y => by rw [pI_sr_ne _ _ (show b ≠ 30 from fun z => y (by unfold scR; omega))]; exact h1.1 b j y, h1.2.1, h1.2.2⟩
theorem okV.hold {ρ : Row} (h : okV ρ) {s : Nat} (hs : s < 6) : ∃ m, m ≤ 9999 ∧ ρ (10 + 10 * s + 1) = nI m := by
  have lo : ∀ s, s < 6 → okLo (10 + 10 * s + 1) = 1 ∧ okHi 0 (10 + 10 * s + 1) = 9999 := by decide +kernel
  have h1 := (h (10 + 10 * s + 1) (by omega) (by unfold stp; omega)).1
  rcases h1 with z | z | z | z
  · omega
  · omega
  · omega
  · rw [(lo s hs).1, (lo s hs).2] at z
    have h0 : (0 : Int32) ≤ ρ (10 + 10 * s + 1) := Int32.le_iff_toInt_le.mpr (by have : (0 : Int32).toInt = 0 := rfl; omega)
    obtain ⟨e1, e2⟩ := nn_of h0
    have e3 : (ρ (10 + 10 * s + 1)).toNatClampNeg = (ρ (10 + 10 * s + 1)).toInt.toNat := rfl
    exact ⟨_, by omega, e1⟩
theorem sub3 {a b c : Nat} (ha : a ≤ 9999) (hb : b ≤ 9999) (hc : c < 1000000000) : (nI a - nI b - nI c).toInt = (a : Int) - b - c := by
  have i1 : (nI a - nI b).toInt = (a : Int) - b := by
    rw [Int32.toInt_sub, nn_toInt (show a < 2147483648 by omega), nn_toInt (show b < 2147483648 by omega)]
    exact Int.bmod_eq_of_le (by omega) (by omega)
  rw [Int32.toInt_sub, i1, nn_toInt (show c < 2147483648 by omega)]
  exact Int.bmod_eq_of_le (by omega) (by omega)
