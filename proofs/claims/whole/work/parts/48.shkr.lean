/-! ===== the same in the reference ===== -/
theorem FrS.sl {g h : am_G} (h1 : FrS g h) (k : Nat) (x : Int64) : FrS g (am_sl h 18 k x) :=
  ⟨fun a j z => by rw [rI_sl]; exact h1.1 a j z, fun a j y z w => by rw [pL_sl, if_neg (fun e => z e.1)]; exact h1.2.1 a j y z w, h1.2.2⟩
theorem FrS.at {g h : am_G} (h1 : FrS g h) {a k : Nat} (ha : ¬ (a = 0 ∧ (k = 34 ∨ k = 38))) : am_I h a k = am_I g a k := h1.1 a k ha
def SetR (g : am_G) (K : Nat → Int32) : Prop := ∀ k, 1 ≤ k → k ≤ 10 → am_L g 18 k = (K (tkL k)).toInt64
theorem k10 {k : Nat} (h1 : 1 ≤ k) (h2 : k ≤ 10) : k = 1 ∨ k = 2 ∨ k = 3 ∨ k = 4 ∨ k = 5 ∨ k = 6 ∨ k = 7 ∨ k = 8 ∨ k = 9 ∨ k = 10 := by omega
theorem pL_eq (g : am_G) (a k : Nat) (x : Int64) : am_L (am_sl g a k x) a k = x := rLk g a k x
theorem pL_nk {g : am_G} {a k : Nat} {x : Int64} {j : Nat} (h : j ≠ k) : am_L (am_sl g a k x) a j = am_L g a j := by rw [pL_sl, if_neg (fun z => h z.2)]
theorem q12_day (g : am_G) : fX12_day g = some (am_I g 2 6, g) := by
  unfold fX12_day
  simp (disch := first | omega | assumption | decide) only [↓pv_let, ↓pv_jn, ↓reduceIte, pv_bd, ↓pv_ocs, ↓pv_ocn, pv_gdt, pe_gd, pe_clamp, pt_eq, pf_eq, pt_le, pf_le, pt_lt, pf_lt, nI_add, nn_mul, pe_sub, pb_0, pb_1, pb_z, pe_ieq, pe_ine, pe_ik, pP_si, pS_si, pn_si, ps_si, pL_si, decide_true, ofNat_nI, pe_srI, pe_srN, pe_srS, pe_srP, not_true_eq_false, not_false_eq_true, true_and, and_true, and_self, false_and, and_false, nI_m1, nI_ms, Nat.add_sub_cancel, pl_0, pl_1, pl_2, pl_3, pl_4, pl_5, pl_6, pl_7, pl_8, pl_9, pl_10, pl_11, pl_12, pl_13, pl_14, pl_15, pl_16, pl_17, pl_18, pl_19, pl_20, pl_21, pl_22, pl_23, pl_24, pl_25, pl_26, pl_27, pl_28, pl_29, pl_30, pl_31, pl_32, pl_34, pl_36, pl_37, pl_40, pl_41, pl_42, pl_43, pl_45, pl_47, pl_48, pl_50, pl_57, pl_59, pl_60, pl_61, pl_62, pl_64, pl_70, pl_91, pl_93, pl_97, pl_98, pl_99, pl_100, pl_106, pl_122, pl_128, pl_136, pl_142, pl_165, pl_168, pl_170, pl_171, pl_173, pl_175, pl_187, pl_188, pl_189, pl_190, pl_206, pl_211, pl_219, pl_229, pl_255, pl_260, pl_400, pl_500, pl_512, pl_900, pl_999, pl_1000, pl_1001, pl_1005, pl_1020, pl_1023, pl_1024, pl_1103, pl_2000, pl_2040, pl_2176, pl_5660, pl_9999, pl_12345, pl_1000000, pl_1000003, pl_100000000, pl_1000000000]
theorem q12_setWord {w : Nat} (hw : w < 16) (p l : Nat) (g : am_G) : ∃ g', fX12_setWord (nI w) (nI p) (nI l) g = some ((), g') ∧ FrS g g' ∧ SetR g' (eB (am_I g 2) w p l) := by
  have hn1 : (nI w = -nI 1) = False := nI_neg1 (by omega)
  refine ⟨am_sl (am_sl (am_sl (am_sl (am_sl (am_sl (am_sl (am_sl (am_sl (am_sl g 18 1 (nI w).toInt64) 18 2 (am_I g 2 (142 + 4 * w + 0)).toInt64) 18 3 (am_I g 2 (142 + 4 * w + 1)).toInt64) 18 4 (nI l).toInt64) 18 5 (nI p).toInt64) 18 6 (-1)) 18 7 (-1)) 18 8 (-1)) 18 9 (am_I g 2 6).toInt64) 18 10 (am_I g 2 7).toInt64, ?_, ?_, ?_⟩
  · unfold fX12_setWord
    simp (disch := first | omega | assumption | decide) only [↓pv_let, ↓pv_jn, ↓reduceIte, pv_bd, ↓pv_ocs, ↓pv_ocn, pv_gdt, pe_gd, pe_clamp, pt_eq, pf_eq, pt_le, pf_le, pt_lt, pf_lt, nI_add, nn_mul, pe_sub, pb_0, pb_1, pb_z, pe_ieq, pe_ine, pe_ik, pP_si, pS_si, pn_si, ps_si, pL_si, decide_true, ofNat_nI, pe_srI, pe_srN, pe_srS, pe_srP, not_true_eq_false, not_false_eq_true, true_and, and_true, and_self, false_and, and_false, nI_m1, nI_ms, Nat.add_sub_cancel, pl_0, pl_1, pl_2, pl_3, pl_4, pl_5, pl_6, pl_7, pl_8, pl_9, pl_10, pl_11, pl_12, pl_13, pl_14, pl_15, pl_16, pl_17, pl_18, pl_19, pl_20, pl_21, pl_22, pl_23, pl_24, pl_25, pl_26, pl_27, pl_28, pl_29, pl_30, pl_31, pl_32, pl_34, pl_36, pl_37, pl_40, pl_41, pl_42, pl_43, pl_45, pl_47, pl_48, pl_50, pl_57, pl_59, pl_60, pl_61, pl_62, pl_64, pl_70, pl_91, pl_93, pl_97, pl_98, pl_99, pl_100, pl_106, pl_122, pl_128, pl_136, pl_142, pl_165, pl_168, pl_170, pl_171, pl_173, pl_175, pl_187, pl_188, pl_189, pl_190, pl_206, pl_211, pl_219, pl_229, pl_255, pl_260, pl_400, pl_500, pl_512, pl_900, pl_999, pl_1000, pl_1001, pl_1005, pl_1020, pl_1023, pl_1024, pl_1103, pl_2000, pl_2040, pl_2176, pl_5660, pl_9999, pl_12345, pl_1000000, pl_1000003, pl_100000000, pl_1000000000, hn1, q12_ofWord, q12_day, rI_sl]
  · exact ((((((((((FrS.rf g).sl _ _).sl _ _).sl _ _).sl _ _).sl _ _).sl _ _).sl _ _).sl _ _).sl _ _).sl _ _
  · intro k h1 h2
    rcases k10 h1 h2 with rfl | rfl | rfl | rfl | rfl | rfl | rfl | rfl | rfl | rfl <;> simp (disch := decide) only [pL_eq, pL_nk] <;> rfl
theorem q12_setNone (g : am_G) : ∃ g', fX12_setWord (-nI 1) (-nI 1) (-nI 1) g = some ((), g') ∧ FrS g g' ∧ am_L g' 18 1 = -1 ∧ am_L g' 18 2 = -1 ∧ am_L g' 18 3 = -1 ∧ am_L g' 18 4 = -1 ∧ am_L g' 18 5 = -1 ∧ am_L g' 18 6 = -1 ∧ am_L g' 18 9 = (am_I g 2 6).toInt64 ∧ am_L g' 18 10 = (am_I g 2 7).toInt64 := by
  have hn1 : (-nI 1 = -nI 1) = True := eq_true rfl
  refine ⟨am_sl (am_sl (am_sl (am_sl (am_sl (am_sl (am_sl (am_sl (am_sl (am_sl g 18 1 (-nI 1).toInt64) 18 2 (-1)) 18 3 (-1)) 18 4 (-nI 1).toInt64) 18 5 (-nI 1).toInt64) 18 6 (-1)) 18 7 (-1)) 18 8 (-1)) 18 9 (am_I g 2 6).toInt64) 18 10 (am_I g 2 7).toInt64, ?_, ?_, ?_⟩
  · unfold fX12_setWord
    simp (disch := first | omega | assumption | decide) only [↓pv_let, ↓pv_jn, ↓reduceIte, pv_bd, ↓pv_ocs, ↓pv_ocn, pv_gdt, pe_gd, pe_clamp, pt_eq, pf_eq, pt_le, pf_le, pt_lt, pf_lt, nI_add, nn_mul, pe_sub, pb_0, pb_1, pb_z, pe_ieq, pe_ine, pe_ik, pP_si, pS_si, pn_si, ps_si, pL_si, decide_true, ofNat_nI, pe_srI, pe_srN, pe_srS, pe_srP, not_true_eq_false, not_false_eq_true, true_and, and_true, and_self, false_and, and_false, nI_m1, nI_ms, Nat.add_sub_cancel, pl_0, pl_1, pl_2, pl_3, pl_4, pl_5, pl_6, pl_7, pl_8, pl_9, pl_10, pl_11, pl_12, pl_13, pl_14, pl_15, pl_16, pl_17, pl_18, pl_19, pl_20, pl_21, pl_22, pl_23, pl_24, pl_25, pl_26, pl_27, pl_28, pl_29, pl_30, pl_31, pl_32, pl_34, pl_36, pl_37, pl_40, pl_41, pl_42, pl_43, pl_45, pl_47, pl_48, pl_50, pl_57, pl_59, pl_60, pl_61, pl_62, pl_64, pl_70, pl_91, pl_93, pl_97, pl_98, pl_99, pl_100, pl_106, pl_122, pl_128, pl_136, pl_142, pl_165, pl_168, pl_170, pl_171, pl_173, pl_175, pl_187, pl_188, pl_189, pl_190, pl_206, pl_211, pl_219, pl_229, pl_255, pl_260, pl_400, pl_500, pl_512, pl_900, pl_999, pl_1000, pl_1001, pl_1005, pl_1020, pl_1023, pl_1024, pl_1103, pl_2000, pl_2040, pl_2176, pl_5660, pl_9999, pl_12345, pl_1000000, pl_1000003, pl_100000000, pl_1000000000, hn1, q12_day, rI_sl]
  · exact ((((((((((FrS.rf g).sl _ _).sl _ _).sl _ _).sl _ _).sl _ _).sl _ _).sl _ _).sl _ _).sl _ _).sl _ _
  · refine ⟨?_, ?_, ?_, ?_, ?_, ?_, ?_, ?_⟩ <;> simp (disch := decide) only [pL_eq, pL_nk] <;> rfl
theorem q12_within {v : Int32} (m : Nat) (hm : m < 2147483648) (g : am_G) : fX12_within v.toInt64 (nI 0) (nI m) g = some (am_max (nI 0) (am_min (nI m) v), g) := by
  unfold fX12_within
  rw [show (0 : Int32) = nI 0 from rfl]
  simp only [cmp_ge', cmp_le', le64]
  show _ = some ((if nI 0 < (if v < nI m then v else nI m) then (if v < nI m then v else nI m) else nI 0), g)
  have h0 : (nI 0).toInt = 0 := rfl
  have hm' : (nI m).toInt = m := nn_toInt hm
  by_cases h1 : nI 0 ≤ v
  · rw [if_pos h1]
    have h1' := Int32.le_iff_toInt_le.mp h1
    by_cases h2 : v ≤ nI m
    · rw [if_pos h2, Int32.toInt32_toInt64]
      have h2' := Int32.le_iff_toInt_le.mp h2
      by_cases h3 : v < nI m
      · rw [if_pos h3]
        by_cases h4 : nI 0 < v
        · rw [if_pos h4]
        · rw [if_neg h4, Int32.le_antisymm h1 (Int32.not_lt.mp h4)]
      · have e : v = nI m := Int32.le_antisymm h2 (Int32.not_lt.mp h3)
        rw [if_neg h3, e]
        by_cases h4 : nI 0 < nI m
        · rw [if_pos h4]
        · rw [if_neg h4]
          rw [e] at h1
          rw [Int32.le_antisymm h1 (Int32.not_lt.mp h4)]
    · rw [if_neg h2, if_neg (fun z => h2 (Int32.le_of_lt z))]
      by_cases h4 : nI 0 < nI m
      · rw [if_pos h4]
      · rw [if_neg h4]
        have : nI 0 ≤ nI m := nI_le (Nat.zero_le _) hm
        rw [Int32.le_antisymm this (Int32.not_lt.mp h4)]
  · rw [if_neg h1]
    have hlt : v < nI 0 := Int32.not_le.mp h1
    have h3 : v < nI m := Int32.lt_of_lt_of_le hlt (nI_le (Nat.zero_le _) hm)
    rw [if_pos h3, if_neg (fun z => absurd hlt (Int32.not_lt.mpr (Int32.le_of_lt z)))]
theorem SetR.lf {g : am_G} {K : Nat → Int32} (h : SetR g K) (h20 : am_I g 0 20 = nI 0) : LfR false g K := ⟨fun _ => ⟨h20, h⟩, fun e => absurd e (by decide)⟩
theorem q12_isBarred {g : am_G} {q : Option pLw} {w p l : Nat} (hq : LawR (am_I g 2) q) (h20 : am_I g 0 20 = nI 0) (hw : w < 16) : ∃ g', fX12_isBarred (nI w) (nI p) (nI l) g = some (pb (brd q (am_I g 2) w p l = true), g') ∧ FrS g g' := by
  obtain ⟨g1, e1, f1, s1⟩ := q12_setWord hw p l g
  obtain ⟨g2, e2, f2⟩ := q12_tells (g := g1) (kd := 3) (q := q) (K := eB (am_I g 2) w p l) (by rw [f1.row (by decide)]; exact hq) (s1.lf (by rw [f1.at (by decide)]; exact h20)) (by decide) 0
  refine ⟨g2, ?_, f1.tr f2⟩
  unfold fX12_isBarred brd
  cases hv : tlv q 3 (eB (am_I g 2) w p l) with
  | none =>
    have hz : (toL none 0 = (1 : Int64)) = False := eq_false (by decide)
    rw [hv] at e2
    simp (disch := first | omega | assumption | decide) only [↓pv_let, ↓pv_jn, ↓reduceIte, pv_bd, ↓pv_ocs, ↓pv_ocn, pv_gdt, pe_gd, pe_clamp, pt_eq, pf_eq, pt_le, pf_le, pt_lt, pf_lt, nI_add, nn_mul, pe_sub, pb_0, pb_1, pb_z, pe_ieq, pe_ine, pe_ik, pP_si, pS_si, pn_si, ps_si, pL_si, decide_true, ofNat_nI, pe_srI, pe_srN, pe_srS, pe_srP, not_true_eq_false, not_false_eq_true, true_and, and_true, and_self, false_and, and_false, nI_m1, nI_ms, Nat.add_sub_cancel, pl_0, pl_1, pl_2, pl_3, pl_4, pl_5, pl_6, pl_7, pl_8, pl_9, pl_10, pl_11, pl_12, pl_13, pl_14, pl_15, pl_16, pl_17, pl_18, pl_19, pl_20, pl_21, pl_22, pl_23, pl_24, pl_25, pl_26, pl_27, pl_28, pl_29, pl_30, pl_31, pl_32, pl_34, pl_36, pl_37, pl_40, pl_41, pl_42, pl_43, pl_45, pl_47, pl_48, pl_50, pl_57, pl_59, pl_60, pl_61, pl_62, pl_64, pl_70, pl_91, pl_93, pl_97, pl_98, pl_99, pl_100, pl_106, pl_122, pl_128, pl_136, pl_142, pl_165, pl_168, pl_170, pl_171, pl_173, pl_175, pl_187, pl_188, pl_189, pl_190, pl_206, pl_211, pl_219, pl_229, pl_255, pl_260, pl_400, pl_500, pl_512, pl_900, pl_999, pl_1000, pl_1001, pl_1005, pl_1020, pl_1023, pl_1024, pl_1103, pl_2000, pl_2040, pl_2176, pl_5660, pl_9999, pl_12345, pl_1000000, pl_1000003, pl_100000000, pl_1000000000, e1, e2, cmp_eq, hz]
    rfl
  | some v =>
    have hz : (toL (some v) 0 = (1 : Int64)) = True := by
      have : v = nI 1 := by
        cases q with
        | none => exact absurd hv (by simp [tlv])
        | some L =>
          have key : ∀ n, lwN L.2 3 (eB (am_I g 2) w p l) n = some v → v = nI 1 := by
            intro n
            induction n with
            | zero => intro h; exact absurd h (by simp [lwN])
            | succ n ih =>
              intro h
              rw [lwN] at h
              cases hc : clv 3 (eB (am_I g 2) w p l) (L.2 n) with
              | none => rw [hc] at h; exact ih h
              | some u =>
                rw [hc] at h
                have hu : u = v := Option.some.inj h
                rw [← hu]
                unfold clv at hc
                split at hc
                · split at hc
                  · rw [if_pos rfl] at hc; exact (Option.some.inj hc).symm
                  · split at hc
                    · rw [if_pos rfl] at hc; exact (Option.some.inj hc).symm
                    · exact absurd hc (by simp)
                · exact absurd hc (by simp)
          exact key _ hv
      rw [this]
      exact eq_true rfl
    rw [hv] at e2
    simp (disch := first | omega | assumption | decide) only [↓pv_let, ↓pv_jn, ↓reduceIte, pv_bd, ↓pv_ocs, ↓pv_ocn, pv_gdt, pe_gd, pe_clamp, pt_eq, pf_eq, pt_le, pf_le, pt_lt, pf_lt, nI_add, nn_mul, pe_sub, pb_0, pb_1, pb_z, pe_ieq, pe_ine, pe_ik, pP_si, pS_si, pn_si, ps_si, pL_si, decide_true, ofNat_nI, pe_srI, pe_srN, pe_srS, pe_srP, not_true_eq_false, not_false_eq_true, true_and, and_true, and_self, false_and, and_false, nI_m1, nI_ms, Nat.add_sub_cancel, pl_0, pl_1, pl_2, pl_3, pl_4, pl_5, pl_6, pl_7, pl_8, pl_9, pl_10, pl_11, pl_12, pl_13, pl_14, pl_15, pl_16, pl_17, pl_18, pl_19, pl_20, pl_21, pl_22, pl_23, pl_24, pl_25, pl_26, pl_27, pl_28, pl_29, pl_30, pl_31, pl_32, pl_34, pl_36, pl_37, pl_40, pl_41, pl_42, pl_43, pl_45, pl_47, pl_48, pl_50, pl_57, pl_59, pl_60, pl_61, pl_62, pl_64, pl_70, pl_91, pl_93, pl_97, pl_98, pl_99, pl_100, pl_106, pl_122, pl_128, pl_136, pl_142, pl_165, pl_168, pl_170, pl_171, pl_173, pl_175, pl_187, pl_188, pl_189, pl_190, pl_206, pl_211, pl_219, pl_229, pl_255, pl_260, pl_400, pl_500, pl_512, pl_900, pl_999, pl_1000, pl_1001, pl_1005, pl_1020, pl_1023, pl_1024, pl_1103, pl_2000, pl_2040, pl_2176, pl_5660, pl_9999, pl_12345, pl_1000000, pl_1000003, pl_100000000, pl_1000000000, e1, e2, cmp_eq, hz]
    rfl
theorem mul_small {a b c : Nat} (ha : a ≤ 9) (hb : b ≤ 3) (hc : c ≤ 9) : ∃ v : Int32, nI a * nI b - nI c = v ∧ v.toInt = (a * b : Int) - c ∧ -9 ≤ v.toInt ∧ v.toInt ≤ 27 := by
  refine ⟨_, rfl, ?_⟩
  have key : ∀ a, a < 10 → ∀ b, b < 4 → ∀ c, c < 10 → (nI a * nI b - nI c).toInt = (a * b : Int) - c ∧ -9 ≤ (nI a * nI b - nI c).toInt ∧ (nI a * nI b - nI c).toInt ≤ 27 := by decide +kernel
  exact key a (by omega) b (by omega) c (by omega)
theorem q12_shakesOf {g : am_G} {q : Option pLw} {w p l s : Nat} (hq : LawR (am_I g 2) q) (h20 : am_I g 0 20 = nI 0) (hV : okV (am_I g 2)) (hw : w < 16) (hp : p < 4) (hl : l ≤ 3) (hs : s < 6) : ∃ g', fX12_shakesOf (nI w) (nI p) (nI l) (nI s) g = some (shk q (am_I g 2) w p l s, g') ∧ FrS g g' := by
  obtain ⟨g1, e1, f1, s1⟩ := q12_setWord hw p l g
  have r1 : am_I g1 2 = am_I g 2 := f1.row (by decide)
  have f3 : FrS g (am_sl (am_sl (am_sl g1 18 6 (am_I g 2 (10 + 10 * s + (4 + p))).toInt64) 18 7 (nI s).toInt64) 18 8 (am_I g 2 (10 + 10 * s + 0)).toInt64) := ((f1.sl _ _).sl _ _).sl _ _
  have s3 : SetR (am_sl (am_sl (am_sl g1 18 6 (am_I g 2 (10 + 10 * s + (4 + p))).toInt64) 18 7 (nI s).toInt64) 18 8 (am_I g 2 (10 + 10 * s + 0)).toInt64) (eS (am_I g 2) w p l s) := by
    intro k h1 h2
    have hk := s1 k h1 h2
    rcases k10 h1 h2 with rfl | rfl | rfl | rfl | rfl | rfl | rfl | rfl | rfl | rfl <;> simp (disch := decide) only [pL_eq, pL_nk] <;> first | rfl | (rw [hk]; rfl)
  obtain ⟨m1, b1, ew1⟩ := hV.long hw
  obtain ⟨m2, b2, ew2⟩ := hV.far hs hp
  obtain ⟨x, hx, hx1, hx2, hx3⟩ := mul_small b1 hl b2
  have hx' : am_I g 2 (142 + 4 * w + 0) * nI l - am_I g 2 (10 + 10 * s + (4 + p)) = x := by rw [ew1, ew2]; exact hx
  have e20 : am_I (am_sl (am_sl (am_sl g1 18 6 (am_I g 2 (10 + 10 * s + (4 + p))).toInt64) 18 7 (nI s).toInt64) 18 8 (am_I g 2 (10 + 10 * s + 0)).toInt64) 0 20 = nI 0 := by rw [f3.at (by decide)]; exact h20
  have hLR : LawR (am_I (am_sl (am_sl (am_sl g1 18 6 (am_I g 2 (10 + 10 * s + (4 + p))).toInt64) 18 7 (nI s).toInt64) 18 8 (am_I g 2 (10 + 10 * s + 0)).toInt64) 2) q := by rw [f3.row (by decide)]; exact hq
  by_cases h0 : nI 0 ≤ x
  · obtain ⟨g4, e4, f4⟩ := q12_tells (kd := 0) hLR (s3.lf e20) (by decide) x.toInt64
    refine ⟨g4, ?_, f3.tr f4⟩
    have ev : fX12_within (toL (tlv q 0 (eS (am_I g 2) w p l s)) x.toInt64) (nI 0) (nI 999) g4 = some (shk q (am_I g 2) w p l s, g4) := by
      unfold shk
      cases hv : tlv q 0 (eS (am_I g 2) w p l s) with
      | none =>
        show fX12_within x.toInt64 (nI 0) (nI 999) g4 = some (am_max (nI 0) (am_I g 2 (142 + 4 * w + 0) * nI l - am_I g 2 (10 + 10 * s + (4 + p))), g4)
        rw [q12_within 999 (by decide), hx']
        have : x < nI 999 := Int32.lt_iff_toInt_lt.mpr (by rw [nn_toInt (by decide)]; omega)
        rw [show am_min (nI 999) x = x from if_pos this]
      | some v => exact q12_within 999 (by decide) g4
    unfold fX12_shakesOf
    simp (disch := first | omega | assumption | decide) only [↓pv_let, ↓pv_jn, ↓reduceIte, pv_bd, ↓pv_ocs, ↓pv_ocn, pv_gdt, pe_gd, pe_clamp, pt_eq, pf_eq, pt_le, pf_le, pt_lt, pf_lt, nI_add, nn_mul, pe_sub, pb_0, pb_1, pb_z, pe_ieq, pe_ine, pe_ik, pP_si, pS_si, pn_si, ps_si, pL_si, decide_true, ofNat_nI, pe_srI, pe_srN, pe_srS, pe_srP, not_true_eq_false, not_false_eq_true, true_and, and_true, and_self, false_and, and_false, nI_m1, nI_ms, Nat.add_sub_cancel, pl_0, pl_1, pl_2, pl_3, pl_4, pl_5, pl_6, pl_7, pl_8, pl_9, pl_10, pl_11, pl_12, pl_13, pl_14, pl_15, pl_16, pl_17, pl_18, pl_19, pl_20, pl_21, pl_22, pl_23, pl_24, pl_25, pl_26, pl_27, pl_28, pl_29, pl_30, pl_31, pl_32, pl_34, pl_36, pl_37, pl_40, pl_41, pl_42, pl_43, pl_45, pl_47, pl_48, pl_50, pl_57, pl_59, pl_60, pl_61, pl_62, pl_64, pl_70, pl_91, pl_93, pl_97, pl_98, pl_99, pl_100, pl_106, pl_122, pl_128, pl_136, pl_142, pl_165, pl_168, pl_170, pl_171, pl_173, pl_175, pl_187, pl_188, pl_189, pl_190, pl_206, pl_211, pl_219, pl_229, pl_255, pl_260, pl_400, pl_500, pl_512, pl_900, pl_999, pl_1000, pl_1001, pl_1005, pl_1020, pl_1023, pl_1024, pl_1103, pl_2000, pl_2040, pl_2176, pl_5660, pl_9999, pl_12345, pl_1000000, pl_1000003, pl_100000000, pl_1000000000, e1, s12_ofSlope, q12_ofWord, rI_sl, r1, hx', h0, e4, ev]
  · obtain ⟨g4, e4, f4⟩ := q12_tells (kd := 0) hLR (s3.lf e20) (by decide) 0
    refine ⟨g4, ?_, f3.tr f4⟩
    have ev : fX12_within (toL (tlv q 0 (eS (am_I g 2) w p l s)) 0) (nI 0) (nI 999) g4 = some (shk q (am_I g 2) w p l s, g4) := by
      unfold shk
      cases hv : tlv q 0 (eS (am_I g 2) w p l s) with
      | none =>
        show fX12_within (nI 0).toInt64 (nI 0) (nI 999) g4 = some (am_max (nI 0) (am_I g 2 (142 + 4 * w + 0) * nI l - am_I g 2 (10 + 10 * s + (4 + p))), g4)
        rw [q12_within 999 (by decide), hx']
        rw [show am_min (nI 999) (nI 0) = nI 0 from rfl, show am_max (nI 0) (nI 0) = nI 0 from rfl, show am_max (nI 0) x = nI 0 from if_neg (fun z => h0 (Int32.le_of_lt z))]
      | some v => exact q12_within 999 (by decide) g4
    unfold fX12_shakesOf
    simp (disch := first | omega | assumption | decide) only [↓pv_let, ↓pv_jn, ↓reduceIte, pv_bd, ↓pv_ocs, ↓pv_ocn, pv_gdt, pe_gd, pe_clamp, pt_eq, pf_eq, pt_le, pf_le, pt_lt, pf_lt, nI_add, nn_mul, pe_sub, pb_0, pb_1, pb_z, pe_ieq, pe_ine, pe_ik, pP_si, pS_si, pn_si, ps_si, pL_si, decide_true, ofNat_nI, pe_srI, pe_srN, pe_srS, pe_srP, not_true_eq_false, not_false_eq_true, true_and, and_true, and_self, false_and, and_false, nI_m1, nI_ms, Nat.add_sub_cancel, pl_0, pl_1, pl_2, pl_3, pl_4, pl_5, pl_6, pl_7, pl_8, pl_9, pl_10, pl_11, pl_12, pl_13, pl_14, pl_15, pl_16, pl_17, pl_18, pl_19, pl_20, pl_21, pl_22, pl_23, pl_24, pl_25, pl_26, pl_27, pl_28, pl_29, pl_30, pl_31, pl_32, pl_34, pl_36, pl_37, pl_40, pl_41, pl_42, pl_43, pl_45, pl_47, pl_48, pl_50, pl_57, pl_59, pl_60, pl_61, pl_62, pl_64, pl_70, pl_91, pl_93, pl_97, pl_98, pl_99, pl_100, pl_106, pl_122, pl_128, pl_136, pl_142, pl_165, pl_168, pl_170, pl_171, pl_173, pl_175, pl_187, pl_188, pl_189, pl_190, pl_206, pl_211, pl_219, pl_229, pl_255, pl_260, pl_400, pl_500, pl_512, pl_900, pl_999, pl_1000, pl_1001, pl_1005, pl_1020, pl_1023, pl_1024, pl_1103, pl_2000, pl_2040, pl_2176, pl_5660, pl_9999, pl_12345, pl_1000000, pl_1000003, pl_100000000, pl_1000000000, e1, s12_ofSlope, q12_ofWord, rI_sl, r1, hx', h0, e4, ev]
theorem q12_sky {g : am_G} {q : Option pLw} {s kd : Nat} (hq : LawR (am_I g 2) q) (h20 : am_I g 0 20 = nI 0) (hs : s < 6) (hkd : kd < 4) (x : Int32) : ∃ g', fX12_skyTells (nI kd) (nI s) x.toInt64 g = some (am_max (nI 0) (am_min (nI 99) ((tlv q kd (eW (am_I g 2) s)).getD x)), g') ∧ FrS g g' := by
  obtain ⟨g1, e1, f1, s1, s2, s3, s4, s5, s6, s9, s10⟩ := q12_setNone g
  have r1 : am_I g1 2 = am_I g 2 := f1.row (by decide)
  have f3 : FrS g (am_sl (am_sl g1 18 7 (nI s).toInt64) 18 8 (am_I g 2 (10 + 10 * s + 0)).toInt64) := (f1.sl _ _).sl _ _
  have st : SetR (am_sl (am_sl g1 18 7 (nI s).toInt64) 18 8 (am_I g 2 (10 + 10 * s + 0)).toInt64) (eW (am_I g 2) s) := by
    intro k h1 h2
    rcases k10 h1 h2 with rfl | rfl | rfl | rfl | rfl | rfl | rfl | rfl | rfl | rfl <;> simp (disch := decide) only [pL_eq, pL_nk, s1, s2, s3, s4, s5, s6, s9, s10] <;> rfl
  obtain ⟨g4, e4, f4⟩ := q12_tells (kd := kd) (q := q) (by rw [f3.row (by decide)]; exact hq) (st.lf (by rw [f3.at (by decide)]; exact h20)) hkd x.toInt64
  refine ⟨g4, ?_, f3.tr f4⟩
  have ev : fX12_within (toL (tlv q kd (eW (am_I g 2) s)) x.toInt64) (nI 0) (nI 99) g4 = some (am_max (nI 0) (am_min (nI 99) ((tlv q kd (eW (am_I g 2) s)).getD x)), g4) := by
    cases hv : tlv q kd (eW (am_I g 2) s) with
    | none => exact q12_within 99 (by decide) g4
    | some v => exact q12_within 99 (by decide) g4
  unfold fX12_skyTells
  simp (disch := first | omega | assumption | decide) only [↓pv_let, ↓pv_jn, ↓reduceIte, pv_bd, ↓pv_ocs, ↓pv_ocn, pv_gdt, pe_gd, pe_clamp, pt_eq, pf_eq, pt_le, pf_le, pt_lt, pf_lt, nI_add, nn_mul, pe_sub, pb_0, pb_1, pb_z, pe_ieq, pe_ine, pe_ik, pP_si, pS_si, pn_si, ps_si, pL_si, decide_true, ofNat_nI, pe_srI, pe_srN, pe_srS, pe_srP, not_true_eq_false, not_false_eq_true, true_and, and_true, and_self, false_and, and_false, nI_m1, nI_ms, Nat.add_sub_cancel, pl_0, pl_1, pl_2, pl_3, pl_4, pl_5, pl_6, pl_7, pl_8, pl_9, pl_10, pl_11, pl_12, pl_13, pl_14, pl_15, pl_16, pl_17, pl_18, pl_19, pl_20, pl_21, pl_22, pl_23, pl_24, pl_25, pl_26, pl_27, pl_28, pl_29, pl_30, pl_31, pl_32, pl_34, pl_36, pl_37, pl_40, pl_41, pl_42, pl_43, pl_45, pl_47, pl_48, pl_50, pl_57, pl_59, pl_60, pl_61, pl_62, pl_64, pl_70, pl_91, pl_93, pl_97, pl_98, pl_99, pl_100, pl_106, pl_122, pl_128, pl_136, pl_142, pl_165, pl_168, pl_170, pl_171, pl_173, pl_175, pl_187, pl_188, pl_189, pl_190, pl_206, pl_211, pl_219, pl_229, pl_255, pl_260, pl_400, pl_500, pl_512, pl_900, pl_999, pl_1000, pl_1001, pl_1005, pl_1020, pl_1023, pl_1024, pl_1103, pl_2000, pl_2040, pl_2176, pl_5660, pl_9999, pl_12345, pl_1000000, pl_1000003, pl_100000000, pl_1000000000, e1, s12_ofSlope, rI_sl, r1, e4, ev]
theorem q12_fll {g : am_G} {q : Option pLw} {s : Nat} (hq : LawR (am_I g 2) q) (h20 : am_I g 0 20 = nI 0) (hs : s < 6) : ∃ g', fX12_skyTells (nI 1) (nI s) 10 g = some (fll q (am_I g 2) s, g') ∧ FrS g g' := by
  obtain ⟨g', e, f⟩ := q12_sky (kd := 1) hq h20 hs (by decide) 10
  refine ⟨g', ?_, f⟩
  rw [show (10 : Int64) = (10 : Int32).toInt64 from rfl, e]
  unfold fll
  cases tlv q 1 (eW (am_I g 2) s) <;> rfl
theorem q12_thw {g : am_G} {q : Option pLw} {s : Nat} (hq : LawR (am_I g 2) q) (h20 : am_I g 0 20 = nI 0) (hs : s < 6) : ∃ g', fX12_skyTells (nI 2) (nI s) 0 g = some (thw q (am_I g 2) s, g') ∧ FrS g g' := by
  obtain ⟨g', e, f⟩ := q12_sky (kd := 2) hq h20 hs (by decide) 0
  refine ⟨g', ?_, f⟩
  rw [show (0 : Int64) = (0 : Int32).toInt64 from rfl, e]
  unfold thw
  cases tlv q 2 (eW (am_I g 2) s) <;> rfl
