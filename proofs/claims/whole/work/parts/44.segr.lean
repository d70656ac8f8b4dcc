/-! ===== a stretch of the reference's code says D ===== -/
theorem RL_binS {k : Int32 → am_G → Option (Unit × am_G)} {last n top a arg o : Nat} {g : am_G} (hF : FetchR g a (20 + o) arg) (ho : o < 8) (hb : am_I g 0 38 = nI 0) (ha : a < last) (hl : last < 400) (ht : top + 1 < 400) {w : Int64} (hv : fX12_reckon (nI (20 + o)) (am_L g 20 top) (am_L g 20 (top + 1)) g = some (w, g)) (hw : -1000000000 ≤ w ∧ w ≤ 1000000000) : fX12_reckonAll_L10 k (nI last) (n + 1) (nI (top + 1 + 1)) (nI a) g = fX12_reckonAll_L10 k (nI last) n (nI (top + 1)) (nI (a + 1)) (am_sl g 20 top w) := by
  have hs : am_si (am_sl g 20 top w) 0 38 (nI 0) = am_sl g 20 top w := si_self hb
  rw [fX12_reckonAll_L10]
  rcases hF with ⟨h20, b, h34, hbb, ho', hr⟩ | ⟨h20, hi, ho', hr⟩
  · simp (disch := first | omega | assumption | decide) only [↓pv_let, ↓pv_jn, ↓reduceIte, pv_bd, ↓pv_ocs, ↓pv_ocn, pv_gdt, pe_gd, pe_clamp, pt_eq, pf_eq, pt_le, pf_le, pt_lt, pf_lt, nI_add, nn_mul, pe_sub, pb_0, pb_1, pb_z, pe_ieq, pe_ine, pe_ik, pP_si, pS_si, pn_si, ps_si, pL_si, decide_true, ofNat_nI, pe_srI, pe_srN, pe_srS, pe_srP, not_true_eq_false, not_false_eq_true, true_and, and_true, and_self, false_and, and_false, nI_m1, nI_ms, Nat.add_sub_cancel, pl_0, pl_1, pl_2, pl_3, pl_4, pl_5, pl_6, pl_7, pl_8, pl_9, pl_10, pl_11, pl_12, pl_13, pl_14, pl_15, pl_16, pl_17, pl_18, pl_19, pl_20, pl_21, pl_22, pl_23, pl_24, pl_25, pl_26, pl_27, pl_28, pl_29, pl_30, pl_31, pl_32, pl_34, pl_36, pl_37, pl_40, pl_41, pl_42, pl_43, pl_45, pl_47, pl_48, pl_50, pl_57, pl_59, pl_60, pl_61, pl_62, pl_64, pl_70, pl_91, pl_93, pl_97, pl_98, pl_99, pl_100, pl_106, pl_122, pl_128, pl_136, pl_142, pl_165, pl_168, pl_170, pl_171, pl_173, pl_175, pl_187, pl_188, pl_189, pl_190, pl_206, pl_211, pl_219, pl_229, pl_255, pl_260, pl_400, pl_500, pl_512, pl_900, pl_999, pl_1000, pl_1001, pl_1005, pl_1020, pl_1023, pl_1024, pl_1103, pl_2000, pl_2040, pl_2176, pl_5660, pl_9999, pl_12345, pl_1000000, pl_1000003, pl_100000000, pl_1000000000, pz_0, pz_1, pz_t, h20, h34, hb, ho', hr, hv, rI_sl, rLk, q12_in64, hw, hs]
  · simp (disch := first | omega | assumption | decide) only [↓pv_let, ↓pv_jn, ↓reduceIte, pv_bd, ↓pv_ocs, ↓pv_ocn, pv_gdt, pe_gd, pe_clamp, pt_eq, pf_eq, pt_le, pf_le, pt_lt, pf_lt, nI_add, nn_mul, pe_sub, pb_0, pb_1, pb_z, pe_ieq, pe_ine, pe_ik, pP_si, pS_si, pn_si, ps_si, pL_si, decide_true, ofNat_nI, pe_srI, pe_srN, pe_srS, pe_srP, not_true_eq_false, not_false_eq_true, true_and, and_true, and_self, false_and, and_false, nI_m1, nI_ms, Nat.add_sub_cancel, pl_0, pl_1, pl_2, pl_3, pl_4, pl_5, pl_6, pl_7, pl_8, pl_9, pl_10, pl_11, pl_12, pl_13, pl_14, pl_15, pl_16, pl_17, pl_18, pl_19, pl_20, pl_21, pl_22, pl_23, pl_24, pl_25, pl_26, pl_27, pl_28, pl_29, pl_30, pl_31, pl_32, pl_34, pl_36, pl_37, pl_40, pl_41, pl_42, pl_43, pl_45, pl_47, pl_48, pl_50, pl_57, pl_59, pl_60, pl_61, pl_62, pl_64, pl_70, pl_91, pl_93, pl_97, pl_98, pl_99, pl_100, pl_106, pl_122, pl_128, pl_136, pl_142, pl_165, pl_168, pl_170, pl_171, pl_173, pl_175, pl_187, pl_188, pl_189, pl_190, pl_206, pl_211, pl_219, pl_229, pl_255, pl_260, pl_400, pl_500, pl_512, pl_900, pl_999, pl_1000, pl_1001, pl_1005, pl_1020, pl_1023, pl_1024, pl_1103, pl_2000, pl_2040, pl_2176, pl_5660, pl_9999, pl_12345, pl_1000000, pl_1000003, pl_100000000, pl_1000000000, pz_0, pz_1, pz_t, h20, hb, ho', hr, hv, rI_sl, rLk, q12_in64, hw, hs]
theorem RL_binN {k : Int32 → am_G → Option (Unit × am_G)} {last n top a arg o : Nat} {g : am_G} (hF : FetchR g a (20 + o) arg) (ho : o < 8) (hb : am_I g 0 38 = nI 0) (ha : a < last) (hl : last < 400) (ht : top + 1 < 400) {w : Int64} (hv : fX12_reckon (nI (20 + o)) (am_L g 20 top) (am_L g 20 (top + 1)) g = some (w, g)) (hw : ¬ (-1000000000 ≤ w ∧ w ≤ 1000000000)) : fX12_reckonAll_L10 k (nI last) (n + 1) (nI (top + 1 + 1)) (nI a) g = fX12_reckonAll_L10 k (nI last) n (nI (top + 1)) (nI (a + 1)) (am_si (am_sl g 20 top w) 0 38 (nI 1)) := by
  rw [fX12_reckonAll_L10]
  rcases hF with ⟨h20, b, h34, hbb, ho', hr⟩ | ⟨h20, hi, ho', hr⟩
  · simp (disch := first | omega | assumption | decide) only [↓pv_let, ↓pv_jn, ↓reduceIte, pv_bd, ↓pv_ocs, ↓pv_ocn, pv_gdt, pe_gd, pe_clamp, pt_eq, pf_eq, pt_le, pf_le, pt_lt, pf_lt, nI_add, nn_mul, pe_sub, pb_0, pb_1, pb_z, pe_ieq, pe_ine, pe_ik, pP_si, pS_si, pn_si, ps_si, pL_si, decide_true, ofNat_nI, pe_srI, pe_srN, pe_srS, pe_srP, not_true_eq_false, not_false_eq_true, true_and, and_true, and_self, false_and, and_false, nI_m1, nI_ms, Nat.add_sub_cancel, pl_0, pl_1, pl_2, pl_3, pl_4, pl_5, pl_6, pl_7, pl_8, pl_9, pl_10, pl_11, pl_12, pl_13, pl_14, pl_15, pl_16, pl_17, pl_18, pl_19, pl_20, pl_21, pl_22, pl_23, pl_24, pl_25, pl_26, pl_27, pl_28, pl_29, pl_30, pl_31, pl_32, pl_34, pl_36, pl_37, pl_40, pl_41, pl_42, pl_43, pl_45, pl_47, pl_48, pl_50, pl_57, pl_59, pl_60, pl_61, pl_62, pl_64, pl_70, pl_91, pl_93, pl_97, pl_98, pl_99, pl_100, pl_106, pl_122, pl_128, pl_136, pl_142, pl_165, pl_168, pl_170, pl_171, pl_173, pl_175, pl_187, pl_188, pl_189, pl_190, pl_206, pl_211, pl_219, pl_229, pl_255, pl_260, pl_400, pl_500, pl_512, pl_900, pl_999, pl_1000, pl_1001, pl_1005, pl_1020, pl_1023, pl_1024, pl_1103, pl_2000, pl_2040, pl_2176, pl_5660, pl_9999, pl_12345, pl_1000000, pl_1000003, pl_100000000, pl_1000000000, pz_0, pz_1, pz_t, h20, h34, hb, ho', hr, hv, rI_sl, rLk, q12_in64, hw]
  · simp (disch := first | omega | assumption | decide) only [↓pv_let, ↓pv_jn, ↓reduceIte, pv_bd, ↓pv_ocs, ↓pv_ocn, pv_gdt, pe_gd, pe_clamp, pt_eq, pf_eq, pt_le, pf_le, pt_lt, pf_lt, nI_add, nn_mul, pe_sub, pb_0, pb_1, pb_z, pe_ieq, pe_ine, pe_ik, pP_si, pS_si, pn_si, ps_si, pL_si, decide_true, ofNat_nI, pe_srI, pe_srN, pe_srS, pe_srP, not_true_eq_false, not_false_eq_true, true_and, and_true, and_self, false_and, and_false, nI_m1, nI_ms, Nat.add_sub_cancel, pl_0, pl_1, pl_2, pl_3, pl_4, pl_5, pl_6, pl_7, pl_8, pl_9, pl_10, pl_11, pl_12, pl_13, pl_14, pl_15, pl_16, pl_17, pl_18, pl_19, pl_20, pl_21, pl_22, pl_23, pl_24, pl_25, pl_26, pl_27, pl_28, pl_29, pl_30, pl_31, pl_32, pl_34, pl_36, pl_37, pl_40, pl_41, pl_42, pl_43, pl_45, pl_47, pl_48, pl_50, pl_57, pl_59, pl_60, pl_61, pl_62, pl_64, pl_70, pl_91, pl_93, pl_97, pl_98, pl_99, pl_100, pl_106, pl_122, pl_128, pl_136, pl_142, pl_165, pl_168, pl_170, pl_171, pl_173, pl_175, pl_187, pl_188, pl_189, pl_190, pl_206, pl_211, pl_219, pl_229, pl_255, pl_260, pl_400, pl_500, pl_512, pl_900, pl_999, pl_1000, pl_1001, pl_1005, pl_1020, pl_1023, pl_1024, pl_1103, pl_2000, pl_2040, pl_2176, pl_5660, pl_9999, pl_12345, pl_1000000, pl_1000003, pl_100000000, pl_1000000000, pz_0, pz_1, pz_t, h20, hb, ho', hr, hv, rI_sl, rLk, q12_in64, hw]
theorem RL_binZ {k : Int32 → am_G → Option (Unit × am_G)} {last n top a arg o : Nat} {g : am_G} (hF : FetchR g a (20 + o) arg) (ho : o < 8) (hb : am_I g 0 38 = nI 0) (ha : a < last) (hl : last < 400) (ht : top + 1 < 400) {w : Int64} (hv : fX12_reckon (nI (20 + o)) (am_L g 20 top) (am_L g 20 (top + 1)) g = some (w, am_si g 0 38 (nI 1))) : fX12_reckonAll_L10 k (nI last) (n + 1) (nI (top + 1 + 1)) (nI a) g = fX12_reckonAll_L10 k (nI last) n (nI (top + 1)) (nI (a + 1)) (am_si (am_sl g 20 top w) 0 38 (nI 1)) := by
  have hs : am_si (am_sl (am_si g 0 38 (nI 1)) 20 top w) 0 38 (nI 1) = am_si (am_sl g 20 top w) 0 38 (nI 1) := by
    show am_si (am_si (am_sl g 20 top w) 0 38 (nI 1)) 0 38 (nI 1) = _
    exact si_self (pe_ieq _ _ _ _)
  rw [fX12_reckonAll_L10]
  rcases hF with ⟨h20, b, h34, hbb, ho', hr⟩ | ⟨h20, hi, ho', hr⟩
  · simp (disch := first | omega | assumption | decide) only [↓pv_let, ↓pv_jn, ↓reduceIte, pv_bd, ↓pv_ocs, ↓pv_ocn, pv_gdt, pe_gd, pe_clamp, pt_eq, pf_eq, pt_le, pf_le, pt_lt, pf_lt, nI_add, nn_mul, pe_sub, pb_0, pb_1, pb_z, pe_ieq, pe_ine, pe_ik, pP_si, pS_si, pn_si, ps_si, pL_si, decide_true, ofNat_nI, pe_srI, pe_srN, pe_srS, pe_srP, not_true_eq_false, not_false_eq_true, true_and, and_true, and_self, false_and, and_false, nI_m1, nI_ms, Nat.add_sub_cancel, pl_0, pl_1, pl_2, pl_3, pl_4, pl_5, pl_6, pl_7, pl_8, pl_9, pl_10, pl_11, pl_12, pl_13, pl_14, pl_15, pl_16, pl_17, pl_18, pl_19, pl_20, pl_21, pl_22, pl_23, pl_24, pl_25, pl_26, pl_27, pl_28, pl_29, pl_30, pl_31, pl_32, pl_34, pl_36, pl_37, pl_40, pl_41, pl_42, pl_43, pl_45, pl_47, pl_48, pl_50, pl_57, pl_59, pl_60, pl_61, pl_62, pl_64, pl_70, pl_91, pl_93, pl_97, pl_98, pl_99, pl_100, pl_106, pl_122, pl_128, pl_136, pl_142, pl_165, pl_168, pl_170, pl_171, pl_173, pl_175, pl_187, pl_188, pl_189, pl_190, pl_206, pl_211, pl_219, pl_229, pl_255, pl_260, pl_400, pl_500, pl_512, pl_900, pl_999, pl_1000, pl_1001, pl_1005, pl_1020, pl_1023, pl_1024, pl_1103, pl_2000, pl_2040, pl_2176, pl_5660, pl_9999, pl_12345, pl_1000000, pl_1000003, pl_100000000, pl_1000000000, pz_0, pz_1, pz_t, h20, h34, hb, ho', hr, hv, rI_sl, hs]
  · simp (disch := first | omega | assumption | decide) only [↓pv_let, ↓pv_jn, ↓reduceIte, pv_bd, ↓pv_ocs, ↓pv_ocn, pv_gdt, pe_gd, pe_clamp, pt_eq, pf_eq, pt_le, pf_le, pt_lt, pf_lt, nI_add, nn_mul, pe_sub, pb_0, pb_1, pb_z, pe_ieq, pe_ine, pe_ik, pP_si, pS_si, pn_si, ps_si, pL_si, decide_true, ofNat_nI, pe_srI, pe_srN, pe_srS, pe_srP, not_true_eq_false, not_false_eq_true, true_and, and_true, and_self, false_and, and_false, nI_m1, nI_ms, Nat.add_sub_cancel, pl_0, pl_1, pl_2, pl_3, pl_4, pl_5, pl_6, pl_7, pl_8, pl_9, pl_10, pl_11, pl_12, pl_13, pl_14, pl_15, pl_16, pl_17, pl_18, pl_19, pl_20, pl_21, pl_22, pl_23, pl_24, pl_25, pl_26, pl_27, pl_28, pl_29, pl_30, pl_31, pl_32, pl_34, pl_36, pl_37, pl_40, pl_41, pl_42, pl_43, pl_45, pl_47, pl_48, pl_50, pl_57, pl_59, pl_60, pl_61, pl_62, pl_64, pl_70, pl_91, pl_93, pl_97, pl_98, pl_99, pl_100, pl_106, pl_122, pl_128, pl_136, pl_142, pl_165, pl_168, pl_170, pl_171, pl_173, pl_175, pl_187, pl_188, pl_189, pl_190, pl_206, pl_211, pl_219, pl_229, pl_255, pl_260, pl_400, pl_500, pl_512, pl_900, pl_999, pl_1000, pl_1001, pl_1005, pl_1020, pl_1023, pl_1024, pl_1103, pl_2000, pl_2040, pl_2176, pl_5660, pl_9999, pl_12345, pl_1000000, pl_1000003, pl_100000000, pl_1000000000, pz_0, pz_1, pz_t, h20, hb, ho', hr, hv, rI_sl, hs]
/-- broken: the loop ends -/
theorem RL_brk {k : Int32 → am_G → Option (Unit × am_G)} {last n : Nat} {x2 x3 : Int32} {g : am_G} (hb : am_I g 0 38 = nI 1) : fX12_reckonAll_L10 k (nI last) (n + 1) x2 x3 g = k x2 g := by
  rw [fX12_reckonAll_L10]
  by_cases h : nI last ≤ x3
  · simp (disch := first | omega | assumption | decide) only [↓pv_let, ↓pv_jn, ↓reduceIte, pv_bd, ↓pv_ocs, ↓pv_ocn, pv_gdt, pe_gd, pe_clamp, pt_eq, pf_eq, pt_le, pf_le, pt_lt, pf_lt, nI_add, nn_mul, pe_sub, pb_0, pb_1, pb_z, pe_ieq, pe_ine, pe_ik, pP_si, pS_si, pn_si, ps_si, pL_si, decide_true, ofNat_nI, pe_srI, pe_srN, pe_srS, pe_srP, not_true_eq_false, not_false_eq_true, true_and, and_true, and_self, false_and, and_false, nI_m1, nI_ms, Nat.add_sub_cancel, pl_0, pl_1, pl_2, pl_3, pl_4, pl_5, pl_6, pl_7, pl_8, pl_9, pl_10, pl_11, pl_12, pl_13, pl_14, pl_15, pl_16, pl_17, pl_18, pl_19, pl_20, pl_21, pl_22, pl_23, pl_24, pl_25, pl_26, pl_27, pl_28, pl_29, pl_30, pl_31, pl_32, pl_34, pl_36, pl_37, pl_40, pl_41, pl_42, pl_43, pl_45, pl_47, pl_48, pl_50, pl_57, pl_59, pl_60, pl_61, pl_62, pl_64, pl_70, pl_91, pl_93, pl_97, pl_98, pl_99, pl_100, pl_106, pl_122, pl_128, pl_136, pl_142, pl_165, pl_168, pl_170, pl_171, pl_173, pl_175, pl_187, pl_188, pl_189, pl_190, pl_206, pl_211, pl_219, pl_229, pl_255, pl_260, pl_400, pl_500, pl_512, pl_900, pl_999, pl_1000, pl_1001, pl_1005, pl_1020, pl_1023, pl_1024, pl_1103, pl_2000, pl_2040, pl_2176, pl_5660, pl_9999, pl_12345, pl_1000000, pl_1000003, pl_100000000, pl_1000000000, h]
  · simp (disch := first | omega | assumption | decide) only [↓pv_let, ↓pv_jn, ↓reduceIte, pv_bd, ↓pv_ocs, ↓pv_ocn, pv_gdt, pe_gd, pe_clamp, pt_eq, pf_eq, pt_le, pf_le, pt_lt, pf_lt, nI_add, nn_mul, pe_sub, pb_0, pb_1, pb_z, pe_ieq, pe_ine, pe_ik, pP_si, pS_si, pn_si, ps_si, pL_si, decide_true, ofNat_nI, pe_srI, pe_srN, pe_srS, pe_srP, not_true_eq_false, not_false_eq_true, true_and, and_true, and_self, false_and, and_false, nI_m1, nI_ms, Nat.add_sub_cancel, pl_0, pl_1, pl_2, pl_3, pl_4, pl_5, pl_6, pl_7, pl_8, pl_9, pl_10, pl_11, pl_12, pl_13, pl_14, pl_15, pl_16, pl_17, pl_18, pl_19, pl_20, pl_21, pl_22, pl_23, pl_24, pl_25, pl_26, pl_27, pl_28, pl_29, pl_30, pl_31, pl_32, pl_34, pl_36, pl_37, pl_40, pl_41, pl_42, pl_43, pl_45, pl_47, pl_48, pl_50, pl_57, pl_59, pl_60, pl_61, pl_62, pl_64, pl_70, pl_91, pl_93, pl_97, pl_98, pl_99, pl_100, pl_106, pl_122, pl_128, pl_136, pl_142, pl_165, pl_168, pl_170, pl_171, pl_173, pl_175, pl_187, pl_188, pl_189, pl_190, pl_206, pl_211, pl_219, pl_229, pl_255, pl_260, pl_400, pl_500, pl_512, pl_900, pl_999, pl_1000, pl_1001, pl_1005, pl_1020, pl_1023, pl_1024, pl_1103, pl_2000, pl_2040, pl_2176, pl_5660, pl_9999, pl_12345, pl_1000000, pl_1000003, pl_100000000, pl_1000000000, h, hb]
theorem RL_end {k : Int32 → am_G → Option (Unit × am_G)} {last n : Nat} {x2 : Int32} {g : am_G} : fX12_reckonAll_L10 k (nI last) (n + 1) x2 (nI last) g = k x2 g := by
  rw [fX12_reckonAll_L10, if_pos Int32.le_rfl]
def tkL (k : Nat) : Nat := if k = 1 then 14 else if k = 2 then 15 else if k = 3 then 16 else if k = 4 then 13 else if k = 5 then 17 else if k = 6 then 18 else if k = 7 then 19 else if k = 8 then 21 else if k = 9 then 22 else 20
/-- what is known, as the reference has it: in a law, in talks -/
def LfR (md : Bool) (g : am_G) (K : Nat → Int32) : Prop :=
  (md = false → am_I g 0 20 = nI 0 ∧ ∀ k, 1 ≤ k → k ≤ 10 → am_L g 18 k = (K (tkL k)).toInt64) ∧
  (md = true → am_I g 0 20 = nI 1 ∧ (∀ k, 1 ≤ k → k ≤ 5 → am_L g 19 k = (K (21 + k)).toInt64) ∧ ∀ s, s < 6 → K (28 + s) = am_I g 2 (10 + 10 * s + 0) ∧ K (34 + s) = am_I g 2 (10 + 10 * s + 8))
def SegR (md : Bool) (o r : Nat → Nat) (a b d : Nat) (D : pD) : Prop :=
  a < b ∧ ∀ (k : Int32 → am_G → Option (Unit × am_G)) (last : Nat) (g : am_G) (n top : Nat) (K : Nat → Int32), (∀ i, a ≤ i → i < b → FetchR g i (o i) (r i)) → LfR md g K → am_I g 0 38 = nI 0 → b ≤ last → last < 400 → top + d ≤ 400 → b - a < n →
    (∀ v, D K = some v → ∃ (n' : Nat) (f : Nat → Int64), fX12_reckonAll_L10 k (nI last) n (nI top) (nI a) g = fX12_reckonAll_L10 k (nI last) n' (nI (top + 1)) (nI b) (am_srL g 20 f) ∧ f top = v.toInt64 ∧ (∀ j, j < top → f j = am_L g 20 j) ∧ n ≤ n' + (b - a)) ∧
    (D K = none → ∃ (f : Nat → Int64) (top' : Nat), fX12_reckonAll_L10 k (nI last) n (nI top) (nI a) g = k (nI (top' + 1)) (am_si (am_srL g 20 f) 0 38 (nI 1)) ∧ top' < 400)
theorem FetchR.srL {g : am_G} {i op arg : Nat} (h : FetchR g i op arg) (f : Nat → Int64) (c : Nat) : FetchR (am_srL g c f) i op arg := h
theorem LfR.srL {md : Bool} {g : am_G} {K : Nat → Int32} (h : LfR md g K) (f : Nat → Int64) : LfR md (am_srL g 20 f) K :=
  ⟨fun e => ⟨(h.1 e).1, fun k h1 h2 => by rw [rL_ne _ _ (by decide)]; exact (h.1 e).2 k h1 h2⟩, fun e => ⟨(h.2 e).1, fun k h1 h2 => by rw [rL_ne _ _ (by decide)]; exact (h.2 e).2.1 k h1 h2, (h.2 e).2.2⟩⟩
theorem LfR.leaf {md : Bool} {g : am_G} {K : Nat → Int32} (h : LfR md g K) {op arg : Nat} {y : Int32} (hy : (op = 0 ∧ y = nI arg) ∨ (md = false ∧ 1 ≤ op ∧ op ≤ 10 ∧ y = K (tkL op)) ∨ (md = true ∧ 1 ≤ op ∧ op ≤ 5 ∧ y = K (21 + op)) ∨ (md = true ∧ op = 6 ∧ arg < 6 ∧ y = K (28 + arg)) ∨ (md = true ∧ op = 7 ∧ arg < 6 ∧ y = K (34 + arg))) : LeafR g op arg y.toInt64 := by
  rcases hy with ⟨h1, h2⟩ | ⟨h1, h2, h3, h4⟩ | ⟨h1, h2, h3, h4⟩ | ⟨h1, h2, h3, h4⟩ | ⟨h1, h2, h3, h4⟩
  · exact Or.inl ⟨h1, by rw [h2]⟩
  · exact Or.inr (Or.inl ⟨(h.1 h1).1, h2, by omega, by rw [h4, (h.1 h1).2 op h2 h3]⟩)
  · exact Or.inr (Or.inr (Or.inl ⟨(h.2 h1).1, h2, by omega, by rw [h4, (h.2 h1).2.1 op h2 h3]⟩))
  · exact Or.inr (Or.inr (Or.inr (Or.inl ⟨(h.2 h1).1, h2, h3, by rw [h4, ((h.2 h1).2.2 arg h3).1]⟩)))
  · exact Or.inr (Or.inr (Or.inr (Or.inr ⟨(h.2 h1).1, h2, h3, by rw [h4, ((h.2 h1).2.2 arg h3).2]⟩)))
theorem SegR.leaf {md : Bool} {o r : Nat → Nat} {a : Nat} {V : (Nat → Int32) → Int32} (hy : ∀ K, (o a = 0 ∧ V K = nI (r a)) ∨ (md = false ∧ 1 ≤ o a ∧ o a ≤ 10 ∧ V K = K (tkL (o a))) ∨ (md = true ∧ 1 ≤ o a ∧ o a ≤ 5 ∧ V K = K (21 + o a)) ∨ (md = true ∧ o a = 6 ∧ r a < 6 ∧ V K = K (28 + r a)) ∨ (md = true ∧ o a = 7 ∧ r a < 6 ∧ V K = K (34 + r a))) : SegR md o r a (a + 1) 1 (fun K => some (V K)) := by
  refine ⟨by omega, fun k last g n top K hF hL hb hbl hl ht hn => ⟨fun v hv => ?_, fun h => absurd h (by simp)⟩⟩
  obtain ⟨n, rfl⟩ : ∃ n', n = n' + 1 := ⟨n - 1, by omega⟩
  refine ⟨n, am_up (am_L g 20) top (V K).toInt64, RL_leaf (hF a (Nat.le_refl _) (by omega)) hb (hL.leaf (hy K)) (by omega) hl (by omega), ?_, fun j hj => am_up_ne (by omega), by omega⟩
  rw [am_up_eq, Option.some.inj hv]
/-- a test's value -/
def dT (D : pD) : Prop := ∀ K v, D K = some v → v = nI 0 ∨ v = nI 1
theorem not64 {v : Int32} (h : v = nI 0 ∨ v = nI 1) : (nI 1 - v).toInt64 = 1 - v.toInt64 := by rcases h with rfl | rfl <;> rfl
theorem SegR.not {md : Bool} {o r : Nat → Nat} {a b d : Nat} {D : pD} (h : SegR md o r a b d D) (hd : 0 < d) (hT : dT D) (ho : o b = 28) : SegR md o r a (b + 1) d (dNot D) := by
  obtain ⟨hab, h⟩ := h
  refine ⟨by omega, fun k last g n top K hF hL hb hbl hl ht hn => ?_⟩
  obtain ⟨h1, h2⟩ := h k last g n top K (fun i h1 h2 => hF i h1 (by omega)) hL hb (by omega) hl ht (by omega)
  refine ⟨fun v hv => ?_, fun hv => ?_⟩
  · unfold dNot at hv
    cases hD : D K with
    | none => rw [hD] at hv; exact absurd hv (by simp)
    | some u =>
      rw [hD] at hv
      obtain ⟨n', f, e, ef, ej, en⟩ := h1 u hD
      obtain ⟨n', rfl⟩ : ∃ n'', n' = n'' + 1 := ⟨n' - 1, by omega⟩
      have hFb : FetchR (am_srL g 20 f) b 28 (r b) := by have := hF b (by omega) (by omega); rw [ho] at this; exact this
      rw [e, RL_not hFb hb (by omega) hl (by omega), sl_srL, rL_row, ef]
      refine ⟨n', _, rfl, ?_, fun j hj => ?_, by omega⟩
      · rw [am_up_eq, ← Option.some.inj hv, not64 (hT K u hD)]
      · rw [am_up_ne (by omega)]
        exact ej j hj
  · unfold dNot at hv
    cases hD : D K with
    | none => exact h2 hD
    | some u => rw [hD] at hv; exact absurd hv (by simp)
theorem inj64 {a b : Int32} (h : a.toInt64 = b.toInt64) : a = b := Int32.toInt_inj.mp (by have := congrArg Int64.toInt h; rwa [Int32.toInt_toInt64, Int32.toInt_toInt64] at this)
theorem z64 {v : Int32} : v.toInt64 = 0 ↔ v = nI 0 := ⟨fun h => inj64 (h.trans (show (0 : Int64) = (nI 0).toInt64 from rfl)), fun h => by rw [h]; rfl⟩
theorem o64 {v : Int32} : v.toInt64 = 1 ↔ v = nI 1 := ⟨fun h => inj64 (h.trans (show (1 : Int64) = (nI 1).toInt64 from rfl)), fun h => by rw [h]; rfl⟩
theorem SegR.and {md : Bool} {o r : Nat → Nat} {a b c d e : Nat} {D E : pD} (h : SegR md o r a b d D) (hd : 0 < d) (h' : SegR md o r (b + 1) c e E) (ho : o b = 29) (hr : r b = c) : SegR md o r a c (max d e) (dAnd D E) := by
  obtain ⟨hab, h⟩ := h
  obtain ⟨hbc, h'⟩ := h'
  refine ⟨by omega, fun k last g n top K hF hL hb hbl hl ht hn => ?_⟩
  obtain ⟨h1, h2⟩ := h k last g n top K (fun i h1 h2 => hF i h1 (by omega)) hL hb (by omega) hl (by omega) (by omega)
  cases hD : D K with
  | none =>
    refine ⟨fun v hv => ?_, fun hv => h2 hD⟩
    unfold dAnd at hv; rw [hD] at hv; exact absurd hv (by simp)
  | some u =>
    obtain ⟨n', f, q, ef, ej, en⟩ := h1 u hD
    obtain ⟨n', rfl⟩ : ∃ n'', n' = n'' + 1 := ⟨n' - 1, by omega⟩
    have e0 : dAnd D E K = if u = nI 0 then some u else E K := by unfold dAnd; rw [hD]; rfl
    have hFb : FetchR (am_srL g 20 f) b 29 c := by have := hF b (by omega) (by omega); rw [ho, hr] at this; exact this
    by_cases hu : u = nI 0
    · rw [e0, if_pos hu, q, RL_andJ hFb hb (by omega) hl (by omega) (by rw [rL_row, ef]; exact z64.mpr hu)]
      exact ⟨fun v hv => ⟨n', f, rfl, by rw [ef, Option.some.inj hv], ej, by omega⟩, fun hv => absurd hv (by simp)⟩
    · rw [e0, if_neg hu, q, RL_andP hFb hb (by omega) hl (by omega) (by rw [rL_row, ef]; exact fun z => hu (z64.mp z))]
      obtain ⟨h3, h4⟩ := h' k last (am_srL g 20 f) n' top K (fun i h1 h2 => hF i (by omega) h2) (hL.srL f) hb (by omega) hl (by omega) (by omega)
      refine ⟨fun v hv => ?_, fun hv => ?_⟩
      · obtain ⟨n2, f2, q2, ef2, ej2, en2⟩ := h3 v hv
        rw [q2, srL_srL]
        refine ⟨n2, f2, rfl, ef2, fun j hj => ?_, by omega⟩
        rw [ej2 j hj, rL_row]
        exact ej j hj
      · obtain ⟨f2, t2, q2, ht2⟩ := h4 hv
        exact ⟨f2, t2, by rw [q2, srL_srL], ht2⟩
theorem SegR.or {md : Bool} {o r : Nat → Nat} {a b c d e : Nat} {D E : pD} (h : SegR md o r a b d D) (hd : 0 < d) (h' : SegR md o r (b + 1) c e E) (ho : o b = 30) (hr : r b = c) : SegR md o r a c (max d e) (dOr D E) := by
  obtain ⟨hab, h⟩ := h
  obtain ⟨hbc, h'⟩ := h'
  refine ⟨by omega, fun k last g n top K hF hL hb hbl hl ht hn => ?_⟩
  obtain ⟨h1, h2⟩ := h k last g n top K (fun i h1 h2 => hF i h1 (by omega)) hL hb (by omega) hl (by omega) (by omega)
  cases hD : D K with
  | none =>
    refine ⟨fun v hv => ?_, fun hv => h2 hD⟩
    unfold dOr at hv; rw [hD] at hv; exact absurd hv (by simp)
  | some u =>
    obtain ⟨n', f, q, ef, ej, en⟩ := h1 u hD
    obtain ⟨n', rfl⟩ : ∃ n'', n' = n'' + 1 := ⟨n' - 1, by omega⟩
    have e0 : dOr D E K = if u = nI 1 then some u else E K := by unfold dOr; rw [hD]; rfl
    have hFb : FetchR (am_srL g 20 f) b 30 c := by have := hF b (by omega) (by omega); rw [ho, hr] at this; exact this
    by_cases hu : u = nI 1
    · rw [e0, if_pos hu, q, RL_orJ hFb hb (by omega) hl (by omega) (by rw [rL_row, ef]; exact o64.mpr hu)]
      exact ⟨fun v hv => ⟨n', f, rfl, by rw [ef, Option.some.inj hv], ej, by omega⟩, fun hv => absurd hv (by simp)⟩
    · rw [e0, if_neg hu, q, RL_orP hFb hb (by omega) hl (by omega) (by rw [rL_row, ef]; exact fun z => hu (o64.mp z))]
      obtain ⟨h3, h4⟩ := h' k last (am_srL g 20 f) n' top K (fun i h1 h2 => hF i (by omega) h2) (hL.srL f) hb (by omega) hl (by omega) (by omega)
      refine ⟨fun v hv => ?_, fun hv => ?_⟩
      · obtain ⟨n2, f2, q2, ef2, ej2, en2⟩ := h3 v hv
        rw [q2, srL_srL]
        refine ⟨n2, f2, rfl, ef2, fun j hj => ?_, by omega⟩
        rw [ej2 j hj, rL_row]
        exact ej j hj
      · obtain ⟨f2, t2, q2, ht2⟩ := h4 hv
        exact ⟨f2, t2, by rw [q2, srL_srL], ht2⟩
theorem jv_S {o : Nat} {u w v : Int32} (h : jv o u w = some v) : ¬ ((o = 3 ∨ o = 4) ∧ w.toInt64 = 0) ∧ (-1000000000 ≤ jo o u.toInt64 w.toInt64 ∧ jo o u.toInt64 w.toInt64 ≤ 1000000000) ∧ v.toInt64 = jo o u.toInt64 w.toInt64 := by
  unfold jv at h
  by_cases h1 : (o = 3 ∨ o = 4) ∧ w.toInt64 = 0
  · rw [if_pos h1] at h; exact absurd h (by simp)
  · rw [if_neg h1] at h
    by_cases h2 : -1000000000 ≤ jo o u.toInt64 w.toInt64 ∧ jo o u.toInt64 w.toInt64 ≤ 1000000000
    · rw [if_pos h2] at h
      refine ⟨h1, h2, ?_⟩
      rw [← Option.some.inj h]
      exact (i64_rt h2).1
    · rw [if_neg h2] at h; exact absurd h (by simp)
theorem jv_N {o : Nat} {u w : Int32} (h : jv o u w = none) : ((o = 3 ∨ o = 4) ∧ w.toInt64 = 0) ∨ (¬ ((o = 3 ∨ o = 4) ∧ w.toInt64 = 0) ∧ ¬ (-1000000000 ≤ jo o u.toInt64 w.toInt64 ∧ jo o u.toInt64 w.toInt64 ≤ 1000000000)) := by
  unfold jv at h
  by_cases h1 : (o = 3 ∨ o = 4) ∧ w.toInt64 = 0
  · exact Or.inl h1
  · rw [if_neg h1] at h
    refine Or.inr ⟨h1, fun h2 => ?_⟩
    rw [if_pos h2] at h
    exact absurd h (by simp)
theorem SegR.bin {md : Bool} {o r : Nat → Nat} {a b c d e x : Nat} {D E : pD} (h : SegR md o r a b d D) (h' : SegR md o r b c e E) (he : 0 < e) (hx : x < 8) (ho : o c = 20 + x) : SegR md o r a (c + 1) (max d (e + 1)) (dBin x D E) := by
  obtain ⟨hab, h⟩ := h
  obtain ⟨hbc, h'⟩ := h'
  refine ⟨by omega, fun k last g n top K hF hL hb hbl hl ht hn => ?_⟩
  obtain ⟨h1, h2⟩ := h k last g n top K (fun i h1 h2 => hF i h1 (by omega)) hL hb (by omega) hl (by omega) (by omega)
  cases hD : D K with
  | none =>
    refine ⟨fun v hv => ?_, fun hv => h2 hD⟩
    unfold dBin at hv; rw [hD] at hv; exact absurd hv (by simp)
  | some u =>
    obtain ⟨n', f, q, ef, ej, en⟩ := h1 u hD
    obtain ⟨h3, h4⟩ := h' k last (am_srL g 20 f) n' (top + 1) K (fun i h1 h2 => hF i (by omega) (by omega)) (hL.srL f) hb (by omega) hl (by omega) (by omega)
    cases hE : E K with
    | none =>
      refine ⟨fun v hv => ?_, fun hv => ?_⟩
      · unfold dBin at hv; rw [hD, hE] at hv; exact absurd hv (by simp)
      · obtain ⟨f2, t2, q2, ht2⟩ := h4 hE
        exact ⟨f2, t2, by rw [q, q2, srL_srL], ht2⟩
    | some w =>
      obtain ⟨n2, f2, q2, ef2, ej2, en2⟩ := h3 w hE
      obtain ⟨n2, rfl⟩ : ∃ n'', n2 = n'' + 1 + 1 := ⟨n2 - 2, by omega⟩
      rw [srL_srL] at q2
      have e0 : dBin x D E K = jv x u w := by unfold dBin; rw [hD, hE]; rfl
      have hFc : FetchR (am_srL g 20 f2) c (20 + x) (r c) := by have := hF c (by omega) (by omega); rw [ho] at this; exact this
      have et : am_L (am_srL g 20 f2) 20 top = u.toInt64 := by rw [rL_row, ej2 top (by omega), rL_row, ef]
      have eu : am_L (am_srL g 20 f2) 20 (top + 1) = w.toInt64 := by rw [rL_row, ef2]
      rw [e0, q, q2]
      refine ⟨fun v hv => ?_, fun hv => ?_⟩
      · obtain ⟨j1, j2, j3⟩ := jv_S hv
        rw [RL_binS hFc hx hb (by omega) hl (by omega) (w := jo x u.toInt64 w.toInt64) (by rw [et, eu, q12_reckon (g := am_srL g 20 f2) hx _ _ hb, if_neg j1]) j2, sl_srL]
        refine ⟨n2 + 1, _, rfl, by rw [am_up_eq, j3], fun j hj => ?_, by omega⟩
        rw [am_up_ne (by omega), ej2 j (by omega), rL_row]
        exact ej j hj
      · rcases jv_N hv with j1 | ⟨j1, j2⟩
        · rw [RL_binZ hFc hx hb (by omega) hl (by omega) (w := 0) (by rw [et, eu, q12_reckon (g := am_srL g 20 f2) hx _ _ hb, if_pos j1]), RL_brk (by rw [pe_ieq]), sl_srL]
          exact ⟨_, top, rfl, by omega⟩
        · rw [RL_binN hFc hx hb (by omega) hl (by omega) (w := jo x u.toInt64 w.toInt64) (by rw [et, eu, q12_reckon (g := am_srL g 20 f2) hx _ _ hb, if_neg j1]) j2, RL_brk (by rw [pe_ieq]), sl_srL]
          exact ⟨_, top, rfl, by omega⟩
theorem SegR.mono {md : Bool} {o r o' r' : Nat → Nat} {a b d d' : Nat} {D : pD} (h : SegR md o r a b d D) (hd : d ≤ d') (he : ∀ i, a ≤ i → i < b → o' i = o i ∧ r' i = r i) : SegR md o' r' a b d' D :=
  ⟨h.1, fun k last g n top K hF hL hb hbl hl ht hn => h.2 k last g n top K (fun i h1 h2 => by have := hF i h1 h2; rw [(he i h1 h2).1, (he i h1 h2).2] at this; exact this) hL hb hbl hl (by omega) hn⟩
/-- a whole sum or test -/
def ValR (md : Bool) (o r : Nat → Nat) (a b : Nat) (D : pD) : Prop := ∃ d, SegR md o r a b d D ∧ d ≤ 400 ∧ b < 400
theorem ValR.run {md : Bool} {o r : Nat → Nat} {a b : Nat} {D : pD} (h : ValR md o r a b D) {g : am_G} {K : Nat → Int32} (hF : ∀ i, a ≤ i → i < b → FetchR g i (o i) (r i)) (hL : LfR md g K) : ∃ (f : Nat → Int64) (x : Int32) (w : Int64), fX12_reckonAll (nI a) (nI b) g = some ((), am_sl (am_si (am_srL g 20 f) 0 38 x) 0 39 w) ∧ (∀ v, D K = some v → x = nI 0 ∧ w = v.toInt64) ∧ (D K = none → x = nI 1) := by
  obtain ⟨d, hseg, hd, hb⟩ := h
  have hab := hseg.1
  unfold fX12_reckonAll
  rw [pu_let, show (0 : Int32) = nI 0 from rfl]
  have hF' : ∀ i, a ≤ i → i < b → FetchR (am_si g 0 38 (nI 0)) i (o i) (r i) := by
    intro i h1 h2
    rcases hF i h1 h2 with ⟨z1, c, z2, z3, z4, z5⟩ | ⟨z1, z2, z3, z4⟩
    · exact Or.inl ⟨by rw [pe_ik (by decide)]; exact z1, c, by rw [pe_ik (by decide)]; exact z2, z3, by rw [pe_ine (by decide)]; exact z4, by rw [pe_ine (by decide)]; exact z5⟩
    · exact Or.inr ⟨by rw [pe_ik (by decide)]; exact z1, z2, by rw [pe_ine (by decide)]; exact z3, by rw [pe_ine (by decide)]; exact z4⟩
  have hL' : LfR md (am_si g 0 38 (nI 0)) K := by
    refine ⟨fun e => ⟨by rw [pe_ik (by decide)]; exact (hL.1 e).1, (hL.1 e).2⟩, fun e => ⟨by rw [pe_ik (by decide)]; exact (hL.2 e).1, (hL.2 e).2.1, fun s hs => ?_⟩⟩
    rw [pe_ine (by decide), pe_ine (by decide)]
    exact (hL.2 e).2.2 s hs
  obtain ⟨h1, h2⟩ := hseg.2 (fun (x78 : Int32) (g79 : am_G) =>
    if x78 ≤ nI 0 then (
      am_let (am_sl g79 0 39 (0 : Int64)) fun g81 =>
      some ((), g81))
    else (
      am_gd (am_in (nI 0) 400) <|
      am_let (am_sl g79 0 39 (am_L g79 20 (nI 0).toNatClampNeg)) fun g83 =>
      some ((), g83))) b (am_si g 0 38 (nI 0)) am_fu 0 K hF' hL' (pe_ieq _ _ _ _) (Nat.le_refl _) hb (by omega) (by have : am_fu = 1048576 := rfl; omega)
  cases hD : D K with
  | none =>
    obtain ⟨f, t', q, ht'⟩ := h2 hD
    refine ⟨f, nI 1, am_L (am_si (am_srL (am_si g 0 38 (nI 0)) 20 f) 0 38 (nI 1)) 20 0, ?_, fun v hv => absurd hv (by simp), fun _ => rfl⟩
    rw [q]
    show (if nI (t' + 1) ≤ nI 0 then _ else _) = _
    rw [if_neg (nI_ge (by omega) (by omega)), pu_gd (by decide), pu_let]
    have e : am_si (am_srL (am_si g 0 38 (nI 0)) 20 f) 0 38 (nI 1) = am_si (am_srL g 20 f) 0 38 (nI 1) := by
      have : am_I (am_si (am_srL (am_si g 0 38 (nI 0)) 20 f) 0 38 (nI 1)) = am_I (am_si (am_srL g 20 f) 0 38 (nI 1)) := by
        funext b j
        rw [pI_si, pI_si, rI_srL, rI_srL]
        by_cases hh : b = 0 ∧ j = 38
        · rw [if_pos hh, if_pos hh]
        · rw [if_neg hh, if_neg hh, pI_si, if_neg hh]
      exact Prod.ext this rfl
    rw [e]
    rfl
  | some v =>
    obtain ⟨n', f, q, ef, ej, en⟩ := h1 v hD
    obtain ⟨n', rfl⟩ : ∃ n'', n' = n'' + 1 := ⟨n' - 1, by have : am_fu = 1048576 := rfl; omega⟩
    refine ⟨f, nI 0, v.toInt64, ?_, fun u hu => ⟨rfl, by rw [Option.some.inj hu]⟩, fun h => absurd h (by simp)⟩
    rw [q, RL_end]
    show (if nI (0 + 1) ≤ nI 0 then _ else _) = _
    rw [if_neg (nI_ge (by omega) (by omega)), pu_gd (by decide), pu_let, rL_row]
    show some ((), am_sl _ 0 39 (f 0)) = _
    rw [ef]
    rfl
