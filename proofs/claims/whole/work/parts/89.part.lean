/-! ===== the reference's turns ===== -/
def Rn (a1 : Int32) (k : Nat) (x : Int32) (g : am_G) (x' : Int32) (g' : am_G) : Prop := ∀ n, fX12_readExpression_L20 a1 (n + k) x g = fX12_readExpression_L20 a1 n x' g'
theorem Rn.rf (a1 x : Int32) (g : am_G) : Rn a1 0 x g x g := fun _ => rfl
theorem Rn.tr {a1 x x' x'' : Int32} {k k' : Nat} {g g' g'' : am_G} (h : Rn a1 k x g x' g') (h' : Rn a1 k' x' g' x'' g'') : Rn a1 (k + k') x g x'' g'' := fun n => by
  rw [show n + (k + k') = n + k' + k by omega, h (n + k'), h' n]
theorem L20_0 {a1 v : Int32} {g g' : am_G} (hb : am_I g 0 19 = nI 0) (e : fX12_readPlain g = some (v, g')) : Rn a1 1 (nI 0) g v g' := fun n => by
  rw [fX12_readExpression_L20]
  simp (disch := first | omega | assumption | decide) only [↓pv_let, ↓pv_jn, ↓reduceIte, pv_bd, ↓pv_ocs, ↓pv_ocn, pv_gdt, pe_gd, pe_clamp, pt_eq, pf_eq, pt_le, pf_le, pt_lt, pf_lt, nI_add, nn_mul, pe_sub, pb_0, pb_1, pb_z, pe_ieq, pe_ine, pe_ik, pP_si, pS_si, pn_si, ps_si, pL_si, decide_true, ofNat_nI, pe_srI, pe_srN, pe_srS, pe_srP, not_true_eq_false, not_false_eq_true, true_and, and_true, and_self, false_and, and_false, nI_m1, nI_ms, Nat.add_sub_cancel, pl_0, pl_1, pl_2, pl_3, pl_4, pl_5, pl_6, pl_7, pl_8, pl_9, pl_10, pl_11, pl_12, pl_13, pl_14, pl_15, pl_16, pl_17, pl_18, pl_19, pl_20, pl_21, pl_22, pl_23, pl_24, pl_25, pl_26, pl_27, pl_28, pl_29, pl_30, pl_31, pl_32, pl_34, pl_36, pl_37, pl_40, pl_41, pl_42, pl_43, pl_45, pl_47, pl_48, pl_50, pl_57, pl_59, pl_60, pl_61, pl_62, pl_64, pl_70, pl_91, pl_93, pl_97, pl_98, pl_99, pl_100, pl_106, pl_122, pl_128, pl_136, pl_142, pl_165, pl_168, pl_170, pl_171, pl_173, pl_175, pl_187, pl_188, pl_189, pl_190, pl_206, pl_211, pl_219, pl_229, pl_255, pl_260, pl_400, pl_500, pl_512, pl_900, pl_999, pl_1000, pl_1001, pl_1005, pl_1020, pl_1023, pl_1024, pl_1103, pl_2000, pl_2040, pl_2176, pl_5660, pl_9999, pl_12345, pl_1000000, pl_1000003, pl_100000000, pl_1000000000, pz_0, pz_1, pz_t, hb, e]
theorem L20_1 {a1 v : Int32} {g g' : am_G} (hb : am_I g 0 19 = nI 0) (e : fX12_readPart g = some (v, g')) : Rn a1 1 (nI 1) g v g' := fun n => by
  rw [fX12_readExpression_L20]
  simp (disch := first | omega | assumption | decide) only [↓pv_let, ↓pv_jn, ↓reduceIte, pv_bd, ↓pv_ocs, ↓pv_ocn, pv_gdt, pe_gd, pe_clamp, pt_eq, pf_eq, pt_le, pf_le, pt_lt, pf_lt, nI_add, nn_mul, pe_sub, pb_0, pb_1, pb_z, pe_ieq, pe_ine, pe_ik, pP_si, pS_si, pn_si, ps_si, pL_si, decide_true, ofNat_nI, pe_srI, pe_srN, pe_srS, pe_srP, not_true_eq_false, not_false_eq_true, true_and, and_true, and_self, false_and, and_false, nI_m1, nI_ms, Nat.add_sub_cancel, pl_0, pl_1, pl_2, pl_3, pl_4, pl_5, pl_6, pl_7, pl_8, pl_9, pl_10, pl_11, pl_12, pl_13, pl_14, pl_15, pl_16, pl_17, pl_18, pl_19, pl_20, pl_21, pl_22, pl_23, pl_24, pl_25, pl_26, pl_27, pl_28, pl_29, pl_30, pl_31, pl_32, pl_34, pl_36, pl_37, pl_40, pl_41, pl_42, pl_43, pl_45, pl_47, pl_48, pl_50, pl_57, pl_59, pl_60, pl_61, pl_62, pl_64, pl_70, pl_91, pl_93, pl_97, pl_98, pl_99, pl_100, pl_106, pl_122, pl_128, pl_136, pl_142, pl_165, pl_168, pl_170, pl_171, pl_173, pl_175, pl_187, pl_188, pl_189, pl_190, pl_206, pl_211, pl_219, pl_229, pl_255, pl_260, pl_400, pl_500, pl_512, pl_900, pl_999, pl_1000, pl_1001, pl_1005, pl_1020, pl_1023, pl_1024, pl_1103, pl_2000, pl_2040, pl_2176, pl_5660, pl_9999, pl_12345, pl_1000000, pl_1000003, pl_100000000, pl_1000000000, pz_0, pz_1, pz_t, hb, e]
theorem L20_3 {a1 v : Int32} {g g' : am_G} (hb : am_I g 0 19 = nI 0) (e : fX12_behindSum a1 g = some (v, g')) : Rn a1 1 (nI 3) g v g' := fun n => by
  rw [fX12_readExpression_L20]
  simp (disch := first | omega | assumption | decide) only [↓pv_let, ↓pv_jn, ↓reduceIte, pv_bd, ↓pv_ocs, ↓pv_ocn, pv_gdt, pe_gd, pe_clamp, pt_eq, pf_eq, pt_le, pf_le, pt_lt, pf_lt, nI_add, nn_mul, pe_sub, pb_0, pb_1, pb_z, pe_ieq, pe_ine, pe_ik, pP_si, pS_si, pn_si, ps_si, pL_si, decide_true, ofNat_nI, pe_srI, pe_srN, pe_srS, pe_srP, not_true_eq_false, not_false_eq_true, true_and, and_true, and_self, false_and, and_false, nI_m1, nI_ms, Nat.add_sub_cancel, pl_0, pl_1, pl_2, pl_3, pl_4, pl_5, pl_6, pl_7, pl_8, pl_9, pl_10, pl_11, pl_12, pl_13, pl_14, pl_15, pl_16, pl_17, pl_18, pl_19, pl_20, pl_21, pl_22, pl_23, pl_24, pl_25, pl_26, pl_27, pl_28, pl_29, pl_30, pl_31, pl_32, pl_34, pl_36, pl_37, pl_40, pl_41, pl_42, pl_43, pl_45, pl_47, pl_48, pl_50, pl_57, pl_59, pl_60, pl_61, pl_62, pl_64, pl_70, pl_91, pl_93, pl_97, pl_98, pl_99, pl_100, pl_106, pl_122, pl_128, pl_136, pl_142, pl_165, pl_168, pl_170, pl_171, pl_173, pl_175, pl_187, pl_188, pl_189, pl_190, pl_206, pl_211, pl_219, pl_229, pl_255, pl_260, pl_400, pl_500, pl_512, pl_900, pl_999, pl_1000, pl_1001, pl_1005, pl_1020, pl_1023, pl_1024, pl_1103, pl_2000, pl_2040, pl_2176, pl_5660, pl_9999, pl_12345, pl_1000000, pl_1000003, pl_100000000, pl_1000000000, pz_0, pz_1, pz_t, hb, e]
theorem L20_2 {a1 v : Int32} {g g' : am_G} (hb : am_I g 0 19 = nI 0) (e : fX12_behindTest g = some (v, g')) : Rn a1 1 (nI 2) g v g' := fun n => by
  rw [fX12_readExpression_L20]
  simp (disch := first | omega | assumption | decide) only [↓pv_let, ↓pv_jn, ↓reduceIte, pv_bd, ↓pv_ocs, ↓pv_ocn, pv_gdt, pe_gd, pe_clamp, pt_eq, pf_eq, pt_le, pf_le, pt_lt, pf_lt, nI_add, nn_mul, pe_sub, pb_0, pb_1, pb_z, pe_ieq, pe_ine, pe_ik, pP_si, pS_si, pn_si, ps_si, pL_si, decide_true, ofNat_nI, pe_srI, pe_srN, pe_srS, pe_srP, not_true_eq_false, not_false_eq_true, true_and, and_true, and_self, false_and, and_false, nI_m1, nI_ms, Nat.add_sub_cancel, pl_0, pl_1, pl_2, pl_3, pl_4, pl_5, pl_6, pl_7, pl_8, pl_9, pl_10, pl_11, pl_12, pl_13, pl_14, pl_15, pl_16, pl_17, pl_18, pl_19, pl_20, pl_21, pl_22, pl_23, pl_24, pl_25, pl_26, pl_27, pl_28, pl_29, pl_30, pl_31, pl_32, pl_34, pl_36, pl_37, pl_40, pl_41, pl_42, pl_43, pl_45, pl_47, pl_48, pl_50, pl_57, pl_59, pl_60, pl_61, pl_62, pl_64, pl_70, pl_91, pl_93, pl_97, pl_98, pl_99, pl_100, pl_106, pl_122, pl_128, pl_136, pl_142, pl_165, pl_168, pl_170, pl_171, pl_173, pl_175, pl_187, pl_188, pl_189, pl_190, pl_206, pl_211, pl_219, pl_229, pl_255, pl_260, pl_400, pl_500, pl_512, pl_900, pl_999, pl_1000, pl_1001, pl_1005, pl_1020, pl_1023, pl_1024, pl_1103, pl_2000, pl_2040, pl_2176, pl_5660, pl_9999, pl_12345, pl_1000000, pl_1000003, pl_100000000, pl_1000000000, pz_0, pz_1, pz_t, hb, e]
theorem L20_4 {a1 : Int32} {g g' : am_G} (hb : am_I g 0 19 = nI 0) (e : fX12_settle (nI 1) g = some ((), g')) (n : Nat) : fX12_readExpression_L20 a1 (n + 1) (nI 4) g = some ((), g') := by
  rw [fX12_readExpression_L20]
  simp (disch := first | omega | assumption | decide) only [↓pv_let, ↓pv_jn, ↓reduceIte, pv_bd, ↓pv_ocs, ↓pv_ocn, pv_gdt, pe_gd, pe_clamp, pt_eq, pf_eq, pt_le, pf_le, pt_lt, pf_lt, nI_add, nn_mul, pe_sub, pb_0, pb_1, pb_z, pe_ieq, pe_ine, pe_ik, pP_si, pS_si, pn_si, ps_si, pL_si, decide_true, ofNat_nI, pe_srI, pe_srN, pe_srS, pe_srP, not_true_eq_false, not_false_eq_true, true_and, and_true, and_self, false_and, and_false, nI_m1, nI_ms, Nat.add_sub_cancel, pl_0, pl_1, pl_2, pl_3, pl_4, pl_5, pl_6, pl_7, pl_8, pl_9, pl_10, pl_11, pl_12, pl_13, pl_14, pl_15, pl_16, pl_17, pl_18, pl_19, pl_20, pl_21, pl_22, pl_23, pl_24, pl_25, pl_26, pl_27, pl_28, pl_29, pl_30, pl_31, pl_32, pl_34, pl_36, pl_37, pl_40, pl_41, pl_42, pl_43, pl_45, pl_47, pl_48, pl_50, pl_57, pl_59, pl_60, pl_61, pl_62, pl_64, pl_70, pl_91, pl_93, pl_97, pl_98, pl_99, pl_100, pl_106, pl_122, pl_128, pl_136, pl_142, pl_165, pl_168, pl_170, pl_171, pl_173, pl_175, pl_187, pl_188, pl_189, pl_190, pl_206, pl_211, pl_219, pl_229, pl_255, pl_260, pl_400, pl_500, pl_512, pl_900, pl_999, pl_1000, pl_1001, pl_1005, pl_1020, pl_1023, pl_1024, pl_1103, pl_2000, pl_2040, pl_2176, pl_5660, pl_9999, pl_12345, pl_1000000, pl_1000003, pl_100000000, pl_1000000000, pz_0, pz_1, pz_t, hb, e]
theorem L20_b {a1 x : Int32} {g g' : am_G} (hb : am_I g 0 19 = nI 1) (e : fX12_settle (nI 1) g = some ((), g')) (n : Nat) : fX12_readExpression_L20 a1 (n + 1) x g = some ((), g') := by
  rw [fX12_readExpression_L20]
  simp (disch := first | omega | assumption | decide) only [↓pv_let, ↓pv_jn, ↓reduceIte, pv_bd, ↓pv_ocs, ↓pv_ocn, pv_gdt, pe_gd, pe_clamp, pt_eq, pf_eq, pt_le, pf_le, pt_lt, pf_lt, nI_add, nn_mul, pe_sub, pb_0, pb_1, pb_z, pe_ieq, pe_ine, pe_ik, pP_si, pS_si, pn_si, ps_si, pL_si, decide_true, ofNat_nI, pe_srI, pe_srN, pe_srS, pe_srP, not_true_eq_false, not_false_eq_true, true_and, and_true, and_self, false_and, and_false, nI_m1, nI_ms, Nat.add_sub_cancel, pl_0, pl_1, pl_2, pl_3, pl_4, pl_5, pl_6, pl_7, pl_8, pl_9, pl_10, pl_11, pl_12, pl_13, pl_14, pl_15, pl_16, pl_17, pl_18, pl_19, pl_20, pl_21, pl_22, pl_23, pl_24, pl_25, pl_26, pl_27, pl_28, pl_29, pl_30, pl_31, pl_32, pl_34, pl_36, pl_37, pl_40, pl_41, pl_42, pl_43, pl_45, pl_47, pl_48, pl_50, pl_57, pl_59, pl_60, pl_61, pl_62, pl_64, pl_70, pl_91, pl_93, pl_97, pl_98, pl_99, pl_100, pl_106, pl_122, pl_128, pl_136, pl_142, pl_165, pl_168, pl_170, pl_171, pl_173, pl_175, pl_187, pl_188, pl_189, pl_190, pl_206, pl_211, pl_219, pl_229, pl_255, pl_260, pl_400, pl_500, pl_512, pl_900, pl_999, pl_1000, pl_1001, pl_1005, pl_1020, pl_1023, pl_1024, pl_1103, pl_2000, pl_2040, pl_2176, pl_5660, pl_9999, pl_12345, pl_1000000, pl_1000003, pl_100000000, pl_1000000000, pz_0, pz_1, pz_t, hb, e]
theorem nI_ex (x : Int32) : ∃ m, x = nI m := ⟨x.toUInt32.toNat, by
  cases x with
  | ofUInt32 u =>
    show _ = Int32.ofUInt32 (UInt32.ofNat u.toNat)
    rw [UInt32.ofNat_toNat]⟩
section RPA
variable {md : Bool} {b : Nat → Nat} {len h nl op : Nat} {X : Cd} {pi : List (Nat × Nat)} {g : am_G}
theorem q12_openT (hT : Tp b len) (hr : RS md b len h X nl op pi g) {o : Nat} (ho : o = 31 ∨ o = 32) (h8 : op < 8) (hp : pi.length < 400) : ∃ g', fX12_openBracket (nI o) g = some ((), g') ∧ RS md b len (h + 1) X nl (op + 1) ((o, 0) :: pi) g' ∧ FrP g g' := by
  obtain ⟨g1, e1, r1, f1⟩ := q12_mustT hT hr
  have h30 := hr.2.2.2.2.1
  have h19 := r1.2.2.1
  have h30' := r1.2.2.2.2.1
  have r2 : RS md b len (h + 1) X nl (op + 1) pi (am_si g1 0 30 (nI (op + 1))) := by
    obtain ⟨s1, s2, s3, s4, s5, s6, s7, s8⟩ := r1
    exact ⟨s1.cg (fun k _ _ => pe_ik (by omega)) (fun k => pe_ine (by decide)) rfl, s2.cg (pe_ik (by decide)) (pe_ik (by decide)) (fun a k _ _ => pe_ine (by omega)), by rw [pe_ik (by decide)]; exact s3, by rw [pe_ik (by decide)]; exact s4, pe_ieq _ _ _ _, by rw [pe_ik (by decide)]; exact s6, s7, s8.1, by rw [pe_ik (by decide)]; exact s8.2⟩
  obtain ⟨g2, e2, s2, f2⟩ := q12_push r2.2.1 (op := o) (at' := 0) (by omega) (by omega) (by decide) hp (by rw [emc, if_neg (by show ¬ o < 29; omega)]; exact r2.2.1.2.2.2.2.2.1)
  refine ⟨g2, ?_, r2.z f2 s2, f1.P.tr (((FrP.rf g1).si (by omega) _).tr f2.P)⟩
  unfold fX12_openBracket
  simp (disch := first | omega | assumption | decide) only [↓pv_let, ↓pv_jn, ↓reduceIte, pv_bd, ↓pv_ocs, ↓pv_ocn, pv_gdt, pe_gd, pe_clamp, pt_eq, pf_eq, pt_le, pf_le, pt_lt, pf_lt, nI_add, nn_mul, pe_sub, pb_0, pb_1, pb_z, pe_ieq, pe_ine, pe_ik, pP_si, pS_si, pn_si, ps_si, pL_si, decide_true, ofNat_nI, pe_srI, pe_srN, pe_srS, pe_srP, not_true_eq_false, not_false_eq_true, true_and, and_true, and_self, false_and, and_false, nI_m1, nI_ms, Nat.add_sub_cancel, pl_0, pl_1, pl_2, pl_3, pl_4, pl_5, pl_6, pl_7, pl_8, pl_9, pl_10, pl_11, pl_12, pl_13, pl_14, pl_15, pl_16, pl_17, pl_18, pl_19, pl_20, pl_21, pl_22, pl_23, pl_24, pl_25, pl_26, pl_27, pl_28, pl_29, pl_30, pl_31, pl_32, pl_34, pl_36, pl_37, pl_40, pl_41, pl_42, pl_43, pl_45, pl_47, pl_48, pl_50, pl_57, pl_59, pl_60, pl_61, pl_62, pl_64, pl_70, pl_91, pl_93, pl_97, pl_98, pl_99, pl_100, pl_106, pl_122, pl_128, pl_136, pl_142, pl_165, pl_168, pl_170, pl_171, pl_173, pl_175, pl_187, pl_188, pl_189, pl_190, pl_206, pl_211, pl_219, pl_229, pl_255, pl_260, pl_400, pl_500, pl_512, pl_900, pl_999, pl_1000, pl_1001, pl_1005, pl_1020, pl_1023, pl_1024, pl_1103, pl_2000, pl_2040, pl_2176, pl_5660, pl_9999, pl_12345, pl_1000000, pl_1000003, pl_100000000, pl_1000000000, pz_0, pz_1, pz_t, h30, e1, h19, h30', e2]
theorem q12_openF (hr : RS md b len h X nl op pi g) (o : Nat) (h8 : 8 ≤ op) (hop : op < 100) : ∃ g', fX12_openBracket (nI o) g = some ((), g') ∧ FB b len h g' ∧ FrP g g' := by
  obtain ⟨g1, e1, r1, f1, -, -⟩ := q12_mustF hr
  have h30 := hr.2.2.2.2.1
  have h19 := r1.1
  refine ⟨g1, ?_, r1, f1⟩
  unfold fX12_openBracket
  simp (disch := first | omega | assumption | decide) only [↓pv_let, ↓pv_jn, ↓reduceIte, pv_bd, ↓pv_ocs, ↓pv_ocn, pv_gdt, pe_gd, pe_clamp, pt_eq, pf_eq, pt_le, pf_le, pt_lt, pf_lt, nI_add, nn_mul, pe_sub, pb_0, pb_1, pb_z, pe_ieq, pe_ine, pe_ik, pP_si, pS_si, pn_si, ps_si, pL_si, decide_true, ofNat_nI, pe_srI, pe_srN, pe_srS, pe_srP, not_true_eq_false, not_false_eq_true, true_and, and_true, and_self, false_and, and_false, nI_m1, nI_ms, Nat.add_sub_cancel, pl_0, pl_1, pl_2, pl_3, pl_4, pl_5, pl_6, pl_7, pl_8, pl_9, pl_10, pl_11, pl_12, pl_13, pl_14, pl_15, pl_16, pl_17, pl_18, pl_19, pl_20, pl_21, pl_22, pl_23, pl_24, pl_25, pl_26, pl_27, pl_28, pl_29, pl_30, pl_31, pl_32, pl_34, pl_36, pl_37, pl_40, pl_41, pl_42, pl_43, pl_45, pl_47, pl_48, pl_50, pl_57, pl_59, pl_60, pl_61, pl_62, pl_64, pl_70, pl_91, pl_93, pl_97, pl_98, pl_99, pl_100, pl_106, pl_122, pl_128, pl_136, pl_142, pl_165, pl_168, pl_170, pl_171, pl_173, pl_175, pl_187, pl_188, pl_189, pl_190, pl_206, pl_211, pl_219, pl_229, pl_255, pl_260, pl_400, pl_500, pl_512, pl_900, pl_999, pl_1000, pl_1001, pl_1005, pl_1020, pl_1023, pl_1024, pl_1103, pl_2000, pl_2040, pl_2176, pl_5660, pl_9999, pl_12345, pl_1000000, pl_1000003, pl_100000000, pl_1000000000, pz_0, pz_1, pz_t, h30, e1, h19]
theorem q12_leafT (hT : Tp b len) (hr : RS md b len h X nl op pi g) (o a : Nat) (h50 : nl < 50) (hc : X.2.2 + 1 + emc pi ≤ 400) : ∃ g', fX12_leaf (nI 1) (nI o) (nI a) g = some ((), g') ∧ RS md b len (h + 1) (emt X o a) (nl + 1) op pi g' ∧ FrP g g' := by
  obtain ⟨g1, e1, r1, f1⟩ := q12_mustT hT hr
  have h26 := hr.2.2.2.1
  have h19 := r1.2.2.1
  obtain ⟨g2, e2, s2, f2⟩ := q12_emit r1.2.1 o a hc
  have r2 := r1.z f2 s2
  have h26' := r2.2.2.2.1
  have r3 : RS md b len (h + 1) (emt X o a) (nl + 1) op pi (am_si g2 0 26 (nI (nl + 1))) := by
    obtain ⟨s1, s2, s3, s4, s5, s6, s7, s8⟩ := r2
    exact ⟨s1.cg (fun k _ _ => pe_ik (by omega)) (fun k => pe_ine (by decide)) rfl, s2.cg (pe_ik (by decide)) (pe_ik (by decide)) (fun a k _ _ => pe_ine (by omega)), by rw [pe_ik (by decide)]; exact s3, pe_ieq _ _ _ _, by rw [pe_ik (by decide)]; exact s5, by rw [pe_ik (by decide)]; exact s6, s7, s8.1, by rw [pe_ik (by decide)]; exact s8.2⟩
  refine ⟨_, ?_, r3, (f1.P.tr f2.P).si (by omega) _⟩
  unfold fX12_leaf
  simp (disch := first | omega | assumption | decide) only [↓pv_let, ↓pv_jn, ↓reduceIte, pv_bd, ↓pv_ocs, ↓pv_ocn, pv_gdt, pe_gd, pe_clamp, pt_eq, pf_eq, pt_le, pf_le, pt_lt, pf_lt, nI_add, nn_mul, pe_sub, pb_0, pb_1, pb_z, pe_ieq, pe_ine, pe_ik, pP_si, pS_si, pn_si, ps_si, pL_si, decide_true, ofNat_nI, pe_srI, pe_srN, pe_srS, pe_srP, not_true_eq_false, not_false_eq_true, true_and, and_true, and_self, false_and, and_false, nI_m1, nI_ms, Nat.add_sub_cancel, pl_0, pl_1, pl_2, pl_3, pl_4, pl_5, pl_6, pl_7, pl_8, pl_9, pl_10, pl_11, pl_12, pl_13, pl_14, pl_15, pl_16, pl_17, pl_18, pl_19, pl_20, pl_21, pl_22, pl_23, pl_24, pl_25, pl_26, pl_27, pl_28, pl_29, pl_30, pl_31, pl_32, pl_34, pl_36, pl_37, pl_40, pl_41, pl_42, pl_43, pl_45, pl_47, pl_48, pl_50, pl_57, pl_59, pl_60, pl_61, pl_62, pl_64, pl_70, pl_91, pl_93, pl_97, pl_98, pl_99, pl_100, pl_106, pl_122, pl_128, pl_136, pl_142, pl_165, pl_168, pl_170, pl_171, pl_173, pl_175, pl_187, pl_188, pl_189, pl_190, pl_206, pl_211, pl_219, pl_229, pl_255, pl_260, pl_400, pl_500, pl_512, pl_900, pl_999, pl_1000, pl_1001, pl_1005, pl_1020, pl_1023, pl_1024, pl_1103, pl_2000, pl_2040, pl_2176, pl_5660, pl_9999, pl_12345, pl_1000000, pl_1000003, pl_100000000, pl_1000000000, pz_0, pz_1, pz_t, h26, e1, h19, e2, h26']
theorem q12_leafF (hr : RS md b len h X nl op pi g) (is : Nat) (o a : Int32) (his : is = 0 ∨ (is = 1 ∧ 50 ≤ nl)) (hnl : nl < 1000) : ∃ g', fX12_leaf (nI is) o a g = some ((), g') ∧ FB b len h g' ∧ FrP g g' ∧ am_I g' 0 20 = am_I g 0 20 := by
  obtain ⟨g1, e1, r1, f1, f20, -⟩ := q12_mustF hr
  have h26 := hr.2.2.2.1
  have h19 := r1.1
  refine ⟨g1, ?_, r1, f1, f20⟩
  unfold fX12_leaf
  rcases his with rfl | ⟨rfl, h50⟩
  · simp (disch := first | omega | assumption | decide) only [↓pv_let, ↓pv_jn, ↓reduceIte, pv_bd, ↓pv_ocs, ↓pv_ocn, pv_gdt, pe_gd, pe_clamp, pt_eq, pf_eq, pt_le, pf_le, pt_lt, pf_lt, nI_add, nn_mul, pe_sub, pb_0, pb_1, pb_z, pe_ieq, pe_ine, pe_ik, pP_si, pS_si, pn_si, ps_si, pL_si, decide_true, ofNat_nI, pe_srI, pe_srN, pe_srS, pe_srP, not_true_eq_false, not_false_eq_true, true_and, and_true, and_self, false_and, and_false, nI_m1, nI_ms, Nat.add_sub_cancel, pl_0, pl_1, pl_2, pl_3, pl_4, pl_5, pl_6, pl_7, pl_8, pl_9, pl_10, pl_11, pl_12, pl_13, pl_14, pl_15, pl_16, pl_17, pl_18, pl_19, pl_20, pl_21, pl_22, pl_23, pl_24, pl_25, pl_26, pl_27, pl_28, pl_29, pl_30, pl_31, pl_32, pl_34, pl_36, pl_37, pl_40, pl_41, pl_42, pl_43, pl_45, pl_47, pl_48, pl_50, pl_57, pl_59, pl_60, pl_61, pl_62, pl_64, pl_70, pl_91, pl_93, pl_97, pl_98, pl_99, pl_100, pl_106, pl_122, pl_128, pl_136, pl_142, pl_165, pl_168, pl_170, pl_171, pl_173, pl_175, pl_187, pl_188, pl_189, pl_190, pl_206, pl_211, pl_219, pl_229, pl_255, pl_260, pl_400, pl_500, pl_512, pl_900, pl_999, pl_1000, pl_1001, pl_1005, pl_1020, pl_1023, pl_1024, pl_1103, pl_2000, pl_2040, pl_2176, pl_5660, pl_9999, pl_12345, pl_1000000, pl_1000003, pl_100000000, pl_1000000000, pz_0, pz_1, pz_t, h26, e1, h19]
  · simp (disch := first | omega | assumption | decide) only [↓pv_let, ↓pv_jn, ↓reduceIte, pv_bd, ↓pv_ocs, ↓pv_ocn, pv_gdt, pe_gd, pe_clamp, pt_eq, pf_eq, pt_le, pf_le, pt_lt, pf_lt, nI_add, nn_mul, pe_sub, pb_0, pb_1, pb_z, pe_ieq, pe_ine, pe_ik, pP_si, pS_si, pn_si, ps_si, pL_si, decide_true, ofNat_nI, pe_srI, pe_srN, pe_srS, pe_srP, not_true_eq_false, not_false_eq_true, true_and, and_true, and_self, false_and, and_false, nI_m1, nI_ms, Nat.add_sub_cancel, pl_0, pl_1, pl_2, pl_3, pl_4, pl_5, pl_6, pl_7, pl_8, pl_9, pl_10, pl_11, pl_12, pl_13, pl_14, pl_15, pl_16, pl_17, pl_18, pl_19, pl_20, pl_21, pl_22, pl_23, pl_24, pl_25, pl_26, pl_27, pl_28, pl_29, pl_30, pl_31, pl_32, pl_34, pl_36, pl_37, pl_40, pl_41, pl_42, pl_43, pl_45, pl_47, pl_48, pl_50, pl_57, pl_59, pl_60, pl_61, pl_62, pl_64, pl_70, pl_91, pl_93, pl_97, pl_98, pl_99, pl_100, pl_106, pl_122, pl_128, pl_136, pl_142, pl_165, pl_168, pl_170, pl_171, pl_173, pl_175, pl_187, pl_188, pl_189, pl_190, pl_206, pl_211, pl_219, pl_229, pl_255, pl_260, pl_400, pl_500, pl_512, pl_900, pl_999, pl_1000, pl_1001, pl_1005, pl_1020, pl_1023, pl_1024, pl_1103, pl_2000, pl_2040, pl_2176, pl_5660, pl_9999, pl_12345, pl_1000000, pl_1000003, pl_100000000, pl_1000000000, pz_0, pz_1, pz_t, h26, e1, h19]
def LfT (md : Bool) (c o a : Nat) : Prop := (1000 ≤ c ∧ c ≤ 2000 ∧ o = 0 ∧ a = c - 1000) ∨ (md = false ∧ 13 ≤ c ∧ c ≤ 22 ∧ a = 0 ∧ 1 ≤ o ∧ o ≤ 10 ∧ tkL o = c) ∨ (md = true ∧ 22 ≤ c ∧ c ≤ 26 ∧ o = c - 21 ∧ a = 0)
theorem m1_6 : (-nI 1 < nI 6) = True := eq_true (by decide)
theorem m1_1 : (-nI 1 = -nI 1) = True := eq_true rfl
theorem i64_32 (x : Int32) : x.toInt64.toInt32 = x := Int32.toInt32_toInt64 x
theorem cmp1000 {v : Nat} (hv : v ≤ 1000) : (nI 0 < lg_cmp (nI v).toInt64 1000) = False := by
  rw [cmp_gt']
  apply eq_false
  rw [show (1000 : Int64) = (nI 1000).toInt64 from rfl, Int64.not_lt, le64]
  exact nI_le hv (by omega)
theorem big1000 {w : Int64} (hw : 1000 < w) : (nI 0 < lg_cmp w 1000) = True := by
  rw [cmp_gt']
  exact eq_true hw
/-- behind the look for a word: what is read -/
def rpT (its : Int32) (g26 : am_G) : Option (Int32 × am_G) :=
  if (am_I g26 0 20) = 0 then some ((3 : Int32), g26)
  else if its < (6 : Int32) then some ((3 : Int32), g26)
  else if (am_I g26 0 19) = 0 then
    am_let ((am_I g26 0 23) - (1 : Int32)) fun x31 =>
    am_bd (fX12_number (0 : Int64) (5 : Int64) g26) fun v32 g33 =>
    am_gd (am_in x31 400) <|
    am_let (am_si g33 12 x31.toNatClampNeg v32) fun g36 =>
    some ((3 : Int32), g36)
  else some ((3 : Int32), g26)
def isDd (g : am_G) : Bool := decide (am_I g 0 16 = 2) && !decide (0 < lg_cmp (am_L g 0 17) 1000)
theorem one_ne0 : ((1 : Int32) = 0) = False := eq_false (by decide)
theorem RP_eq {its : Int32} (sg : fX12_isSign (nI 91) g = some (nI 0, g)) (h20 : am_I g 0 20 = nI (tN md)) (pa : (if md then fX12_orderPartAt g else fX12_partAt g) = some (its, g)) : fX12_readPart g = am_bd (fX12_leaf (if its = -1 ∧ isDd g = false then 0 else 1) (if its = -1 then 0 else its) (if isDd g = false then 0 else (am_L g 0 17).toInt32) g) (fun _ g26 => rpT its g26) := by
  have hst : fX12_readPart g = am_bd (fX12_isSign (nI 91) g) _ := rfl
  rw [hst, sg, pu_bd, if_pos (show nI 0 = (0 : Int32) from rfl), pu_jn]
  have h2 : ∀ K : Int32 → am_G → Option (Int32 × am_G), (if am_I g 0 20 = 0 then am_bd (fX12_partAt g) K else am_bd (fX12_orderPartAt g) K) = K its g := by
    intro K
    cases md
    · rw [if_pos (show am_I g 0 20 = 0 from h20)]
      simp only [Bool.false_eq_true, if_false] at pa
      rw [pa, pu_bd]
    · rw [if_neg (by rw [h20]; decide)]
      simp only [if_true] at pa
      rw [pa, pu_bd]
  rw [h2]
  unfold isDd
  by_cases c1 : am_I g 0 16 = 2
  · by_cases c2 : 0 < lg_cmp (am_L g 0 17) 1000
    · by_cases c3 : its = -1
      · simp only [pu_jn, c1, c2, c3, one_ne0, if_true, if_false, decide_true, decide_false, Bool.not_true, Bool.not_false, Bool.and_true, Bool.and_false, and_true, and_self, rpT]
      · simp only [pu_jn, c1, c2, c3, one_ne0, if_true, if_false, decide_true, decide_false, Bool.not_true, Bool.not_false, Bool.and_true, Bool.and_false, false_and, rpT]
    · by_cases c3 : its = -1
      · simp only [pu_jn, c1, c2, c3, one_ne0, if_true, if_false, decide_true, decide_false, Bool.not_true, Bool.not_false, Bool.and_true, Bool.and_false, and_false, Bool.true_eq_false, rpT]
      · simp only [pu_jn, c1, c2, c3, one_ne0, if_true, if_false, decide_true, decide_false, Bool.not_true, Bool.not_false, Bool.and_true, Bool.and_false, false_and, Bool.true_eq_false, rpT]
  · by_cases c3 : its = -1
    · simp only [pu_jn, c1, c3, one_ne0, if_true, if_false, decide_true, decide_false, Bool.not_true, Bool.not_false, Bool.false_and, and_true, and_self, rpT]
    · simp only [pu_jn, c1, c3, one_ne0, if_true, if_false, decide_true, decide_false, Bool.not_true, Bool.not_false, Bool.false_and, false_and, rpT]
theorem isDd_F {c : Nat} (h : TkS g c) (hc : ¬ (1000 ≤ c ∧ c ≤ 2000)) : isDd g = false := by
  unfold isDd
  rcases h with ⟨t1, t3⟩ | ⟨t1, t2, t3, -⟩ | ⟨t1, t2, t3, t4⟩ | ⟨t1, t3, t4⟩ | ⟨t1, t2, t3, -⟩
  · rw [decide_eq_false (show ¬ am_I g 0 16 = 2 by rw [t3]; decide), Bool.false_and]
  · rw [decide_eq_false (show ¬ am_I g 0 16 = 2 by rw [t3]; decide), Bool.false_and]
  · exact absurd ⟨t1, t2⟩ hc
  · have c1 := big1000 t4
    rw [decide_eq_true (show 0 < lg_cmp (am_L g 0 17) 1000 by rw [show (0 : Int32) = nI 0 from rfl, c1]; trivial), Bool.not_true, Bool.and_false]
  · rw [decide_eq_false (show ¬ am_I g 0 16 = 2 by rw [t3]; decide), Bool.false_and]
theorem isDd_T {c : Nat} (h : TkS g c) (h1 : 1000 ≤ c) (h2 : c ≤ 2000) : isDd g = true ∧ (am_L g 0 17).toInt32 = nI (c - 1000) := by
  unfold isDd
  rcases h with ⟨t1, t3⟩ | ⟨t1, t2, t3, -⟩ | ⟨t1, t2, t3, t4⟩ | ⟨t1, t3, t4⟩ | ⟨t1, t2, t3, -⟩
  · omega
  · omega
  · have c1 := cmp1000 (v := c - 1000) (by omega)
    refine ⟨?_, by rw [t4, i64_32]⟩
    rw [decide_eq_true (show am_I g 0 16 = 2 from t3), t4, decide_eq_false (show ¬ 0 < lg_cmp (nI (c - 1000)).toInt64 1000 by intro z; rw [show (0 : Int32) = nI 0 from rfl, c1] at z; exact z)]
    rfl
  · omega
  · omega
/-- a part that is one token -/
theorem RP_leaf (hT : Tp b len) (hr : RS md b len h X nl op pi g) {o a : Nat} (hv : LfT md (tkF b len h) o a) (h50 : nl < 50) (hc : X.2.2 + 1 + emc pi ≤ 400) : ∃ g', fX12_readPart g = some (nI 3, g') ∧ RS md b len (h + 1) (emt X o a) (nl + 1) op pi g' ∧ FrP g g' := by
  obtain ⟨g1, e1, r1, f1⟩ := q12_leafT hT hr o a h50 hc
  have tk := hr.1.2.2.2.2
  have sg : fX12_isSign (nI 91) g = some (nI 0, g) := by
    rw [q12_isSignT tk (m := 91) (by decide), pb_ne (by rcases hv with z | z | z <;> omega)]
  have h20 := hr.2.2.2.2.2.1
  have h20' := r1.2.2.2.2.2.1
  have pa : (if md then fX12_orderPartAt g else fX12_partAt g) = some (if md then ixO (tkF b len h) else ixL (tkF b len h), g) := by
    cases md
    · rw [if_neg (by decide), if_neg (by decide)]; exact q12_partAt tk hr.2.2.2.2.2.2.1
    · rw [if_pos rfl, if_pos rfl]; exact q12_orderPartAt tk hr.2.2.2.2.2.2.2.1
  refine ⟨g1, ?_, r1, f1⟩
  rw [RP_eq sg h20 pa]
  have n0 : nI 0 = (0 : Int32) := rfl
  have n1 : nI 1 = (1 : Int32) := rfl
  rcases hv with ⟨v1, v2, v3, v4⟩ | ⟨v0, v1, v2, v3, v4, v5, v6⟩ | ⟨v0, v1, v2, v3, v4⟩
  · have hits : (if md then ixO (tkF b len h) else ixL (tkF b len h)) = -1 := by
      cases md
      · exact ixL_out (by omega)
      · exact ixO_out (by omega)
    obtain ⟨dd, hw⟩ := isDd_T tk v1 v2
    rw [← v4] at hw
    rw [hits, dd, if_neg (by simp), if_pos rfl, if_neg (by simp), hw, ← n1, ← n0]
    rw [v3] at e1
    rw [e1, pu_bd]
    unfold rpT
    cases md
    · rw [if_pos (show am_I g1 0 20 = 0 from h20')]; rfl
    · rw [if_neg (by rw [h20']; decide), if_pos (by decide)]; rfl
  · subst v0
    obtain ⟨j, j1, j2, j3, j4⟩ := ixL_in _ v1 v2
    have : j = o := by
      have key : ∀ j, j < 11 → ∀ o, o < 11 → 1 ≤ j → 1 ≤ o → tkL j = tkL o → j = o := by decide
      exact key j (by omega) o (by omega) j1 v4 (j4.trans v6.symm)
    subst this
    have hits : (if false = true then ixO (tkF b len h) else ixL (tkF b len h)) = nI j := by
      rw [if_neg (by decide)]; exact j3
    have nm : ¬ nI j = -1 := nI_m1ne (by omega)
    have dd := isDd_F tk (by omega)
    rw [hits, dd, if_neg (fun z => nm z.1), if_neg nm, if_pos rfl, ← n1, ← n0]
    rw [v3] at e1
    rw [e1, pu_bd]
    unfold rpT
    rw [if_pos (show am_I g1 0 20 = 0 from h20')]
    rfl
  · subst v0
    have hits : (if true = true then ixO (tkF b len h) else ixL (tkF b len h)) = nI o := by
      rw [if_pos rfl, ixO_in _ v1 v2, v3]
    have nm : ¬ nI o = -1 := nI_m1ne (by omega)
    have dd := isDd_F tk (by omega)
    rw [hits, dd, if_neg (fun z => nm z.1), if_neg nm, if_pos rfl, ← n1, ← n0]
    rw [v4] at e1
    rw [e1, pu_bd]
    unfold rpT
    rw [if_neg (by rw [h20']; decide), if_pos (show nI o < 6 from nI_lt (a := o) (b := 6) (by omega) (by decide))]
    rfl
/-- a part of talks with a slope's number -/
theorem RP_slope (hT : Tp b len) (hr : RS true b len h X nl op pi g) (hv : tkF b len h = 21 ∨ tkF b len h = 27) (h50 : nl < 50) (hc : X.2.2 + 1 + emc pi ≤ 400) : (∃ g', 1000 ≤ tkF b len (h + 1) ∧ tkF b len (h + 1) ≤ 1005 ∧ fX12_readPart g = some (nI 3, g') ∧ RS true b len (h + 2) (emt X (if tkF b len h = 21 then 6 else 7) (tkF b len (h + 1) - 1000)) (nl + 1) op pi g' ∧ FrP g g') ∨ (∃ g', ¬ (1000 ≤ tkF b len (h + 1) ∧ tkF b len (h + 1) ≤ 1005) ∧ fX12_readPart g = some (nI 3, g') ∧ FB b len (h + 1) g' ∧ FrP g g') := by
  obtain ⟨o, ho, e6, ix⟩ : ∃ o, (if tkF b len h = 21 then 6 else 7) = o ∧ (o = 6 ∨ o = 7) ∧ ixO (tkF b len h) = nI o := by
    rcases hv with e | e
    · exact ⟨6, by rw [if_pos e], Or.inl rfl, by rw [e]; rfl⟩
    · exact ⟨7, by rw [if_neg (by omega)], Or.inr rfl, by rw [e]; rfl⟩
  rw [ho]
  obtain ⟨g1, e1, r1, f1⟩ := q12_leafT hT hr o 0 h50 hc
  have tk := hr.1.2.2.2.2
  have sg : fX12_isSign (nI 91) g = some (nI 0, g) := by
    rw [q12_isSignT tk (m := 91) (by decide), pb_ne (by omega)]
  have h20 := hr.2.2.2.2.2.1
  have h20' := r1.2.2.2.2.2.1
  have h19' := r1.2.2.1
  have h23' : am_I g1 0 23 = nI (X.2.2 + 1) := r1.2.1.1
  have t16 : am_I g 0 16 = nI 1 := by
    rcases tk with ⟨t1, -⟩ | ⟨t1, t2, t3, -⟩ | ⟨t1, t2, -⟩ | ⟨t1, -⟩ | ⟨t1, t2, -⟩
    · omega
    · exact t3
    · omega
    · omega
    · omega
  have pa := q12_orderPartAt tk hr.2.2.2.2.2.2.2.1
  rw [ix] at pa
  have nm := nI_neg1 (a := o) (by omega)
  have tk1 := r1.1.2.2.2.2
  have hnot : tkF b len h ≠ 219 := by omega
  rw [show tN true = 1 from rfl] at h20 h20'
  have dd := isDd_F tk (by omega)
  have fin : ∀ (x : Int32) (g2 : am_G), fX12_number 0 5 g1 = some (x, g2) → fX12_readPart g = some (nI 3, am_si g2 12 X.2.2 x) := by
    intro x g2 hx
    have nm : ¬ nI o = -1 := nI_m1ne (by omega)
    rw [RP_eq (md := true) sg hr.2.2.2.2.2.1 (its := nI o) (by rw [if_pos rfl]; exact pa), dd, if_neg (fun z => nm z.1), if_neg nm, if_pos rfl]
    have e1' : fX12_leaf 1 (nI o) 0 g = some ((), g1) := e1
    rw [e1', pu_bd]
    unfold rpT
    have hcc : X.2.2 < 400 := by omega
    rw [if_neg (by rw [h20']; decide), if_neg (show ¬ nI o < 6 from nI_nlt (a := o) (b := 6) (by omega) (by omega)), if_pos (show am_I g1 0 19 = 0 from h19'), pu_let, hx, pu_bd, h23', show nI (X.2.2 + 1) - 1 = nI X.2.2 from nI_ms _, pe_gd hcc (by decide), pu_let, pe_clamp (by omega)]
    rfl
  by_cases hin : 1000 ≤ tkF b len (h + 1) ∧ tkF b len (h + 1) ≤ 1005
  · left
    rcases tk1 with ⟨t1, -⟩ | ⟨t1, t2, -⟩ | ⟨t1, t2, t3, t4⟩ | ⟨t1, -⟩ | ⟨t1, t2, -⟩
    · omega
    · omega
    · obtain ⟨g2, e2, r2, f2⟩ := q12_mustT hT r1
      have hx : fX12_number 0 5 g1 = some (nI (tkF b len (h + 1) - 1000), g2) := by
        unfold fX12_number
        have i1 : fX12_in (nI (tkF b len (h + 1) - 1000)).toInt64 0 5 g1 = some (pb (nI 0 ≤ nI (tkF b len (h + 1) - 1000) ∧ nI (tkF b len (h + 1) - 1000) ≤ nI 5), g1) := q12_in _ (nI 0) (nI 5) g1
        simp (disch := first | omega | assumption | decide) only [↓pv_let, ↓pv_jn, ↓reduceIte, pv_bd, ↓pv_ocs, ↓pv_ocn, pv_gdt, pe_gd, pe_clamp, pt_eq, pf_eq, pt_le, pf_le, pt_lt, pf_lt, nI_add, nn_mul, pe_sub, pb_0, pb_1, pb_z, pe_ieq, pe_ine, pe_ik, pP_si, pS_si, pn_si, ps_si, pL_si, decide_true, ofNat_nI, pe_srI, pe_srN, pe_srS, pe_srP, not_true_eq_false, not_false_eq_true, true_and, and_true, and_self, false_and, and_false, nI_m1, nI_ms, Nat.add_sub_cancel, pl_0, pl_1, pl_2, pl_3, pl_4, pl_5, pl_6, pl_7, pl_8, pl_9, pl_10, pl_11, pl_12, pl_13, pl_14, pl_15, pl_16, pl_17, pl_18, pl_19, pl_20, pl_21, pl_22, pl_23, pl_24, pl_25, pl_26, pl_27, pl_28, pl_29, pl_30, pl_31, pl_32, pl_34, pl_36, pl_37, pl_40, pl_41, pl_42, pl_43, pl_45, pl_47, pl_48, pl_50, pl_57, pl_59, pl_60, pl_61, pl_62, pl_64, pl_70, pl_91, pl_93, pl_97, pl_98, pl_99, pl_100, pl_106, pl_122, pl_128, pl_136, pl_142, pl_165, pl_168, pl_170, pl_171, pl_173, pl_175, pl_187, pl_188, pl_189, pl_190, pl_206, pl_211, pl_219, pl_229, pl_255, pl_260, pl_400, pl_500, pl_512, pl_900, pl_999, pl_1000, pl_1001, pl_1005, pl_1020, pl_1023, pl_1024, pl_1103, pl_2000, pl_2040, pl_2176, pl_5660, pl_9999, pl_12345, pl_1000000, pl_1000003, pl_100000000, pl_1000000000, pz_0, pz_1, pz_t, t3, t4, i1, i64_32, e2]
      refine ⟨_, hin.1, hin.2, fin _ _ hx, ?_, (f1.tr f2.P).si (by omega) _⟩
      have hs := r2.2.1
      have hs2 : SP (emt X o (tkF b len (h + 1) - 1000)) pi (am_si g2 12 X.2.2 (nI (tkF b len (h + 1) - 1000))) := by
        obtain ⟨s1, s2, s3, s4, s5, s6, s7⟩ := hs
        refine ⟨by rw [pe_ine (by decide)]; exact s1, fun i hi => ?_, by rw [pe_ine (by decide)]; exact s3, s4.cg (fun j _ => ⟨pe_ine (by decide), pe_ine (by decide)⟩), s5, s6, s7⟩
        have hi' : i < X.2.2 + 1 := hi
        have z := s2 i hi
        rw [pe_ine (by decide)]
        refine ⟨z.1, ?_⟩
        show _ = nI (am_up X.2.1 X.2.2 _ i)
        by_cases e : i = X.2.2
        · rw [e, pe_ieq, am_up_eq]
        · rw [pe_ik e, am_up_ne e, z.2]
          show nI (am_up X.2.1 X.2.2 0 i) = _
          rw [am_up_ne e]
      exact r2.z ((FrZ.rf g2).si (by omega) _) hs2
    · omega
    · omega
  · right
    obtain ⟨g2, e2, r2, f2, -, -⟩ := q12_mustF r1
    have hx : ∃ x, fX12_number 0 5 g1 = some (x, g2) := by
      refine ⟨(am_L g1 0 17).toInt32, ?_⟩
      unfold fX12_number
      rcases tk1 with ⟨t1, t3⟩ | ⟨t1, t2, t3, -⟩ | ⟨t1, t2, t3, t4⟩ | ⟨t1, t3, t4⟩ | ⟨t1, t2, t3, -⟩
      · simp (disch := first | omega | assumption | decide) only [↓pv_let, ↓pv_jn, ↓reduceIte, pv_bd, ↓pv_ocs, ↓pv_ocn, pv_gdt, pe_gd, pe_clamp, pt_eq, pf_eq, pt_le, pf_le, pt_lt, pf_lt, nI_add, nn_mul, pe_sub, pb_0, pb_1, pb_z, pe_ieq, pe_ine, pe_ik, pP_si, pS_si, pn_si, ps_si, pL_si, decide_true, ofNat_nI, pe_srI, pe_srN, pe_srS, pe_srP, not_true_eq_false, not_false_eq_true, true_and, and_true, and_self, false_and, and_false, nI_m1, nI_ms, Nat.add_sub_cancel, pl_0, pl_1, pl_2, pl_3, pl_4, pl_5, pl_6, pl_7, pl_8, pl_9, pl_10, pl_11, pl_12, pl_13, pl_14, pl_15, pl_16, pl_17, pl_18, pl_19, pl_20, pl_21, pl_22, pl_23, pl_24, pl_25, pl_26, pl_27, pl_28, pl_29, pl_30, pl_31, pl_32, pl_34, pl_36, pl_37, pl_40, pl_41, pl_42, pl_43, pl_45, pl_47, pl_48, pl_50, pl_57, pl_59, pl_60, pl_61, pl_62, pl_64, pl_70, pl_91, pl_93, pl_97, pl_98, pl_99, pl_100, pl_106, pl_122, pl_128, pl_136, pl_142, pl_165, pl_168, pl_170, pl_171, pl_173, pl_175, pl_187, pl_188, pl_189, pl_190, pl_206, pl_211, pl_219, pl_229, pl_255, pl_260, pl_400, pl_500, pl_512, pl_900, pl_999, pl_1000, pl_1001, pl_1005, pl_1020, pl_1023, pl_1024, pl_1103, pl_2000, pl_2040, pl_2176, pl_5660, pl_9999, pl_12345, pl_1000000, pl_1000003, pl_100000000, pl_1000000000, pz_0, pz_1, pz_t, t3, e2]
      · simp (disch := first | omega | assumption | decide) only [↓pv_let, ↓pv_jn, ↓reduceIte, pv_bd, ↓pv_ocs, ↓pv_ocn, pv_gdt, pe_gd, pe_clamp, pt_eq, pf_eq, pt_le, pf_le, pt_lt, pf_lt, nI_add, nn_mul, pe_sub, pb_0, pb_1, pb_z, pe_ieq, pe_ine, pe_ik, pP_si, pS_si, pn_si, ps_si, pL_si, decide_true, ofNat_nI, pe_srI, pe_srN, pe_srS, pe_srP, not_true_eq_false, not_false_eq_true, true_and, and_true, and_self, false_and, and_false, nI_m1, nI_ms, Nat.add_sub_cancel, pl_0, pl_1, pl_2, pl_3, pl_4, pl_5, pl_6, pl_7, pl_8, pl_9, pl_10, pl_11, pl_12, pl_13, pl_14, pl_15, pl_16, pl_17, pl_18, pl_19, pl_20, pl_21, pl_22, pl_23, pl_24, pl_25, pl_26, pl_27, pl_28, pl_29, pl_30, pl_31, pl_32, pl_34, pl_36, pl_37, pl_40, pl_41, pl_42, pl_43, pl_45, pl_47, pl_48, pl_50, pl_57, pl_59, pl_60, pl_61, pl_62, pl_64, pl_70, pl_91, pl_93, pl_97, pl_98, pl_99, pl_100, pl_106, pl_122, pl_128, pl_136, pl_142, pl_165, pl_168, pl_170, pl_171, pl_173, pl_175, pl_187, pl_188, pl_189, pl_190, pl_206, pl_211, pl_219, pl_229, pl_255, pl_260, pl_400, pl_500, pl_512, pl_900, pl_999, pl_1000, pl_1001, pl_1005, pl_1020, pl_1023, pl_1024, pl_1103, pl_2000, pl_2040, pl_2176, pl_5660, pl_9999, pl_12345, pl_1000000, pl_1000003, pl_100000000, pl_1000000000, pz_0, pz_1, pz_t, t3, e2]
      · have i1 : fX12_in (am_L g1 0 17) 0 5 g1 = some (nI 0, g1) := by
          rw [t4, show (0 : Int64) = (nI 0).toInt64 from rfl, show (5 : Int64) = (nI 5).toInt64 from rfl, q12_in, pb_ne]
          intro z
          have := (nI_leI (by omega) (by omega)).mp z.2
          omega
        simp (disch := first | omega | assumption | decide) only [↓pv_let, ↓pv_jn, ↓reduceIte, pv_bd, ↓pv_ocs, ↓pv_ocn, pv_gdt, pe_gd, pe_clamp, pt_eq, pf_eq, pt_le, pf_le, pt_lt, pf_lt, nI_add, nn_mul, pe_sub, pb_0, pb_1, pb_z, pe_ieq, pe_ine, pe_ik, pP_si, pS_si, pn_si, ps_si, pL_si, decide_true, ofNat_nI, pe_srI, pe_srN, pe_srS, pe_srP, not_true_eq_false, not_false_eq_true, true_and, and_true, and_self, false_and, and_false, nI_m1, nI_ms, Nat.add_sub_cancel, pl_0, pl_1, pl_2, pl_3, pl_4, pl_5, pl_6, pl_7, pl_8, pl_9, pl_10, pl_11, pl_12, pl_13, pl_14, pl_15, pl_16, pl_17, pl_18, pl_19, pl_20, pl_21, pl_22, pl_23, pl_24, pl_25, pl_26, pl_27, pl_28, pl_29, pl_30, pl_31, pl_32, pl_34, pl_36, pl_37, pl_40, pl_41, pl_42, pl_43, pl_45, pl_47, pl_48, pl_50, pl_57, pl_59, pl_60, pl_61, pl_62, pl_64, pl_70, pl_91, pl_93, pl_97, pl_98, pl_99, pl_100, pl_106, pl_122, pl_128, pl_136, pl_142, pl_165, pl_168, pl_170, pl_171, pl_173, pl_175, pl_187, pl_188, pl_189, pl_190, pl_206, pl_211, pl_219, pl_229, pl_255, pl_260, pl_400, pl_500, pl_512, pl_900, pl_999, pl_1000, pl_1001, pl_1005, pl_1020, pl_1023, pl_1024, pl_1103, pl_2000, pl_2040, pl_2176, pl_5660, pl_9999, pl_12345, pl_1000000, pl_1000003, pl_100000000, pl_1000000000, pz_0, pz_1, pz_t, t3, i1, e2]
      · have i1 : fX12_in (am_L g1 0 17) 0 5 g1 = some (nI 0, g1) := by
          rw [q12_in64, pb_ne]
          intro z
          have y := Int64.lt_of_lt_of_le t4 z.2
          exact absurd y (by decide)
        simp (disch := first | omega | assumption | decide) only [↓pv_let, ↓pv_jn, ↓reduceIte, pv_bd, ↓pv_ocs, ↓pv_ocn, pv_gdt, pe_gd, pe_clamp, pt_eq, pf_eq, pt_le, pf_le, pt_lt, pf_lt, nI_add, nn_mul, pe_sub, pb_0, pb_1, pb_z, pe_ieq, pe_ine, pe_ik, pP_si, pS_si, pn_si, ps_si, pL_si, decide_true, ofNat_nI, pe_srI, pe_srN, pe_srS, pe_srP, not_true_eq_false, not_false_eq_true, true_and, and_true, and_self, false_and, and_false, nI_m1, nI_ms, Nat.add_sub_cancel, pl_0, pl_1, pl_2, pl_3, pl_4, pl_5, pl_6, pl_7, pl_8, pl_9, pl_10, pl_11, pl_12, pl_13, pl_14, pl_15, pl_16, pl_17, pl_18, pl_19, pl_20, pl_21, pl_22, pl_23, pl_24, pl_25, pl_26, pl_27, pl_28, pl_29, pl_30, pl_31, pl_32, pl_34, pl_36, pl_37, pl_40, pl_41, pl_42, pl_43, pl_45, pl_47, pl_48, pl_50, pl_57, pl_59, pl_60, pl_61, pl_62, pl_64, pl_70, pl_91, pl_93, pl_97, pl_98, pl_99, pl_100, pl_106, pl_122, pl_128, pl_136, pl_142, pl_165, pl_168, pl_170, pl_171, pl_173, pl_175, pl_187, pl_188, pl_189, pl_190, pl_206, pl_211, pl_219, pl_229, pl_255, pl_260, pl_400, pl_500, pl_512, pl_900, pl_999, pl_1000, pl_1001, pl_1005, pl_1020, pl_1023, pl_1024, pl_1103, pl_2000, pl_2040, pl_2176, pl_5660, pl_9999, pl_12345, pl_1000000, pl_1000003, pl_100000000, pl_1000000000, pz_0, pz_1, pz_t, t3, i1, e2]
      · simp (disch := first | omega | assumption | decide) only [↓pv_let, ↓pv_jn, ↓reduceIte, pv_bd, ↓pv_ocs, ↓pv_ocn, pv_gdt, pe_gd, pe_clamp, pt_eq, pf_eq, pt_le, pf_le, pt_lt, pf_lt, nI_add, nn_mul, pe_sub, pb_0, pb_1, pb_z, pe_ieq, pe_ine, pe_ik, pP_si, pS_si, pn_si, ps_si, pL_si, decide_true, ofNat_nI, pe_srI, pe_srN, pe_srS, pe_srP, not_true_eq_false, not_false_eq_true, true_and, and_true, and_self, false_and, and_false, nI_m1, nI_ms, Nat.add_sub_cancel, pl_0, pl_1, pl_2, pl_3, pl_4, pl_5, pl_6, pl_7, pl_8, pl_9, pl_10, pl_11, pl_12, pl_13, pl_14, pl_15, pl_16, pl_17, pl_18, pl_19, pl_20, pl_21, pl_22, pl_23, pl_24, pl_25, pl_26, pl_27, pl_28, pl_29, pl_30, pl_31, pl_32, pl_34, pl_36, pl_37, pl_40, pl_41, pl_42, pl_43, pl_45, pl_47, pl_48, pl_50, pl_57, pl_59, pl_60, pl_61, pl_62, pl_64, pl_70, pl_91, pl_93, pl_97, pl_98, pl_99, pl_100, pl_106, pl_122, pl_128, pl_136, pl_142, pl_165, pl_168, pl_170, pl_171, pl_173, pl_175, pl_187, pl_188, pl_189, pl_190, pl_206, pl_211, pl_219, pl_229, pl_255, pl_260, pl_400, pl_500, pl_512, pl_900, pl_999, pl_1000, pl_1001, pl_1005, pl_1020, pl_1023, pl_1024, pl_1103, pl_2000, pl_2040, pl_2176, pl_5660, pl_9999, pl_12345, pl_1000000, pl_1000003, pl_100000000, pl_1000000000, pz_0, pz_1, pz_t, t3, e2]
    obtain ⟨x, hx⟩ := hx
    refine ⟨_, hin, fin _ _ hx, ?_, (f1.tr f2).si (by omega) _⟩
    obtain ⟨b1, b2, Y, pj, hs⟩ := r2
    obtain ⟨m, rfl⟩ := nI_ex x
    refine ⟨by rw [pe_ine (by decide)]; exact b1, by rw [pe_ine (by decide)]; exact b2, (Y.1, am_up Y.2.1 X.2.2 m, Y.2.2), pj, ?_⟩
    obtain ⟨s1, s2, s3, s4, s5, s6, s7⟩ := hs
    refine ⟨by rw [pe_ine (by decide)]; exact s1, fun i hi => ?_, by rw [pe_ine (by decide)]; exact s3, s4.cg (fun j _ => ⟨pe_ine (by decide), pe_ine (by decide)⟩), s5, s6, s7⟩
    have z := s2 i hi
    rw [pe_ine (by decide)]
    refine ⟨z.1, ?_⟩
    show _ = nI (am_up Y.2.1 X.2.2 m i)
    by_cases e : i = X.2.2
    · rw [e, pe_ieq, am_up_eq]
    · rw [pe_ik e, am_up_ne e, z.2]
/-- no part -/
theorem RP_bad (hr : RS md b len h X nl op pi g) (h219 : tkF b len h ≠ 219) (hv : 50 ≤ nl ∨ ¬ ((1000 ≤ tkF b len h ∧ tkF b len h ≤ 2000) ∨ (md = false ∧ 13 ≤ tkF b len h ∧ tkF b len h ≤ 22) ∨ (md = true ∧ 21 ≤ tkF b len h ∧ tkF b len h ≤ 27))) (hnl : nl ≤ 50) : ∃ g', fX12_readPart g = some (nI 3, g') ∧ FB b len h g' ∧ FrP g g' := by
  have tk := hr.1.2.2.2.2
  have sg : fX12_isSign (nI 91) g = some (nI 0, g) := by
    rw [q12_isSignT tk (m := 91) (by decide), pb_ne (by omega)]
  have h20 := hr.2.2.2.2.2.1
  have pa : (if md then fX12_orderPartAt g else fX12_partAt g) = some (if md then ixO (tkF b len h) else ixL (tkF b len h), g) := by
    cases md
    · rw [if_neg (by decide), if_neg (by decide)]; exact q12_partAt tk hr.2.2.2.2.2.2.1
    · rw [if_pos rfl, if_pos rfl]; exact q12_orderPartAt tk hr.2.2.2.2.2.2.2.1
  rw [RP_eq sg h20 pa]
  generalize hits : (if md then ixO (tkF b len h) else ixL (tkF b len h)) = its
  have key : ∀ o a, ∃ g', fX12_leaf (if its = -1 ∧ isDd g = false then 0 else 1) o a g = some ((), g') ∧ FB b len h g' ∧ FrP g g' ∧ am_I g' 0 20 = am_I g 0 20 := by
    intro o a
    by_cases e : its = -1 ∧ isDd g = false
    · rw [if_pos e]; exact q12_leafF hr 0 o a (Or.inl rfl) (by omega)
    · rw [if_neg e]
      refine q12_leafF hr 1 o a (Or.inr ⟨rfl, ?_⟩) (by omega)
      rcases hv with z | z
      · exact z
      · exfalso
        apply e
        refine ⟨?_, ?_⟩
        · rw [← hits]
          cases md
          · exact ixL_out (fun y => z (Or.inr (Or.inl ⟨rfl, y⟩)))
          · exact ixO_out (fun y => z (Or.inr (Or.inr ⟨rfl, y⟩)))
        · exact isDd_F tk (fun y => z (Or.inl y))
  obtain ⟨g', k1, k2, k3, k4⟩ := key (if its = -1 then 0 else its) (if isDd g = false then 0 else (am_L g 0 17).toInt32)
  refine ⟨g', ?_, k2, k3⟩
  rw [k1, pu_bd]
  unfold rpT
  have h19 := k2.1
  by_cases c1 : am_I g' 0 20 = 0
  · rw [if_pos c1]; rfl
  · rw [if_neg c1]
    by_cases c2 : its < 6
    · rw [if_pos c2]; rfl
    · rw [if_neg c2, if_neg (by rw [h19]; decide)]; rfl
theorem RP_br {g' : am_G} (tk : TkS g 219) (e1 : fX12_openBracket (nI 32) g = some ((), g')) : fX12_readPart g = some (nI 1, g') := by
  have hst : fX12_readPart g = am_bd (fX12_isSign (nI 91) g) _ := rfl
  rw [hst, q12_isSignT tk (m := 91) (by decide), pb_eq rfl, pu_bd, if_neg (show ¬ nI 1 = (0 : Int32) by decide), show (32 : Int32) = nI 32 from rfl, e1, pu_bd]
  rfl
theorem RP_open (hT : Tp b len) (hr : RS md b len h X nl op pi g) (ht : tkF b len h = 219) (h8 : op < 8) (hp : pi.length < 400) : ∃ g', fX12_readPart g = some (nI 1, g') ∧ RS md b len (h + 1) X nl (op + 1) ((32, 0) :: pi) g' ∧ FrP g g' := by
  obtain ⟨g1, e1, r1, f1⟩ := q12_openT hT hr (o := 32) (Or.inr rfl) h8 hp
  have tk := hr.1.2.2.2.2
  rw [ht] at tk
  exact ⟨g1, RP_br tk e1, r1, f1⟩
theorem RP_full (hr : RS md b len h X nl op pi g) (ht : tkF b len h = 219) (h8 : 8 ≤ op) (hop : op < 100) : ∃ g', fX12_readPart g = some (nI 1, g') ∧ FB b len h g' ∧ FrP g g' := by
  obtain ⟨g1, e1, r1, f1⟩ := q12_openF hr 32 h8 hop
  have tk := hr.1.2.2.2.2
  rw [ht] at tk
  exact ⟨g1, RP_br tk e1, r1, f1⟩
end RPA
