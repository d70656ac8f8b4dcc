/-! ===== values of sums and tests in the class ===== -/
/-- what a sum or test says of what is known -/
abbrev pD : Type := (Nat → Int32) → Option Int32
def pBR : Int32 := -2147483648
theorem pBR_d : (-2147483648 : Int32) = pBR := by decide
def pBd (x : Int32) : Prop := -1000000000 ≤ x.toInt ∧ x.toInt ≤ 1000000000
def jo (o : Nat) (a b : Int64) : Int64 := if o = 0 then a + b else if o = 1 then a - b else if o = 2 then a * b else if o = 3 then a / b else if o = 4 then a - a / b * b else if o = 5 then (if a < b then 1 else 0) else if o = 6 then (if b < a then 1 else 0) else (if a = b then 1 else 0)
def jv (o : Nat) (a b : Int32) : Option Int32 := if (o = 3 ∨ o = 4) ∧ b.toInt64 = 0 then none else if -1000000000 ≤ jo o a.toInt64 b.toInt64 ∧ jo o a.toInt64 b.toInt64 ≤ 1000000000 then some (jo o a.toInt64 b.toInt64).toInt32 else none
theorem i64_rt {c : Int64} (h : -1000000000 ≤ c ∧ c ≤ 1000000000) : c.toInt32.toInt64 = c ∧ pBd c.toInt32 := by
  have h1 := Int64.le_iff_toInt_le.mp h.1
  have h2 := Int64.le_iff_toInt_le.mp h.2
  have e1 : (-1000000000 : Int64).toInt = -1000000000 := by decide
  have e2 : (1000000000 : Int64).toInt = 1000000000 := by decide
  rw [e1] at h1
  rw [e2] at h2
  have e3 : c.toInt32.toInt = c.toInt := by
    rw [Int64.toInt_toInt32]
    exact Int.bmod_eq_of_le (by omega) (by omega)
  refine ⟨Int64.toInt_inj.mp ?_, ?_⟩
  · rw [Int32.toInt_toInt64, e3]
  · unfold pBd
    rw [e3]
    exact ⟨h1, h2⟩
theorem jv_bd {o : Nat} {a b v : Int32} (h : jv o a b = some v) : pBd v := by
  unfold jv at h
  split at h
  · exact absurd h (by simp)
  · split at h
    · rename_i h2
      rw [← Option.some.inj h]
      exact (i64_rt h2).2
    · exact absurd h (by simp)
theorem pBd_ne {x : Int32} (h : pBd x) : x ≠ pBR := by
  intro e
  rw [e] at h
  exact absurd h.1 (by decide)
theorem cmp_eq (x y : Int64) : (lg_cmp x y = nI 0) = (x = y) := by
  unfold lg_cmp
  by_cases h1 : y < x
  · have : ¬ x = y := fun e => by subst e; exact absurd h1 (Int64.lt_irrefl)
    simp [h1, this, show ¬ (1 : Int32) = nI 0 from by decide]
  · by_cases h2 : x = y
    · subst h2; simp [show (0 : Int32) = nI 0 from rfl]
    · simp [h1, h2, show ¬ (-1 : Int32) = nI 0 from by decide]
theorem cmp_lt' (x y : Int64) : (lg_cmp x y < nI 0) = (x < y) := cmp_lt x y
theorem cmp_gt' (x y : Int64) : (nI 0 < lg_cmp x y) = (y < x) := cmp_gt x y
theorem cmp_ge' (x y : Int64) : (nI 0 ≤ lg_cmp x y) = (y ≤ x) := by
  have h := cmp_lt' x y
  apply propext
  constructor
  · intro z
    refine Int64.not_lt.mp fun w => ?_
    rw [← h] at w
    exact absurd z (Int32.not_le.mpr w)
  · intro z
    refine Int32.not_lt.mp fun w => ?_
    rw [h] at w
    exact absurd z (Int64.not_le.mpr w)
theorem cmp_le' (x y : Int64) : (lg_cmp x y ≤ nI 0) = (x ≤ y) := by
  have h := cmp_gt' x y
  apply propext
  constructor
  · intro z
    refine Int64.not_lt.mp fun w => ?_
    rw [← h] at w
    exact absurd z (Int32.not_le.mpr w)
  · intro z
    refine Int32.not_lt.mp fun w => ?_
    rw [h] at w
    exact absurd z (Int64.not_le.mpr w)
theorem jo_lt (a b : Int64) : jo 5 a b = if nI 0 ≤ lg_cmp a b then 0 else 1 := by
  show (if a < b then (1 : Int64) else 0) = _
  simp only [cmp_ge']
  by_cases h : a < b
  · rw [if_pos h, if_neg (Int64.not_le.mpr h)]
  · rw [if_neg h, if_pos (Int64.not_lt.mp h)]
theorem jo_gt (a b : Int64) : jo 6 a b = if lg_cmp a b ≤ nI 0 then 0 else 1 := by
  show (if b < a then (1 : Int64) else 0) = _
  simp only [cmp_le']
  by_cases h : b < a
  · rw [if_pos h, if_neg (Int64.not_le.mpr h)]
  · rw [if_neg h, if_pos (Int64.not_lt.mp h)]
theorem jo_eq (a b : Int64) : jo 7 a b = if lg_cmp a b = nI 0 then 1 else 0 := by
  show (if a = b then (1 : Int64) else 0) = _
  simp only [cmp_eq]
theorem fin64 (g : am_G) (c : Int64) : (if nI 0 < lg_cmp c 1000000000 then some (pBR, g) else if nI 0 ≤ lg_cmp c (-1000000000) then some (c.toInt32, g) else some (pBR, g)) = some (((if -1000000000 ≤ c ∧ c ≤ 1000000000 then some c.toInt32 else none) : Option Int32).getD pBR, g) := by
  simp only [cmp_gt', cmp_ge']
  by_cases h1 : 1000000000 < c
  · rw [if_pos h1, if_neg (fun z => absurd z.2 (Int64.not_le.mpr h1))]
    rfl
  · rw [if_neg h1]
    by_cases h2 : -1000000000 ≤ c
    · rw [if_pos h2, if_pos ⟨h2, Int64.not_lt.mp h1⟩]
      rfl
    · rw [if_neg h2, if_neg (fun z => h2 z.1)]
      rfl
theorem sw01 (p : Prop) [Decidable p] (x y : Int64) (g : am_G) (hx : -1000000000 ≤ x ∧ x ≤ 1000000000) (hy : -1000000000 ≤ y ∧ y ≤ 1000000000) : (if p then some (x.toInt32, g) else some (y.toInt32, g)) = some (((if -1000000000 ≤ (if p then x else y) ∧ (if p then x else y) ≤ 1000000000 then some (if p then x else y).toInt32 else none) : Option Int32).getD pBR, g) := by
  by_cases h : p
  · simp only [h, if_true]
    rw [if_pos hx]
    rfl
  · simp only [h, if_false]
    rw [if_pos hy]
    rfl
theorem gd0 {β : Type} {b : Int64} {k : Option β} (h : ¬ b = 0) : am_gd (!decide (b = 0)) k = k := pu_gd (by simp [h])
theorem q0_joined {o : Nat} (ho : o < 8) (a b : Int32) (g : am_G) : fX0_joined (nI (6 + o)) a.toInt64 b.toInt64 g = some ((jv o a b).getD pBR, g) := by
  have hj : ¬ ((o = 3 ∨ o = 4) ∧ b.toInt64 = 0) → jv o a b = if -1000000000 ≤ jo o a.toInt64 b.toInt64 ∧ jo o a.toInt64 b.toInt64 ≤ 1000000000 then some (jo o a.toInt64 b.toInt64).toInt32 else none := by
    intro h
    unfold jv
    rw [if_neg h]
  by_cases hz : b.toInt64 = 0
  · have hz' : (lg_cmp b.toInt64 0 = nI 0) = True := eq_true ((cmp_eq _ _).mpr hz)
    rcases (show o = 0 ∨ o = 1 ∨ o = 2 ∨ o = 3 ∨ o = 4 ∨ o = 5 ∨ o = 6 ∨ o = 7 by omega) with rfl | rfl | rfl | rfl | rfl | rfl | rfl | rfl
    · rw [hj (by omega)]; unfold fX0_joined; simp (disch := first | omega | assumption | decide) only [pu_let, pu_jn, pu_bd, pu_ocs, pu_ocn, pu_gdt, pe_gd, pe_clamp, pe_eq, pe_le, pe_lt, pe_pos, pe_neg, nI_add, nn_mul, pe_sub, pb_0, pb_1, pb_z, pe_ieq, pe_ine, pe_ik, pP_si, pS_si, pn_si, ps_si, pL_si, ite_not, pe_gdd, pe_lle, decide_true, ofNat_nI, pe_srI, pe_srN, pe_srS, pe_srP, pl_0, pl_1, pl_2, pl_3, pl_4, pl_5, pl_6, pl_7, pl_8, pl_9, pl_10, pl_11, pl_12, pl_13, pl_14, pl_15, pl_16, pl_17, pl_18, pl_19, pl_20, pl_21, pl_22, pl_23, pl_24, pl_25, pl_26, pl_27, pl_28, pl_29, pl_30, pl_31, pl_32, pl_34, pl_36, pl_37, pl_40, pl_41, pl_42, pl_43, pl_45, pl_47, pl_48, pl_50, pl_57, pl_59, pl_60, pl_61, pl_62, pl_64, pl_70, pl_91, pl_93, pl_97, pl_98, pl_99, pl_100, pl_106, pl_122, pl_128, pl_136, pl_142, pl_165, pl_168, pl_170, pl_171, pl_173, pl_175, pl_187, pl_188, pl_189, pl_190, pl_206, pl_211, pl_219, pl_229, pl_255, pl_260, pl_400, pl_500, pl_512, pl_900, pl_999, pl_1000, pl_1001, pl_1005, pl_1020, pl_1023, pl_1024, pl_1103, pl_2000, pl_2040, pl_2176, pl_5660, pl_9999, pl_12345, pl_1000000, pl_1000003, pl_100000000, pl_1000000000, hz', if_true, pBR_d]; exact fin64 g _
    · rw [hj (by omega)]; unfold fX0_joined; simp (disch := first | omega | assumption | decide) only [pu_let, pu_jn, pu_bd, pu_ocs, pu_ocn, pu_gdt, pe_gd, pe_clamp, pe_eq, pe_le, pe_lt, pe_pos, pe_neg, nI_add, nn_mul, pe_sub, pb_0, pb_1, pb_z, pe_ieq, pe_ine, pe_ik, pP_si, pS_si, pn_si, ps_si, pL_si, ite_not, pe_gdd, pe_lle, decide_true, ofNat_nI, pe_srI, pe_srN, pe_srS, pe_srP, pl_0, pl_1, pl_2, pl_3, pl_4, pl_5, pl_6, pl_7, pl_8, pl_9, pl_10, pl_11, pl_12, pl_13, pl_14, pl_15, pl_16, pl_17, pl_18, pl_19, pl_20, pl_21, pl_22, pl_23, pl_24, pl_25, pl_26, pl_27, pl_28, pl_29, pl_30, pl_31, pl_32, pl_34, pl_36, pl_37, pl_40, pl_41, pl_42, pl_43, pl_45, pl_47, pl_48, pl_50, pl_57, pl_59, pl_60, pl_61, pl_62, pl_64, pl_70, pl_91, pl_93, pl_97, pl_98, pl_99, pl_100, pl_106, pl_122, pl_128, pl_136, pl_142, pl_165, pl_168, pl_170, pl_171, pl_173, pl_175, pl_187, pl_188, pl_189, pl_190, pl_206, pl_211, pl_219, pl_229, pl_255, pl_260, pl_400, pl_500, pl_512, pl_900, pl_999, pl_1000, pl_1001, pl_1005, pl_1020, pl_1023, pl_1024, pl_1103, pl_2000, pl_2040, pl_2176, pl_5660, pl_9999, pl_12345, pl_1000000, pl_1000003, pl_100000000, pl_1000000000, hz', if_true, pBR_d]; exact fin64 g _
    · rw [hj (by omega)]; unfold fX0_joined; simp (disch := first | omega | assumption | decide) only [pu_let, pu_jn, pu_bd, pu_ocs, pu_ocn, pu_gdt, pe_gd, pe_clamp, pe_eq, pe_le, pe_lt, pe_pos, pe_neg, nI_add, nn_mul, pe_sub, pb_0, pb_1, pb_z, pe_ieq, pe_ine, pe_ik, pP_si, pS_si, pn_si, ps_si, pL_si, ite_not, pe_gdd, pe_lle, decide_true, ofNat_nI, pe_srI, pe_srN, pe_srS, pe_srP, pl_0, pl_1, pl_2, pl_3, pl_4, pl_5, pl_6, pl_7, pl_8, pl_9, pl_10, pl_11, pl_12, pl_13, pl_14, pl_15, pl_16, pl_17, pl_18, pl_19, pl_20, pl_21, pl_22, pl_23, pl_24, pl_25, pl_26, pl_27, pl_28, pl_29, pl_30, pl_31, pl_32, pl_34, pl_36, pl_37, pl_40, pl_41, pl_42, pl_43, pl_45, pl_47, pl_48, pl_50, pl_57, pl_59, pl_60, pl_61, pl_62, pl_64, pl_70, pl_91, pl_93, pl_97, pl_98, pl_99, pl_100, pl_106, pl_122, pl_128, pl_136, pl_142, pl_165, pl_168, pl_170, pl_171, pl_173, pl_175, pl_187, pl_188, pl_189, pl_190, pl_206, pl_211, pl_219, pl_229, pl_255, pl_260, pl_400, pl_500, pl_512, pl_900, pl_999, pl_1000, pl_1001, pl_1005, pl_1020, pl_1023, pl_1024, pl_1103, pl_2000, pl_2040, pl_2176, pl_5660, pl_9999, pl_12345, pl_1000000, pl_1000003, pl_100000000, pl_1000000000, hz', if_true, pBR_d]; exact fin64 g _
    · rw [show jv 3 a b = none from if_pos ⟨Or.inl rfl, hz⟩]; unfold fX0_joined; simp (disch := first | omega | assumption | decide) only [pu_let, pu_jn, pu_bd, pu_ocs, pu_ocn, pu_gdt, pe_gd, pe_clamp, pe_eq, pe_le, pe_lt, pe_pos, pe_neg, nI_add, nn_mul, pe_sub, pb_0, pb_1, pb_z, pe_ieq, pe_ine, pe_ik, pP_si, pS_si, pn_si, ps_si, pL_si, ite_not, pe_gdd, pe_lle, decide_true, ofNat_nI, pe_srI, pe_srN, pe_srS, pe_srP, pl_0, pl_1, pl_2, pl_3, pl_4, pl_5, pl_6, pl_7, pl_8, pl_9, pl_10, pl_11, pl_12, pl_13, pl_14, pl_15, pl_16, pl_17, pl_18, pl_19, pl_20, pl_21, pl_22, pl_23, pl_24, pl_25, pl_26, pl_27, pl_28, pl_29, pl_30, pl_31, pl_32, pl_34, pl_36, pl_37, pl_40, pl_41, pl_42, pl_43, pl_45, pl_47, pl_48, pl_50, pl_57, pl_59, pl_60, pl_61, pl_62, pl_64, pl_70, pl_91, pl_93, pl_97, pl_98, pl_99, pl_100, pl_106, pl_122, pl_128, pl_136, pl_142, pl_165, pl_168, pl_170, pl_171, pl_173, pl_175, pl_187, pl_188, pl_189, pl_190, pl_206, pl_211, pl_219, pl_229, pl_255, pl_260, pl_400, pl_500, pl_512, pl_900, pl_999, pl_1000, pl_1001, pl_1005, pl_1020, pl_1023, pl_1024, pl_1103, pl_2000, pl_2040, pl_2176, pl_5660, pl_9999, pl_12345, pl_1000000, pl_1000003, pl_100000000, pl_1000000000, hz', if_true, pBR_d, Option.getD_none]
    · rw [show jv 4 a b = none from if_pos ⟨Or.inr rfl, hz⟩]; unfold fX0_joined; simp (disch := first | omega | assumption | decide) only [pu_let, pu_jn, pu_bd, pu_ocs, pu_ocn, pu_gdt, pe_gd, pe_clamp, pe_eq, pe_le, pe_lt, pe_pos, pe_neg, nI_add, nn_mul, pe_sub, pb_0, pb_1, pb_z, pe_ieq, pe_ine, pe_ik, pP_si, pS_si, pn_si, ps_si, pL_si, ite_not, pe_gdd, pe_lle, decide_true, ofNat_nI, pe_srI, pe_srN, pe_srS, pe_srP, pl_0, pl_1, pl_2, pl_3, pl_4, pl_5, pl_6, pl_7, pl_8, pl_9, pl_10, pl_11, pl_12, pl_13, pl_14, pl_15, pl_16, pl_17, pl_18, pl_19, pl_20, pl_21, pl_22, pl_23, pl_24, pl_25, pl_26, pl_27, pl_28, pl_29, pl_30, pl_31, pl_32, pl_34, pl_36, pl_37, pl_40, pl_41, pl_42, pl_43, pl_45, pl_47, pl_48, pl_50, pl_57, pl_59, pl_60, pl_61, pl_62, pl_64, pl_70, pl_91, pl_93, pl_97, pl_98, pl_99, pl_100, pl_106, pl_122, pl_128, pl_136, pl_142, pl_165, pl_168, pl_170, pl_171, pl_173, pl_175, pl_187, pl_188, pl_189, pl_190, pl_206, pl_211, pl_219, pl_229, pl_255, pl_260, pl_400, pl_500, pl_512, pl_900, pl_999, pl_1000, pl_1001, pl_1005, pl_1020, pl_1023, pl_1024, pl_1103, pl_2000, pl_2040, pl_2176, pl_5660, pl_9999, pl_12345, pl_1000000, pl_1000003, pl_100000000, pl_1000000000, hz', if_true, pBR_d, Option.getD_none]
    · rw [hj (by omega)]; unfold fX0_joined; simp (disch := first | omega | assumption | decide) only [pu_let, pu_jn, pu_bd, pu_ocs, pu_ocn, pu_gdt, pe_gd, pe_clamp, pe_eq, pe_le, pe_lt, pe_pos, pe_neg, nI_add, nn_mul, pe_sub, pb_0, pb_1, pb_z, pe_ieq, pe_ine, pe_ik, pP_si, pS_si, pn_si, ps_si, pL_si, ite_not, pe_gdd, pe_lle, decide_true, ofNat_nI, pe_srI, pe_srN, pe_srS, pe_srP, pl_0, pl_1, pl_2, pl_3, pl_4, pl_5, pl_6, pl_7, pl_8, pl_9, pl_10, pl_11, pl_12, pl_13, pl_14, pl_15, pl_16, pl_17, pl_18, pl_19, pl_20, pl_21, pl_22, pl_23, pl_24, pl_25, pl_26, pl_27, pl_28, pl_29, pl_30, pl_31, pl_32, pl_34, pl_36, pl_37, pl_40, pl_41, pl_42, pl_43, pl_45, pl_47, pl_48, pl_50, pl_57, pl_59, pl_60, pl_61, pl_62, pl_64, pl_70, pl_91, pl_93, pl_97, pl_98, pl_99, pl_100, pl_106, pl_122, pl_128, pl_136, pl_142, pl_165, pl_168, pl_170, pl_171, pl_173, pl_175, pl_187, pl_188, pl_189, pl_190, pl_206, pl_211, pl_219, pl_229, pl_255, pl_260, pl_400, pl_500, pl_512, pl_900, pl_999, pl_1000, pl_1001, pl_1005, pl_1020, pl_1023, pl_1024, pl_1103, pl_2000, pl_2040, pl_2176, pl_5660, pl_9999, pl_12345, pl_1000000, pl_1000003, pl_100000000, pl_1000000000, hz', if_true, pBR_d]; rw [jo_lt]; exact sw01 _ _ _ _ (by decide) (by decide)
    · rw [hj (by omega)]; unfold fX0_joined; simp (disch := first | omega | assumption | decide) only [pu_let, pu_jn, pu_bd, pu_ocs, pu_ocn, pu_gdt, pe_gd, pe_clamp, pe_eq, pe_le, pe_lt, pe_pos, pe_neg, nI_add, nn_mul, pe_sub, pb_0, pb_1, pb_z, pe_ieq, pe_ine, pe_ik, pP_si, pS_si, pn_si, ps_si, pL_si, ite_not, pe_gdd, pe_lle, decide_true, ofNat_nI, pe_srI, pe_srN, pe_srS, pe_srP, pl_0, pl_1, pl_2, pl_3, pl_4, pl_5, pl_6, pl_7, pl_8, pl_9, pl_10, pl_11, pl_12, pl_13, pl_14, pl_15, pl_16, pl_17, pl_18, pl_19, pl_20, pl_21, pl_22, pl_23, pl_24, pl_25, pl_26, pl_27, pl_28, pl_29, pl_30, pl_31, pl_32, pl_34, pl_36, pl_37, pl_40, pl_41, pl_42, pl_43, pl_45, pl_47, pl_48, pl_50, pl_57, pl_59, pl_60, pl_61, pl_62, pl_64, pl_70, pl_91, pl_93, pl_97, pl_98, pl_99, pl_100, pl_106, pl_122, pl_128, pl_136, pl_142, pl_165, pl_168, pl_170, pl_171, pl_173, pl_175, pl_187, pl_188, pl_189, pl_190, pl_206, pl_211, pl_219, pl_229, pl_255, pl_260, pl_400, pl_500, pl_512, pl_900, pl_999, pl_1000, pl_1001, pl_1005, pl_1020, pl_1023, pl_1024, pl_1103, pl_2000, pl_2040, pl_2176, pl_5660, pl_9999, pl_12345, pl_1000000, pl_1000003, pl_100000000, pl_1000000000, hz', if_true, pBR_d]; rw [jo_gt]; exact sw01 _ _ _ _ (by decide) (by decide)
    · rw [hj (by omega)]; unfold fX0_joined; simp (disch := first | omega | assumption | decide) only [pu_let, pu_jn, pu_bd, pu_ocs, pu_ocn, pu_gdt, pe_gd, pe_clamp, pe_eq, pe_le, pe_lt, pe_pos, pe_neg, nI_add, nn_mul, pe_sub, pb_0, pb_1, pb_z, pe_ieq, pe_ine, pe_ik, pP_si, pS_si, pn_si, ps_si, pL_si, ite_not, pe_gdd, pe_lle, decide_true, ofNat_nI, pe_srI, pe_srN, pe_srS, pe_srP, pl_0, pl_1, pl_2, pl_3, pl_4, pl_5, pl_6, pl_7, pl_8, pl_9, pl_10, pl_11, pl_12, pl_13, pl_14, pl_15, pl_16, pl_17, pl_18, pl_19, pl_20, pl_21, pl_22, pl_23, pl_24, pl_25, pl_26, pl_27, pl_28, pl_29, pl_30, pl_31, pl_32, pl_34, pl_36, pl_37, pl_40, pl_41, pl_42, pl_43, pl_45, pl_47, pl_48, pl_50, pl_57, pl_59, pl_60, pl_61, pl_62, pl_64, pl_70, pl_91, pl_93, pl_97, pl_98, pl_99, pl_100, pl_106, pl_122, pl_128, pl_136, pl_142, pl_165, pl_168, pl_170, pl_171, pl_173, pl_175, pl_187, pl_188, pl_189, pl_190, pl_206, pl_211, pl_219, pl_229, pl_255, pl_260, pl_400, pl_500, pl_512, pl_900, pl_999, pl_1000, pl_1001, pl_1005, pl_1020, pl_1023, pl_1024, pl_1103, pl_2000, pl_2040, pl_2176, pl_5660, pl_9999, pl_12345, pl_1000000, pl_1000003, pl_100000000, pl_1000000000, hz', if_true, pBR_d]; rw [jo_eq]; exact sw01 _ _ _ _ (by decide) (by decide)
  · have hz' : (lg_cmp b.toInt64 0 = nI 0) = False := eq_false fun z => hz ((cmp_eq _ _).mp z)
    rw [hj (fun z => hz z.2)]
    rcases (show o = 0 ∨ o = 1 ∨ o = 2 ∨ o = 3 ∨ o = 4 ∨ o = 5 ∨ o = 6 ∨ o = 7 by omega) with rfl | rfl | rfl | rfl | rfl | rfl | rfl | rfl
    · unfold fX0_joined; simp (disch := first | omega | assumption | decide) only [pu_let, pu_jn, pu_bd, pu_ocs, pu_ocn, pu_gdt, pe_gd, pe_clamp, pe_eq, pe_le, pe_lt, pe_pos, pe_neg, nI_add, nn_mul, pe_sub, pb_0, pb_1, pb_z, pe_ieq, pe_ine, pe_ik, pP_si, pS_si, pn_si, ps_si, pL_si, ite_not, pe_gdd, pe_lle, decide_true, ofNat_nI, pe_srI, pe_srN, pe_srS, pe_srP, pl_0, pl_1, pl_2, pl_3, pl_4, pl_5, pl_6, pl_7, pl_8, pl_9, pl_10, pl_11, pl_12, pl_13, pl_14, pl_15, pl_16, pl_17, pl_18, pl_19, pl_20, pl_21, pl_22, pl_23, pl_24, pl_25, pl_26, pl_27, pl_28, pl_29, pl_30, pl_31, pl_32, pl_34, pl_36, pl_37, pl_40, pl_41, pl_42, pl_43, pl_45, pl_47, pl_48, pl_50, pl_57, pl_59, pl_60, pl_61, pl_62, pl_64, pl_70, pl_91, pl_93, pl_97, pl_98, pl_99, pl_100, pl_106, pl_122, pl_128, pl_136, pl_142, pl_165, pl_168, pl_170, pl_171, pl_173, pl_175, pl_187, pl_188, pl_189, pl_190, pl_206, pl_211, pl_219, pl_229, pl_255, pl_260, pl_400, pl_500, pl_512, pl_900, pl_999, pl_1000, pl_1001, pl_1005, pl_1020, pl_1023, pl_1024, pl_1103, pl_2000, pl_2040, pl_2176, pl_5660, pl_9999, pl_12345, pl_1000000, pl_1000003, pl_100000000, pl_1000000000, hz', if_false, pBR_d]; exact fin64 g _
    · unfold fX0_joined; simp (disch := first | omega | assumption | decide) only [pu_let, pu_jn, pu_bd, pu_ocs, pu_ocn, pu_gdt, pe_gd, pe_clamp, pe_eq, pe_le, pe_lt, pe_pos, pe_neg, nI_add, nn_mul, pe_sub, pb_0, pb_1, pb_z, pe_ieq, pe_ine, pe_ik, pP_si, pS_si, pn_si, ps_si, pL_si, ite_not, pe_gdd, pe_lle, decide_true, ofNat_nI, pe_srI, pe_srN, pe_srS, pe_srP, pl_0, pl_1, pl_2, pl_3, pl_4, pl_5, pl_6, pl_7, pl_8, pl_9, pl_10, pl_11, pl_12, pl_13, pl_14, pl_15, pl_16, pl_17, pl_18, pl_19, pl_20, pl_21, pl_22, pl_23, pl_24, pl_25, pl_26, pl_27, pl_28, pl_29, pl_30, pl_31, pl_32, pl_34, pl_36, pl_37, pl_40, pl_41, pl_42, pl_43, pl_45, pl_47, pl_48, pl_50, pl_57, pl_59, pl_60, pl_61, pl_62, pl_64, pl_70, pl_91, pl_93, pl_97, pl_98, pl_99, pl_100, pl_106, pl_122, pl_128, pl_136, pl_142, pl_165, pl_168, pl_170, pl_171, pl_173, pl_175, pl_187, pl_188, pl_189, pl_190, pl_206, pl_211, pl_219, pl_229, pl_255, pl_260, pl_400, pl_500, pl_512, pl_900, pl_999, pl_1000, pl_1001, pl_1005, pl_1020, pl_1023, pl_1024, pl_1103, pl_2000, pl_2040, pl_2176, pl_5660, pl_9999, pl_12345, pl_1000000, pl_1000003, pl_100000000, pl_1000000000, hz', if_false, pBR_d]; exact fin64 g _
    · unfold fX0_joined; simp (disch := first | omega | assumption | decide) only [pu_let, pu_jn, pu_bd, pu_ocs, pu_ocn, pu_gdt, pe_gd, pe_clamp, pe_eq, pe_le, pe_lt, pe_pos, pe_neg, nI_add, nn_mul, pe_sub, pb_0, pb_1, pb_z, pe_ieq, pe_ine, pe_ik, pP_si, pS_si, pn_si, ps_si, pL_si, ite_not, pe_gdd, pe_lle, decide_true, ofNat_nI, pe_srI, pe_srN, pe_srS, pe_srP, pl_0, pl_1, pl_2, pl_3, pl_4, pl_5, pl_6, pl_7, pl_8, pl_9, pl_10, pl_11, pl_12, pl_13, pl_14, pl_15, pl_16, pl_17, pl_18, pl_19, pl_20, pl_21, pl_22, pl_23, pl_24, pl_25, pl_26, pl_27, pl_28, pl_29, pl_30, pl_31, pl_32, pl_34, pl_36, pl_37, pl_40, pl_41, pl_42, pl_43, pl_45, pl_47, pl_48, pl_50, pl_57, pl_59, pl_60, pl_61, pl_62, pl_64, pl_70, pl_91, pl_93, pl_97, pl_98, pl_99, pl_100, pl_106, pl_122, pl_128, pl_136, pl_142, pl_165, pl_168, pl_170, pl_171, pl_173, pl_175, pl_187, pl_188, pl_189, pl_190, pl_206, pl_211, pl_219, pl_229, pl_255, pl_260, pl_400, pl_500, pl_512, pl_900, pl_999, pl_1000, pl_1001, pl_1005, pl_1020, pl_1023, pl_1024, pl_1103, pl_2000, pl_2040, pl_2176, pl_5660, pl_9999, pl_12345, pl_1000000, pl_1000003, pl_100000000, pl_1000000000, hz', if_false, pBR_d]; exact fin64 g _
    · unfold fX0_joined; simp (disch := first | omega | assumption | decide) only [pu_let, pu_jn, pu_bd, pu_ocs, pu_ocn, pu_gdt, pe_gd, pe_clamp, pe_eq, pe_le, pe_lt, pe_pos, pe_neg, nI_add, nn_mul, pe_sub, pb_0, pb_1, pb_z, pe_ieq, pe_ine, pe_ik, pP_si, pS_si, pn_si, ps_si, pL_si, ite_not, pe_gdd, pe_lle, decide_true, ofNat_nI, pe_srI, pe_srN, pe_srS, pe_srP, pl_0, pl_1, pl_2, pl_3, pl_4, pl_5, pl_6, pl_7, pl_8, pl_9, pl_10, pl_11, pl_12, pl_13, pl_14, pl_15, pl_16, pl_17, pl_18, pl_19, pl_20, pl_21, pl_22, pl_23, pl_24, pl_25, pl_26, pl_27, pl_28, pl_29, pl_30, pl_31, pl_32, pl_34, pl_36, pl_37, pl_40, pl_41, pl_42, pl_43, pl_45, pl_47, pl_48, pl_50, pl_57, pl_59, pl_60, pl_61, pl_62, pl_64, pl_70, pl_91, pl_93, pl_97, pl_98, pl_99, pl_100, pl_106, pl_122, pl_128, pl_136, pl_142, pl_165, pl_168, pl_170, pl_171, pl_173, pl_175, pl_187, pl_188, pl_189, pl_190, pl_206, pl_211, pl_219, pl_229, pl_255, pl_260, pl_400, pl_500, pl_512, pl_900, pl_999, pl_1000, pl_1001, pl_1005, pl_1020, pl_1023, pl_1024, pl_1103, pl_2000, pl_2040, pl_2176, pl_5660, pl_9999, pl_12345, pl_1000000, pl_1000003, pl_100000000, pl_1000000000, hz', if_false, pBR_d, gd0 hz]; exact fin64 g _
    · unfold fX0_joined; simp (disch := first | omega | assumption | decide) only [pu_let, pu_jn, pu_bd, pu_ocs, pu_ocn, pu_gdt, pe_gd, pe_clamp, pe_eq, pe_le, pe_lt, pe_pos, pe_neg, nI_add, nn_mul, pe_sub, pb_0, pb_1, pb_z, pe_ieq, pe_ine, pe_ik, pP_si, pS_si, pn_si, ps_si, pL_si, ite_not, pe_gdd, pe_lle, decide_true, ofNat_nI, pe_srI, pe_srN, pe_srS, pe_srP, pl_0, pl_1, pl_2, pl_3, pl_4, pl_5, pl_6, pl_7, pl_8, pl_9, pl_10, pl_11, pl_12, pl_13, pl_14, pl_15, pl_16, pl_17, pl_18, pl_19, pl_20, pl_21, pl_22, pl_23, pl_24, pl_25, pl_26, pl_27, pl_28, pl_29, pl_30, pl_31, pl_32, pl_34, pl_36, pl_37, pl_40, pl_41, pl_42, pl_43, pl_45, pl_47, pl_48, pl_50, pl_57, pl_59, pl_60, pl_61, pl_62, pl_64, pl_70, pl_91, pl_93, pl_97, pl_98, pl_99, pl_100, pl_106, pl_122, pl_128, pl_136, pl_142, pl_165, pl_168, pl_170, pl_171, pl_173, pl_175, pl_187, pl_188, pl_189, pl_190, pl_206, pl_211, pl_219, pl_229, pl_255, pl_260, pl_400, pl_500, pl_512, pl_900, pl_999, pl_1000, pl_1001, pl_1005, pl_1020, pl_1023, pl_1024, pl_1103, pl_2000, pl_2040, pl_2176, pl_5660, pl_9999, pl_12345, pl_1000000, pl_1000003, pl_100000000, pl_1000000000, hz', if_false, pBR_d, gd0 hz]; exact fin64 g _
    · unfold fX0_joined; simp (disch := first | omega | assumption | decide) only [pu_let, pu_jn, pu_bd, pu_ocs, pu_ocn, pu_gdt, pe_gd, pe_clamp, pe_eq, pe_le, pe_lt, pe_pos, pe_neg, nI_add, nn_mul, pe_sub, pb_0, pb_1, pb_z, pe_ieq, pe_ine, pe_ik, pP_si, pS_si, pn_si, ps_si, pL_si, ite_not, pe_gdd, pe_lle, decide_true, ofNat_nI, pe_srI, pe_srN, pe_srS, pe_srP, pl_0, pl_1, pl_2, pl_3, pl_4, pl_5, pl_6, pl_7, pl_8, pl_9, pl_10, pl_11, pl_12, pl_13, pl_14, pl_15, pl_16, pl_17, pl_18, pl_19, pl_20, pl_21, pl_22, pl_23, pl_24, pl_25, pl_26, pl_27, pl_28, pl_29, pl_30, pl_31, pl_32, pl_34, pl_36, pl_37, pl_40, pl_41, pl_42, pl_43, pl_45, pl_47, pl_48, pl_50, pl_57, pl_59, pl_60, pl_61, pl_62, pl_64, pl_70, pl_91, pl_93, pl_97, pl_98, pl_99, pl_100, pl_106, pl_122, pl_128, pl_136, pl_142, pl_165, pl_168, pl_170, pl_171, pl_173, pl_175, pl_187, pl_188, pl_189, pl_190, pl_206, pl_211, pl_219, pl_229, pl_255, pl_260, pl_400, pl_500, pl_512, pl_900, pl_999, pl_1000, pl_1001, pl_1005, pl_1020, pl_1023, pl_1024, pl_1103, pl_2000, pl_2040, pl_2176, pl_5660, pl_9999, pl_12345, pl_1000000, pl_1000003, pl_100000000, pl_1000000000, hz', if_false, pBR_d]; rw [jo_lt]; exact sw01 _ _ _ _ (by decide) (by decide)
    · unfold fX0_joined; simp (disch := first | omega | assumption | decide) only [pu_let, pu_jn, pu_bd, pu_ocs, pu_ocn, pu_gdt, pe_gd, pe_clamp, pe_eq, pe_le, pe_lt, pe_pos, pe_neg, nI_add, nn_mul, pe_sub, pb_0, pb_1, pb_z, pe_ieq, pe_ine, pe_ik, pP_si, pS_si, pn_si, ps_si, pL_si, ite_not, pe_gdd, pe_lle, decide_true, ofNat_nI, pe_srI, pe_srN, pe_srS, pe_srP, pl_0, pl_1, pl_2, pl_3, pl_4, pl_5, pl_6, pl_7, pl_8, pl_9, pl_10, pl_11, pl_12, pl_13, pl_14, pl_15, pl_16, pl_17, pl_18, pl_19, pl_20, pl_21, pl_22, pl_23, pl_24, pl_25, pl_26, pl_27, pl_28, pl_29, pl_30, pl_31, pl_32, pl_34, pl_36, pl_37, pl_40, pl_41, pl_42, pl_43, pl_45, pl_47, pl_48, pl_50, pl_57, pl_59, pl_60, pl_61, pl_62, pl_64, pl_70, pl_91, pl_93, pl_97, pl_98, pl_99, pl_100, pl_106, pl_122, pl_128, pl_136, pl_142, pl_165, pl_168, pl_170, pl_171, pl_173, pl_175, pl_187, pl_188, pl_189, pl_190, pl_206, pl_211, pl_219, pl_229, pl_255, pl_260, pl_400, pl_500, pl_512, pl_900, pl_999, pl_1000, pl_1001, pl_1005, pl_1020, pl_1023, pl_1024, pl_1103, pl_2000, pl_2040, pl_2176, pl_5660, pl_9999, pl_12345, pl_1000000, pl_1000003, pl_100000000, pl_1000000000, hz', if_false, pBR_d]; rw [jo_gt]; exact sw01 _ _ _ _ (by decide) (by decide)
    · unfold fX0_joined; simp (disch := first | omega | assumption | decide) only [pu_let, pu_jn, pu_bd, pu_ocs, pu_ocn, pu_gdt, pe_gd, pe_clamp, pe_eq, pe_le, pe_lt, pe_pos, pe_neg, nI_add, nn_mul, pe_sub, pb_0, pb_1, pb_z, pe_ieq, pe_ine, pe_ik, pP_si, pS_si, pn_si, ps_si, pL_si, ite_not, pe_gdd, pe_lle, decide_true, ofNat_nI, pe_srI, pe_srN, pe_srS, pe_srP, pl_0, pl_1, pl_2, pl_3, pl_4, pl_5, pl_6, pl_7, pl_8, pl_9, pl_10, pl_11, pl_12, pl_13, pl_14, pl_15, pl_16, pl_17, pl_18, pl_19, pl_20, pl_21, pl_22, pl_23, pl_24, pl_25, pl_26, pl_27, pl_28, pl_29, pl_30, pl_31, pl_32, pl_34, pl_36, pl_37, pl_40, pl_41, pl_42, pl_43, pl_45, pl_47, pl_48, pl_50, pl_57, pl_59, pl_60, pl_61, pl_62, pl_64, pl_70, pl_91, pl_93, pl_97, pl_98, pl_99, pl_100, pl_106, pl_122, pl_128, pl_136, pl_142, pl_165, pl_168, pl_170, pl_171, pl_173, pl_175, pl_187, pl_188, pl_189, pl_190, pl_206, pl_211, pl_219, pl_229, pl_255, pl_260, pl_400, pl_500, pl_512, pl_900, pl_999, pl_1000, pl_1001, pl_1005, pl_1020, pl_1023, pl_1024, pl_1103, pl_2000, pl_2040, pl_2176, pl_5660, pl_9999, pl_12345, pl_1000000, pl_1000003, pl_100000000, pl_1000000000, hz', if_false, pBR_d]; rw [jo_eq]; exact sw01 _ _ _ _ (by decide) (by decide)
theorem st_k {n : Nat} (h : n < 14336) : (nI n) >>> (nI 10 &&& nI 31) = nI (n / 1024) := pk_shrN (by omega) _ 10 (by decide)
theorem st_w {n : Nat} (h : n < 14336) : (nI n) &&& nI 1023 = nI (n % 1024) := pk_andN (by omega) 10 (by decide)
