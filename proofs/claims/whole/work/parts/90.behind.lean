/-! ===== the reference: what stands behind ===== -/
def inn : List (Nat × Nat) → Int32
  | [] => -nI 1
  | q :: l => if 31 ≤ q.1 then nI q.1 else inn l
def cmpd : List (Nat × Nat) → Bool
  | [] => false
  | q :: l => if 20 ≤ q.1 ∧ q.1 ≤ 24 then cmpd l else decide (25 ≤ q.1 ∧ q.1 ≤ 27)
theorem PlH.mid {g : am_G} {q : Nat × Nat} {suf : List (Nat × Nat)} : ∀ pre : List (Nat × Nat), PlH g (pre ++ q :: suf) → am_I g 13 suf.length = nI q.1 ∧ am_I g 14 suf.length = nI q.2
  | [], h => ⟨h.1, h.2.1⟩
  | _ :: pre, h => PlH.mid pre h.2.2
theorem innL {X : Cd} {pi : List (Nat × Nat)} {g : am_G} (h : SP X pi g) : ∀ (d : Nat) (pre suf : List (Nat × Nat)) (n : Nat), pre.length = d → pi = pre ++ suf → d < n → fX12_inner_L4 n (inn suf) (nI suf.length) g = some (inn pi, g)
  | 0, pre, suf, n, hd, hp, hn => by
    obtain ⟨n, rfl⟩ : ∃ m, n = m + 1 := ⟨n - 1, by omega⟩
    have e : pre = [] := List.eq_nil_of_length_eq_zero hd
    subst e
    rw [List.nil_append] at hp
    subst hp
    have h29 := h.2.2.1
    have hl := h.2.2.2.2.1
    rw [fX12_inner_L4]
    simp (disch := first | omega | assumption | decide) only [↓pv_let, ↓pv_jn, ↓reduceIte, pv_bd, ↓pv_ocs, ↓pv_ocn, pv_gdt, pe_gd, pe_clamp, pt_eq, pf_eq, pt_le, pf_le, pt_lt, pf_lt, nI_add, nn_mul, pe_sub, pb_0, pb_1, pb_z, pe_ieq, pe_ine, pe_ik, pP_si, pS_si, pn_si, ps_si, pL_si, decide_true, ofNat_nI, pe_srI, pe_srN, pe_srS, pe_srP, not_true_eq_false, not_false_eq_true, true_and, and_true, and_self, false_and, and_false, nI_m1, nI_ms, Nat.add_sub_cancel, pl_0, pl_1, pl_2, pl_3, pl_4, pl_5, pl_6, pl_7, pl_8, pl_9, pl_10, pl_11, pl_12, pl_13, pl_14, pl_15, pl_16, pl_17, pl_18, pl_19, pl_20, pl_21, pl_22, pl_23, pl_24, pl_25, pl_26, pl_27, pl_28, pl_29, pl_30, pl_31, pl_32, pl_34, pl_36, pl_37, pl_40, pl_41, pl_42, pl_43, pl_45, pl_47, pl_48, pl_50, pl_57, pl_59, pl_60, pl_61, pl_62, pl_64, pl_70, pl_91, pl_93, pl_97, pl_98, pl_99, pl_100, pl_106, pl_122, pl_128, pl_136, pl_142, pl_165, pl_168, pl_170, pl_171, pl_173, pl_175, pl_187, pl_188, pl_189, pl_190, pl_206, pl_211, pl_219, pl_229, pl_255, pl_260, pl_400, pl_500, pl_512, pl_900, pl_999, pl_1000, pl_1001, pl_1005, pl_1020, pl_1023, pl_1024, pl_1103, pl_2000, pl_2040, pl_2176, pl_5660, pl_9999, pl_12345, pl_1000000, pl_1000003, pl_100000000, pl_1000000000, pz_0, pz_1, pz_t, h29]
  | d + 1, pre, suf, n, hd, hp, hn => by
    obtain ⟨n, rfl⟩ : ∃ m, n = m + 1 := ⟨n - 1, by omega⟩
    rcases List.eq_nil_or_concat pre with e | ⟨pre', q, e⟩
    · rw [e] at hd; exact absurd hd (by simp)
    · rw [List.concat_eq_append] at e
      rw [e, List.length_append, List.length_singleton] at hd
      have hp' : pi = pre' ++ (q :: suf) := by rw [hp, e, List.append_assoc]; rfl
      have IH := innL h d pre' (q :: suf) n (by omega) hp' (by omega)
      have h29 := h.2.2.1
      have hl := h.2.2.2.2.1
      have hq := h.2.2.2.2.2.2 q (by rw [hp']; exact List.mem_append_right _ (List.mem_cons_self ..))
      have hm := (PlH.mid pre' (by rw [← hp']; exact h.2.2.2.1)).1
      have hlen : pi.length = pre'.length + (suf.length + 1) := by rw [hp', List.length_append, List.length_cons]
      rw [List.length_cons] at IH
      rw [← IH, fX12_inner_L4, inn]
      by_cases e31 : 31 ≤ q.1
      · simp (disch := first | omega | assumption | decide) only [↓pv_let, ↓pv_jn, ↓reduceIte, pv_bd, ↓pv_ocs, ↓pv_ocn, pv_gdt, pe_gd, pe_clamp, pt_eq, pf_eq, pt_le, pf_le, pt_lt, pf_lt, nI_add, nn_mul, pe_sub, pb_0, pb_1, pb_z, pe_ieq, pe_ine, pe_ik, pP_si, pS_si, pn_si, ps_si, pL_si, decide_true, ofNat_nI, pe_srI, pe_srN, pe_srS, pe_srP, not_true_eq_false, not_false_eq_true, true_and, and_true, and_self, false_and, and_false, nI_m1, nI_ms, Nat.add_sub_cancel, pl_0, pl_1, pl_2, pl_3, pl_4, pl_5, pl_6, pl_7, pl_8, pl_9, pl_10, pl_11, pl_12, pl_13, pl_14, pl_15, pl_16, pl_17, pl_18, pl_19, pl_20, pl_21, pl_22, pl_23, pl_24, pl_25, pl_26, pl_27, pl_28, pl_29, pl_30, pl_31, pl_32, pl_34, pl_36, pl_37, pl_40, pl_41, pl_42, pl_43, pl_45, pl_47, pl_48, pl_50, pl_57, pl_59, pl_60, pl_61, pl_62, pl_64, pl_70, pl_91, pl_93, pl_97, pl_98, pl_99, pl_100, pl_106, pl_122, pl_128, pl_136, pl_142, pl_165, pl_168, pl_170, pl_171, pl_173, pl_175, pl_187, pl_188, pl_189, pl_190, pl_206, pl_211, pl_219, pl_229, pl_255, pl_260, pl_400, pl_500, pl_512, pl_900, pl_999, pl_1000, pl_1001, pl_1005, pl_1020, pl_1023, pl_1024, pl_1103, pl_2000, pl_2040, pl_2176, pl_5660, pl_9999, pl_12345, pl_1000000, pl_1000003, pl_100000000, pl_1000000000, pz_0, pz_1, pz_t, h29, hm, e31]
      · simp (disch := first | omega | assumption | decide) only [↓pv_let, ↓pv_jn, ↓reduceIte, pv_bd, ↓pv_ocs, ↓pv_ocn, pv_gdt, pe_gd, pe_clamp, pt_eq, pf_eq, pt_le, pf_le, pt_lt, pf_lt, nI_add, nn_mul, pe_sub, pb_0, pb_1, pb_z, pe_ieq, pe_ine, pe_ik, pP_si, pS_si, pn_si, ps_si, pL_si, decide_true, ofNat_nI, pe_srI, pe_srN, pe_srS, pe_srP, not_true_eq_false, not_false_eq_true, true_and, and_true, and_self, false_and, and_false, nI_m1, nI_ms, Nat.add_sub_cancel, pl_0, pl_1, pl_2, pl_3, pl_4, pl_5, pl_6, pl_7, pl_8, pl_9, pl_10, pl_11, pl_12, pl_13, pl_14, pl_15, pl_16, pl_17, pl_18, pl_19, pl_20, pl_21, pl_22, pl_23, pl_24, pl_25, pl_26, pl_27, pl_28, pl_29, pl_30, pl_31, pl_32, pl_34, pl_36, pl_37, pl_40, pl_41, pl_42, pl_43, pl_45, pl_47, pl_48, pl_50, pl_57, pl_59, pl_60, pl_61, pl_62, pl_64, pl_70, pl_91, pl_93, pl_97, pl_98, pl_99, pl_100, pl_106, pl_122, pl_128, pl_136, pl_142, pl_165, pl_168, pl_170, pl_171, pl_173, pl_175, pl_187, pl_188, pl_189, pl_190, pl_206, pl_211, pl_219, pl_229, pl_255, pl_260, pl_400, pl_500, pl_512, pl_900, pl_999, pl_1000, pl_1001, pl_1005, pl_1020, pl_1023, pl_1024, pl_1103, pl_2000, pl_2040, pl_2176, pl_5660, pl_9999, pl_12345, pl_1000000, pl_1000003, pl_100000000, pl_1000000000, pz_0, pz_1, pz_t, h29, hm, e31]
theorem q12_inner {X : Cd} {pi : List (Nat × Nat)} {g : am_G} (h : SP X pi g) : fX12_inner g = some (inn pi, g) := by
  have hl := h.2.2.2.2.1
  exact innL h pi.length pi [] am_fu rfl (List.append_nil pi).symm (by have : am_fu = 1048576 := rfl; omega)
theorem inn_rg {pi : List (Nat × Nat)} (h : ∀ q ∈ pi, 20 ≤ q.1 ∧ q.1 ≤ 32 ∧ q.2 < 400) : inn pi = -nI 1 ∨ inn pi = nI 31 ∨ inn pi = nI 32 := by
  induction pi with
  | nil => exact Or.inl rfl
  | cons q l ih =>
    rw [inn]
    have hq := h q (List.mem_cons_self ..)
    by_cases e : 31 ≤ q.1
    · rw [if_pos e]
      rcases (show q.1 = 31 ∨ q.1 = 32 by omega) with z | z
      · rw [z]; exact Or.inr (Or.inl rfl)
      · rw [z]; exact Or.inr (Or.inr rfl)
    · rw [if_neg e]
      exact ih (fun q' hq' => h q' (List.mem_cons_of_mem _ hq'))
theorem inn_app {pend base : List (Nat × Nat)} (h : ∀ q ∈ pend, 1 ≤ bnd q.1) : inn (pend ++ base) = inn base := by
  induction pend with
  | nil => rfl
  | cons q l ih =>
    rw [List.cons_append, inn, ih (fun q' hq' => h q' (List.mem_cons_of_mem _ hq')), if_neg]
    intro e
    have := h q (List.mem_cons_self ..)
    unfold bnd at this
    rw [if_pos e] at this
    omega
def KC (x13 : Int32) (g14 : am_G) : Option (Int32 × am_G) :=
  if x13 < 0 then some ((0 : Int32), g14)
  else
    am_gd (am_in x13 400) <|
    am_bd (fX12_in ((am_I g14 13 x13.toNatClampNeg).toInt64) (25 : Int64) (27 : Int64) g14) fun v17 g18 =>
    if v17 = 0 then some ((0 : Int32), g18) else some ((1 : Int32), g18)
theorem KC_eq (g : am_G) : fX12_isCompared g = fX12_isCompared_L7 KC am_fu ((am_I g 0 29) - 1) g := by
  unfold fX12_isCompared
  rw [pu_let]
  refine congrArg (fun K => fX12_isCompared_L7 K am_fu (am_I g 0 29 - 1) g) ?_
  rfl
theorem i20 : (20 : Int64) = (nI 20).toInt64 := rfl
theorem i24 : (24 : Int64) = (nI 24).toInt64 := rfl
theorem i25 : (25 : Int64) = (nI 25).toInt64 := rfl
theorem i27 : (27 : Int64) = (nI 27).toInt64 := rfl
theorem m1_0 : (-nI 1 < nI 0) = True := eq_true (by decide)
theorem z_m1 : nI 0 - nI 1 = -nI 1 := by decide
theorem z_p1 : nI 0 + -nI 1 = -nI 1 := by decide
theorem cmpL {g : am_G} : ∀ (pi : List (Nat × Nat)) (n : Nat), pi.length < n → pi.length ≤ 400 → PlH g pi → (∀ q ∈ pi, 20 ≤ q.1 ∧ q.1 ≤ 32 ∧ q.2 < 400) → fX12_isCompared_L7 KC n (if pi.length = 0 then -nI 1 else nI (pi.length - 1)) g = some (pb (cmpd pi = true), g)
  | [], n, hn, hl, h4, h7 => by
    obtain ⟨n, rfl⟩ : ∃ m, n = m + 1 := ⟨n - 1, by omega⟩
    rw [if_pos (show ([] : List (Nat × Nat)).length = 0 from rfl), fX12_isCompared_L7, cmpd, pb_ne (by decide)]
    unfold KC
    simp (disch := first | omega | assumption | decide) only [↓pv_let, ↓pv_jn, ↓reduceIte, pv_bd, ↓pv_ocs, ↓pv_ocn, pv_gdt, pe_gd, pe_clamp, pt_eq, pf_eq, pt_le, pf_le, pt_lt, pf_lt, nI_add, nn_mul, pe_sub, pb_0, pb_1, pb_z, pe_ieq, pe_ine, pe_ik, pP_si, pS_si, pn_si, ps_si, pL_si, decide_true, ofNat_nI, pe_srI, pe_srN, pe_srS, pe_srP, not_true_eq_false, not_false_eq_true, true_and, and_true, and_self, false_and, and_false, nI_m1, nI_ms, Nat.add_sub_cancel, pl_0, pl_1, pl_2, pl_3, pl_4, pl_5, pl_6, pl_7, pl_8, pl_9, pl_10, pl_11, pl_12, pl_13, pl_14, pl_15, pl_16, pl_17, pl_18, pl_19, pl_20, pl_21, pl_22, pl_23, pl_24, pl_25, pl_26, pl_27, pl_28, pl_29, pl_30, pl_31, pl_32, pl_34, pl_36, pl_37, pl_40, pl_41, pl_42, pl_43, pl_45, pl_47, pl_48, pl_50, pl_57, pl_59, pl_60, pl_61, pl_62, pl_64, pl_70, pl_91, pl_93, pl_97, pl_98, pl_99, pl_100, pl_106, pl_122, pl_128, pl_136, pl_142, pl_165, pl_168, pl_170, pl_171, pl_173, pl_175, pl_187, pl_188, pl_189, pl_190, pl_206, pl_211, pl_219, pl_229, pl_255, pl_260, pl_400, pl_500, pl_512, pl_900, pl_999, pl_1000, pl_1001, pl_1005, pl_1020, pl_1023, pl_1024, pl_1103, pl_2000, pl_2040, pl_2176, pl_5660, pl_9999, pl_12345, pl_1000000, pl_1000003, pl_100000000, pl_1000000000, pz_0, pz_1, pz_t, m1_0]
  | q :: l, n, hn, hl, h4, h7 => by
    obtain ⟨n, rfl⟩ : ∃ m, n = m + 1 := ⟨n - 1, by omega⟩
    rw [List.length_cons] at hn hl
    have hq := h7 q (List.mem_cons_self ..)
    have hm := h4.1
    have IH := cmpL l n (by omega) (by omega) h4.2.2 (fun q' hq' => h7 q' (List.mem_cons_of_mem _ hq'))
    rw [if_neg (by rw [List.length_cons]; omega), List.length_cons, Nat.add_sub_cancel, cmpd]
    by_cases e : 20 ≤ q.1 ∧ q.1 ≤ 24
    · obtain ⟨e1, e2⟩ := e
      rw [if_pos (show 20 ≤ q.1 ∧ q.1 ≤ 24 from ⟨e1, e2⟩), ← IH]
      by_cases e0 : l.length = 0
      · rw [if_pos e0]
        rw [e0] at hm
        rw [e0, fX12_isCompared_L7]
        simp (disch := first | omega | assumption | decide) only [↓pv_let, ↓pv_jn, ↓reduceIte, pv_bd, ↓pv_ocs, ↓pv_ocn, pv_gdt, pe_gd, pe_clamp, pt_eq, pf_eq, pt_le, pf_le, pt_lt, pf_lt, nI_add, nn_mul, pe_sub, pb_0, pb_1, pb_z, pe_ieq, pe_ine, pe_ik, pP_si, pS_si, pn_si, ps_si, pL_si, decide_true, ofNat_nI, pe_srI, pe_srN, pe_srS, pe_srP, not_true_eq_false, not_false_eq_true, true_and, and_true, and_self, false_and, and_false, nI_m1, nI_ms, Nat.add_sub_cancel, pl_0, pl_1, pl_2, pl_3, pl_4, pl_5, pl_6, pl_7, pl_8, pl_9, pl_10, pl_11, pl_12, pl_13, pl_14, pl_15, pl_16, pl_17, pl_18, pl_19, pl_20, pl_21, pl_22, pl_23, pl_24, pl_25, pl_26, pl_27, pl_28, pl_29, pl_30, pl_31, pl_32, pl_34, pl_36, pl_37, pl_40, pl_41, pl_42, pl_43, pl_45, pl_47, pl_48, pl_50, pl_57, pl_59, pl_60, pl_61, pl_62, pl_64, pl_70, pl_91, pl_93, pl_97, pl_98, pl_99, pl_100, pl_106, pl_122, pl_128, pl_136, pl_142, pl_165, pl_168, pl_170, pl_171, pl_173, pl_175, pl_187, pl_188, pl_189, pl_190, pl_206, pl_211, pl_219, pl_229, pl_255, pl_260, pl_400, pl_500, pl_512, pl_900, pl_999, pl_1000, pl_1001, pl_1005, pl_1020, pl_1023, pl_1024, pl_1103, pl_2000, pl_2040, pl_2176, pl_5660, pl_9999, pl_12345, pl_1000000, pl_1000003, pl_100000000, pl_1000000000, pz_0, pz_1, pz_t, hm, i20, i24, q12_in, z_p1]
      · rw [if_neg e0]
        obtain ⟨k, hk⟩ : ∃ k, l.length = k + 1 := ⟨l.length - 1, by omega⟩
        rw [hk] at hm
        rw [hk, fX12_isCompared_L7]
        simp (disch := first | omega | assumption | decide) only [↓pv_let, ↓pv_jn, ↓reduceIte, pv_bd, ↓pv_ocs, ↓pv_ocn, pv_gdt, pe_gd, pe_clamp, pt_eq, pf_eq, pt_le, pf_le, pt_lt, pf_lt, nI_add, nn_mul, pe_sub, pb_0, pb_1, pb_z, pe_ieq, pe_ine, pe_ik, pP_si, pS_si, pn_si, ps_si, pL_si, decide_true, ofNat_nI, pe_srI, pe_srN, pe_srS, pe_srP, not_true_eq_false, not_false_eq_true, true_and, and_true, and_self, false_and, and_false, nI_m1, nI_ms, Nat.add_sub_cancel, pl_0, pl_1, pl_2, pl_3, pl_4, pl_5, pl_6, pl_7, pl_8, pl_9, pl_10, pl_11, pl_12, pl_13, pl_14, pl_15, pl_16, pl_17, pl_18, pl_19, pl_20, pl_21, pl_22, pl_23, pl_24, pl_25, pl_26, pl_27, pl_28, pl_29, pl_30, pl_31, pl_32, pl_34, pl_36, pl_37, pl_40, pl_41, pl_42, pl_43, pl_45, pl_47, pl_48, pl_50, pl_57, pl_59, pl_60, pl_61, pl_62, pl_64, pl_70, pl_91, pl_93, pl_97, pl_98, pl_99, pl_100, pl_106, pl_122, pl_128, pl_136, pl_142, pl_165, pl_168, pl_170, pl_171, pl_173, pl_175, pl_187, pl_188, pl_189, pl_190, pl_206, pl_211, pl_219, pl_229, pl_255, pl_260, pl_400, pl_500, pl_512, pl_900, pl_999, pl_1000, pl_1001, pl_1005, pl_1020, pl_1023, pl_1024, pl_1103, pl_2000, pl_2040, pl_2176, pl_5660, pl_9999, pl_12345, pl_1000000, pl_1000003, pl_100000000, pl_1000000000, pz_0, pz_1, pz_t, hm, i20, i24, q12_in]
    · rw [if_neg e]
      have ne : ¬ (nI 20 ≤ nI q.1 ∧ nI q.1 ≤ nI 24) := fun z => e ⟨hq.1, (nI_leI (by omega) (by omega)).mp z.2⟩
      rw [fX12_isCompared_L7]
      unfold KC
      by_cases e5 : 25 ≤ q.1 ∧ q.1 ≤ 27
      · obtain ⟨e6, e7⟩ := e5
        rw [pb_eq (show decide (25 ≤ q.1 ∧ q.1 ≤ 27) = true from decide_eq_true ⟨e6, e7⟩)]
        simp (disch := first | omega | assumption | decide) only [↓pv_let, ↓pv_jn, ↓reduceIte, pv_bd, ↓pv_ocs, ↓pv_ocn, pv_gdt, pe_gd, pe_clamp, pt_eq, pf_eq, pt_le, pf_le, pt_lt, pf_lt, nI_add, nn_mul, pe_sub, pb_0, pb_1, pb_z, pe_ieq, pe_ine, pe_ik, pP_si, pS_si, pn_si, ps_si, pL_si, decide_true, ofNat_nI, pe_srI, pe_srN, pe_srS, pe_srP, not_true_eq_false, not_false_eq_true, true_and, and_true, and_self, false_and, and_false, nI_m1, nI_ms, Nat.add_sub_cancel, pl_0, pl_1, pl_2, pl_3, pl_4, pl_5, pl_6, pl_7, pl_8, pl_9, pl_10, pl_11, pl_12, pl_13, pl_14, pl_15, pl_16, pl_17, pl_18, pl_19, pl_20, pl_21, pl_22, pl_23, pl_24, pl_25, pl_26, pl_27, pl_28, pl_29, pl_30, pl_31, pl_32, pl_34, pl_36, pl_37, pl_40, pl_41, pl_42, pl_43, pl_45, pl_47, pl_48, pl_50, pl_57, pl_59, pl_60, pl_61, pl_62, pl_64, pl_70, pl_91, pl_93, pl_97, pl_98, pl_99, pl_100, pl_106, pl_122, pl_128, pl_136, pl_142, pl_165, pl_168, pl_170, pl_171, pl_173, pl_175, pl_187, pl_188, pl_189, pl_190, pl_206, pl_211, pl_219, pl_229, pl_255, pl_260, pl_400, pl_500, pl_512, pl_900, pl_999, pl_1000, pl_1001, pl_1005, pl_1020, pl_1023, pl_1024, pl_1103, pl_2000, pl_2040, pl_2176, pl_5660, pl_9999, pl_12345, pl_1000000, pl_1000003, pl_100000000, pl_1000000000, pz_0, pz_1, pz_t, hm, i20, i24, i25, i27, q12_in, ne]
      · have ne5 : ¬ (nI 25 ≤ nI q.1 ∧ nI q.1 ≤ nI 27) := fun z => e5 ⟨(nI_leI (by omega) (by omega)).mp z.1, (nI_leI (by omega) (by omega)).mp z.2⟩
        rw [pb_ne (show ¬ decide (25 ≤ q.1 ∧ q.1 ≤ 27) = true by rw [decide_eq_true_eq]; exact e5)]
        simp (disch := first | omega | assumption | decide) only [↓pv_let, ↓pv_jn, ↓reduceIte, pv_bd, ↓pv_ocs, ↓pv_ocn, pv_gdt, pe_gd, pe_clamp, pt_eq, pf_eq, pt_le, pf_le, pt_lt, pf_lt, nI_add, nn_mul, pe_sub, pb_0, pb_1, pb_z, pe_ieq, pe_ine, pe_ik, pP_si, pS_si, pn_si, ps_si, pL_si, decide_true, ofNat_nI, pe_srI, pe_srN, pe_srS, pe_srP, not_true_eq_false, not_false_eq_true, true_and, and_true, and_self, false_and, and_false, nI_m1, nI_ms, Nat.add_sub_cancel, pl_0, pl_1, pl_2, pl_3, pl_4, pl_5, pl_6, pl_7, pl_8, pl_9, pl_10, pl_11, pl_12, pl_13, pl_14, pl_15, pl_16, pl_17, pl_18, pl_19, pl_20, pl_21, pl_22, pl_23, pl_24, pl_25, pl_26, pl_27, pl_28, pl_29, pl_30, pl_31, pl_32, pl_34, pl_36, pl_37, pl_40, pl_41, pl_42, pl_43, pl_45, pl_47, pl_48, pl_50, pl_57, pl_59, pl_60, pl_61, pl_62, pl_64, pl_70, pl_91, pl_93, pl_97, pl_98, pl_99, pl_100, pl_106, pl_122, pl_128, pl_136, pl_142, pl_165, pl_168, pl_170, pl_171, pl_173, pl_175, pl_187, pl_188, pl_189, pl_190, pl_206, pl_211, pl_219, pl_229, pl_255, pl_260, pl_400, pl_500, pl_512, pl_900, pl_999, pl_1000, pl_1001, pl_1005, pl_1020, pl_1023, pl_1024, pl_1103, pl_2000, pl_2040, pl_2176, pl_5660, pl_9999, pl_12345, pl_1000000, pl_1000003, pl_100000000, pl_1000000000, pz_0, pz_1, pz_t, hm, i20, i24, i25, i27, q12_in, ne, ne5]
theorem q12_isCompared {X : Cd} {pi : List (Nat × Nat)} {g : am_G} (h : SP X pi g) : fX12_isCompared g = some (pb (cmpd pi = true), g) := by
  have hl := h.2.2.2.2.1
  rw [KC_eq, h.2.2.1, ← cmpL pi am_fu (by have : am_fu = 1048576 := rfl; omega) hl h.2.2.2.1 h.2.2.2.2.2.2]
  congr 1
  by_cases e : pi.length = 0
  · rw [if_pos e, e]; exact z_m1
  · rw [if_neg e]; exact (show nI pi.length - nI 1 = nI (pi.length - 1) from nn_sub (by omega))
/-! plain -/
section RPB
variable {md : Bool} {b : Nat → Nat} {len h nl op : Nat} {X : Cd} {pi : List (Nat × Nat)} {g : am_G}
theorem PL_not (hT : Tp b len) (hr : RS md b len h X nl op pi g) (ht : tkF b len h = 10) (hp : pi.length < 400) (hc : X.2.2 + (emc pi + 1) ≤ 400) : ∃ g', fX12_readPlain g = some (nI 0, g') ∧ RS md b len (h + 1) X nl op ((28, 0) :: pi) g' ∧ FrP g g' := by
  have w := qw_not hr.1.2.2.2.2
  rw [ht, pb_eq rfl] at w
  obtain ⟨g1, e1, s1, f1⟩ := q12_push hr.2.1 (op := 28) (at' := 0) (by decide) (by decide) (by decide) hp (by rw [emc, if_pos (by decide)]; exact hc)
  obtain ⟨g2, e2, r2, f2⟩ := (hr.z f1 s1).nx hT
  refine ⟨g2, ?_, r2, f1.P.tr f2.P⟩
  unfold fX12_readPlain
  rw [w, pu_bd, if_neg (by decide), show (28 : Int32) = nI 28 from rfl, show (0 : Int32) = nI 0 from rfl, e1, pu_bd, e2, pu_bd]
theorem PL_nt (hr : RS md b len h X nl op pi g) (ht : tkF b len h ≠ 10) : fX12_isWord 14836 g = some (nI 0, g) := by
  rw [qw_not hr.1.2.2.2.2, pb_ne ht]
theorem PL_br (hr : RS md b len h X nl op pi g) (ht : tkF b len h = 168) {g' : am_G} (e1 : fX12_openBracket (nI 31) g = some ((), g')) : fX12_readPlain g = some (nI 0, g') := by
  have sg := q12_isSignT hr.1.2.2.2.2 (m := 40) (by decide)
  rw [pb_eq ht] at sg
  unfold fX12_readPlain
  rw [PL_nt hr (by omega), pu_bd, if_pos (show nI 0 = (0 : Int32) from rfl), show (40 : Int32) = nI 40 from rfl, sg, pu_bd, if_neg (by decide), show (31 : Int32) = nI 31 from rfl, e1, pu_bd]
  rfl
theorem PL_open (hT : Tp b len) (hr : RS md b len h X nl op pi g) (ht : tkF b len h = 168) (h8 : op < 8) (hp : pi.length < 400) : ∃ g', fX12_readPlain g = some (nI 0, g') ∧ RS md b len (h + 1) X nl (op + 1) ((31, 0) :: pi) g' ∧ FrP g g' := by
  obtain ⟨g1, e1, r1, f1⟩ := q12_openT hT hr (o := 31) (Or.inl rfl) h8 hp
  exact ⟨g1, PL_br hr ht e1, r1, f1⟩
theorem PL_full (hr : RS md b len h X nl op pi g) (ht : tkF b len h = 168) (h8 : 8 ≤ op) (hop : op < 100) : ∃ g', fX12_readPlain g = some (nI 0, g') ∧ FB b len h g' ∧ FrP g g' := by
  obtain ⟨g1, e1, r1, f1⟩ := q12_openF hr 31 h8 hop
  exact ⟨g1, PL_br hr ht e1, r1, f1⟩
theorem PL_part (hr : RS md b len h X nl op pi g) (h10 : tkF b len h ≠ 10) (h168 : tkF b len h ≠ 168) {v : Int32} {g' : am_G} (e : fX12_readPart g = some (v, g')) : fX12_readPlain g = some (v, g') := by
  have sg := q12_isSignT hr.1.2.2.2.2 (m := 40) (by decide)
  rw [pb_ne (show ¬ tkF b len h = 128 + 40 by omega)] at sg
  unfold fX12_readPlain
  rw [PL_nt hr h10, pu_bd, if_pos (show nI 0 = (0 : Int32) from rfl), show (40 : Int32) = nI 40 from rfl, sg, pu_bd, if_pos (show nI 0 = (0 : Int32) from rfl), e, pu_bd]
/-! behind a sum -/
def opS (c : Nat) : Int32 := if c = 171 then nI 20 else if c = 173 then nI 21 else if c = 170 then nI 22 else if c = 175 then nI 23 else if c = 165 then nI 24 else -1
def BS7 (a1 x5 : Int32) (g6 : am_G) : Option (Int32 × am_G) :=
    if x5 = (-1 : Int32) then (
      am_bd (fX12_inner g6) fun v9 g10 =>
      if v9 = (32 : Int32) then (
        am_bd (fX12_isSign (93 : Int32) g10) fun v52 g53 =>
        am_bd (fX12_must v52 g53) fun u55 g56 =>
        if (am_I g56 0 19) = 0 then (
          am_bd (fX12_settle (5 : Int32) g56) fun u59 g60 =>
          am_let (am_si g60 0 29 ((am_I g60 0 29) - (1 : Int32))) fun g62 =>
          am_let (am_si g62 0 30 ((am_I g62 0 30) - (1 : Int32))) fun g63 =>
          some ((3 : Int32), g63))
        else (
          some ((3 : Int32), g56)))
      else (
        am_jn (fun  (g14 : am_G) =>
          am_bd (fX12_isCompared g14) fun v16 g17 =>
          if v16 = 0 then (
            am_bd (fX12_isSign (60 : Int32) g17) fun v20 g21 =>
            am_jn (fun (x24 : Int32) (g25 : am_G) =>
              am_jn (fun (x28 : Int32) (g29 : am_G) =>
                am_bd (fX12_must x28 g29) fun u31 g32 =>
                if (am_I g32 0 19) = 0 then (
                  am_bd (fX12_settle (5 : Int32) g32) fun u35 g36 =>
                  am_bd (fX12_push x24 (0 : Int32) g36) fun u38 g39 =>
                  some ((1 : Int32), g39))
                else (
                  some ((1 : Int32), g32))) fun j30 =>
              am_jn (fun  (g41 : am_G) =>
                j30 (1 : Int32) g41) fun j42 =>
              if x24 = (27 : Int32) then (
                am_bd (fX12_isSign (61 : Int32) g25) fun v43 g44 =>
                if v43 = 0 then (
                  j30 (0 : Int32) g44)
                else (
                  j42 g44))
              else (
                j42 g25)) fun j26 =>
            if v20 = 0 then (
              am_bd (fX12_isSign (62 : Int32) g21) fun v47 g48 =>
              if v47 = 0 then (
                j26 (27 : Int32) g48)
              else (
                j26 (26 : Int32) g48))
            else (
              j26 (25 : Int32) g21))
          else (
            some ((2 : Int32), g17))) fun j15 =>
        if v9 = (-1 : Int32) then (
          if a1 = 0 then (
            some ((4 : Int32), g10))
          else (
            j15 g10))
        else (
          j15 g10)))
    else (
      am_bd (fX12_binds x5 g6) fun v64 g65 =>
      am_bd (fX12_settle v64 g65) fun u67 g68 =>
      am_bd (fX12_push x5 (0 : Int32) g68) fun u70 g71 =>
      am_bd (fX12_next g71) fun u73 g74 =>
      some ((1 : Int32), g74))
def BS15 (g14 : am_G) : Option (Int32 × am_G) :=
          am_bd (fX12_isCompared g14) fun v16 g17 =>
          if v16 = 0 then (
            am_bd (fX12_isSign (60 : Int32) g17) fun v20 g21 =>
            am_jn (fun (x24 : Int32) (g25 : am_G) =>
              am_jn (fun (x28 : Int32) (g29 : am_G) =>
                am_bd (fX12_must x28 g29) fun u31 g32 =>
                if (am_I g32 0 19) = 0 then (
                  am_bd (fX12_settle (5 : Int32) g32) fun u35 g36 =>
                  am_bd (fX12_push x24 (0 : Int32) g36) fun u38 g39 =>
                  some ((1 : Int32), g39))
                else (
                  some ((1 : Int32), g32))) fun j30 =>
              am_jn (fun  (g41 : am_G) =>
                j30 (1 : Int32) g41) fun j42 =>
              if x24 = (27 : Int32) then (
                am_bd (fX12_isSign (61 : Int32) g25) fun v43 g44 =>
                if v43 = 0 then (
                  j30 (0 : Int32) g44)
                else (
                  j42 g44))
              else (
                j42 g25)) fun j26 =>
            if v20 = 0 then (
              am_bd (fX12_isSign (62 : Int32) g21) fun v47 g48 =>
              if v47 = 0 then (
                j26 (27 : Int32) g48)
              else (
                j26 (26 : Int32) g48))
            else (
              j26 (25 : Int32) g21))
          else (
            some ((2 : Int32), g17))
theorem BS_st (a1 : Int32) (g : am_G) : fX12_behindSum a1 g = (am_bd (fX12_isSign (43 : Int32) g) fun v1 g2 =>
  am_jn (BS7 a1) fun j7 =>
  if v1 = 0 then (
    am_bd (fX12_isSign (45 : Int32) g2) fun v76 g77 =>
    if v76 = 0 then (
      am_bd (fX12_isSign (42 : Int32) g77) fun v80 g81 =>
      if v80 = 0 then (
        am_bd (fX12_isSign (47 : Int32) g81) fun v84 g85 =>
        if v84 = 0 then (
          am_bd (fX12_isSign (37 : Int32) g85) fun v88 g89 =>
          if v88 = 0 then (
            j7 (-1 : Int32) g89)
          else (
            j7 (24 : Int32) g89))
        else (
          j7 (23 : Int32) g85))
      else (
        j7 (22 : Int32) g81))
    else (
      j7 (21 : Int32) g77))
  else (
    j7 (20 : Int32) g2)) := Eq.trans rfl (Eq.trans rfl rfl)
theorem BS_eq {c : Nat} (a1 : Int32) (tk : TkS g c) : fX12_behindSum a1 g = BS7 a1 (opS c) g := by
  have p43 := q12_isSignT tk (m := 43) (by decide)
  have p45 := q12_isSignT tk (m := 45) (by decide)
  have p42 := q12_isSignT tk (m := 42) (by decide)
  have p47 := q12_isSignT tk (m := 47) (by decide)
  have p37 := q12_isSignT tk (m := 37) (by decide)
  have l43 : (43 : Int32) = nI 43 := rfl
  have l45 : (45 : Int32) = nI 45 := rfl
  have l42 : (42 : Int32) = nI 42 := rfl
  have l47 : (47 : Int32) = nI 47 := rfl
  have l37 : (37 : Int32) = nI 37 := rfl
  have z0 : nI 0 = (0 : Int32) := rfl
  have z1 : ¬ nI 1 = (0 : Int32) := by decide
  rw [BS_st, l43, p43, pu_bd, pu_jn]
  unfold opS
  by_cases h1 : c = 171
  · rw [pb_eq (show c = 128 + 43 by omega), if_neg z1, if_pos h1]
    rfl
  · rw [pb_ne (show ¬ c = 128 + 43 by omega), if_pos z0, if_neg h1, l45, p45, pu_bd]
    by_cases h2 : c = 173
    · rw [pb_eq (show c = 128 + 45 by omega), if_neg z1, if_pos h2]
      rfl
    · rw [pb_ne (show ¬ c = 128 + 45 by omega), if_pos z0, if_neg h2, l42, p42, pu_bd]
      by_cases h3 : c = 170
      · rw [pb_eq (show c = 128 + 42 by omega), if_neg z1, if_pos h3]
        rfl
      · rw [pb_ne (show ¬ c = 128 + 42 by omega), if_pos z0, if_neg h3, l47, p47, pu_bd]
        by_cases h4 : c = 175
        · rw [pb_eq (show c = 128 + 47 by omega), if_neg z1, if_pos h4]
          rfl
        · rw [pb_ne (show ¬ c = 128 + 47 by omega), if_pos z0, if_neg h4, l37, p37, pu_bd]
          by_cases h5 : c = 165
          · rw [pb_eq (show c = 128 + 37 by omega), if_neg z1, if_pos h5]
            rfl
          · rw [pb_ne (show ¬ c = 128 + 37 by omega), if_pos z0, if_neg h5]
/-- an arithmetic sign -/
def isAr (c o : Nat) : Prop := (c = 171 ∧ o = 20) ∨ (c = 173 ∧ o = 21) ∨ (c = 170 ∧ o = 22) ∨ (c = 175 ∧ o = 23) ∨ (c = 165 ∧ o = 24)
theorem opS_in {c o : Nat} (h : isAr c o) : opS c = nI o ∧ 20 ≤ o ∧ o ≤ 24 := by
  rcases h with ⟨rfl, rfl⟩ | ⟨rfl, rfl⟩ | ⟨rfl, rfl⟩ | ⟨rfl, rfl⟩ | ⟨rfl, rfl⟩ <;> exact ⟨rfl, by decide, by decide⟩
def nAr (c : Nat) : Prop := c ≠ 171 ∧ c ≠ 173 ∧ c ≠ 170 ∧ c ≠ 175 ∧ c ≠ 165
theorem opS_out {c : Nat} (h : nAr c) : opS c = -1 := by
  obtain ⟨h1, h2, h3, h4, h5⟩ := h
  unfold opS
  rw [if_neg h1, if_neg h2, if_neg h3, if_neg h4, if_neg h5]
theorem emc_op {o a : Nat} (ho : o < 29) (l : List (Nat × Nat)) : emc ((o, a) :: l) = emc l + 1 := by rw [emc, if_pos (show (o, a).1 < 29 from ho)]
theorem BS_op (a1 : Int32) (hT : Tp b len) {pend base : List (Nat × Nat)} (hr : RS md b len h X nl op (pend ++ base) g) {o : Nat} (ho : isAr (tkF b len h) o) (hp : ∀ q ∈ pend, bnd o ≤ bnd q.1) (hb : tb base (bnd o)) (hl : base.length < 400) (hc : (ems X pend).2.2 + (emc base + 1) ≤ 400) : ∃ g', fX12_behindSum a1 g = some (nI 1, g') ∧ RS md b len (h + 1) (ems X pend) nl op ((o, 0) :: base) g' ∧ FrP g g' := by
  obtain ⟨o1, o2, o3⟩ := opS_in ho
  have b5 : 1 ≤ bnd o ∧ bnd o ≤ 6 := by
    unfold bnd
    repeat' split
    all_goals omega
  obtain ⟨g1, e1, s1, f1⟩ := q12_settle b5.1 b5.2 hb hr.2.1 hp
  obtain ⟨g2, e2, s2, f2⟩ := q12_push s1 (op := o) (at' := 0) o2 (by omega) (by decide) hl (by rw [emc_op (by omega)]; exact hc)
  obtain ⟨g3, e3, r3, f3⟩ := ((hr.z f1 s1).z f2 s2).nx hT
  refine ⟨g3, ?_, r3, (f1.P.tr f2.P).tr f3.P⟩
  rw [BS_eq a1 hr.1.2.2.2.2, o1]
  unfold BS7
  rw [if_neg (show ¬ nI o = -1 from nI_m1ne (by omega)), q12_binds o2 (by omega), pu_bd, e1, pu_bd, show (0 : Int32) = nI 0 from rfl, e2, pu_bd, e3, pu_bd]
  rfl
theorem BS_in (a1 : Int32) (hr : RS md b len h X nl op pi g) (hn : nAr (tkF b len h)) : fX12_behindSum a1 g = BS7 a1 (-1) g := by rw [BS_eq a1 hr.1.2.2.2.2, opS_out hn]
/-- a square bracket ends -/
theorem BS_sq (a1 : Int32) (hT : Tp b len) {pend base : List (Nat × Nat)} (hr : RS md b len h X nl (op + 1) (pend ++ (32, 0) :: base) g) (hp : ∀ q ∈ pend, 5 ≤ bnd q.1) (ht : tkF b len h = 221) (hop : op < 8) : ∃ g', fX12_behindSum a1 g = some (nI 3, g') ∧ RS md b len (h + 1) (ems X pend) nl op base g' ∧ FrP g g' := by
  have hin : inn (pend ++ (32, 0) :: base) = nI 32 := by
    rw [inn_app (fun q hq => by have := hp q hq; omega)]
    rfl
  have sg := q12_isSignT hr.1.2.2.2.2 (m := 93) (by decide)
  rw [pb_eq (show tkF b len h = 128 + 93 by omega)] at sg
  obtain ⟨g1, e1, r1, f1⟩ := q12_mustT hT hr
  have htb : tb ((32, 0) :: base) 5 := by intro q l e; injection e with e1 e2; rw [← e1]; decide
  obtain ⟨g2, e2, s2, f2⟩ := q12_settle (lv := 5) (by decide) (by decide) htb r1.2.1 hp
  have r2 := r1.z f2 s2
  have h29 : am_I g2 0 29 = nI (base.length + 1) := s2.2.2.1
  have h30 := r2.2.2.2.2.1
  refine ⟨am_si (am_si g2 0 29 (nI base.length)) 0 30 (nI op), ?_, ?_, f1.P.tr (f2.P.tr (((FrP.rf g2).si (by omega) _).si (by omega) _))⟩
  · rw [BS_in a1 hr (by unfold nAr; omega)]
    unfold BS7
    rw [if_pos (show (-1 : Int32) = -1 from rfl), q12_inner hr.2.1, pu_bd, hin, if_pos (show nI 32 = (32 : Int32) from rfl), show (93 : Int32) = nI 93 from rfl, sg, pu_bd, e1, pu_bd, if_pos (show am_I g1 0 19 = 0 from r1.2.2.1), show (5 : Int32) = nI 5 from rfl, e2, pu_bd, pu_let, h29, show nI (base.length + 1) - 1 = nI base.length from nI_ms _, pu_let, pe_ik (by decide), h30, show nI (op + 1) - 1 = nI op from nI_ms _]
    rfl
  · obtain ⟨s1, s2', s3, s4, s5, s6, s7, s8⟩ := r2
    refine ⟨s1.cg (fun k _ _ => by rw [pe_ik (by omega), pe_ik (by omega)]) (fun k => by rw [pe_ine (by decide), pe_ine (by decide)]) rfl, ?_, by rw [pe_ik (by decide), pe_ik (by decide)]; exact s3, by rw [pe_ik (by decide), pe_ik (by decide)]; exact s4, pe_ieq _ _ _ _, by rw [pe_ik (by decide), pe_ik (by decide)]; exact s6, s7, s8.1, by rw [pe_ik (by decide), pe_ik (by decide)]; exact s8.2⟩
    obtain ⟨t1, t2, t3, t4, t5, t6, t7⟩ := s2'
    rw [List.length_cons] at t5
    refine ⟨by rw [pe_ik (by decide), pe_ik (by decide)]; exact t1, fun i hi => by rw [pe_ine (by decide), pe_ine (by decide), pe_ine (by decide), pe_ine (by decide)]; exact t2 i hi, by rw [pe_ik (by decide), pe_ieq], t4.2.2.cg (fun j _ => ⟨by rw [pe_ine (by decide), pe_ine (by decide)], by rw [pe_ine (by decide), pe_ine (by decide)]⟩), by omega, ?_, fun q hq => t7 q (List.mem_cons_of_mem _ hq)⟩
    rw [emc, if_neg (by decide)] at t6
    exact t6
theorem BS_sqF (a1 : Int32) (hr : RS md b len h X nl op pi g) (hin : inn pi = nI 32) (hn : nAr (tkF b len h)) (ht : tkF b len h ≠ 221) : ∃ g', fX12_behindSum a1 g = some (nI 3, g') ∧ FB b len h g' ∧ FrP g g' := by
  have sg := q12_isSignT hr.1.2.2.2.2 (m := 93) (by decide)
  rw [pb_ne (show ¬ tkF b len h = 128 + 93 by omega)] at sg
  obtain ⟨g1, e1, r1, f1, -, -⟩ := q12_mustF hr
  refine ⟨g1, ?_, r1, f1⟩
  rw [BS_in a1 hr hn]
  unfold BS7
  rw [if_pos (show (-1 : Int32) = -1 from rfl), q12_inner hr.2.1, pu_bd, hin, if_pos (show nI 32 = (32 : Int32) from rfl), show (93 : Int32) = nI 93 from rfl, sg, pu_bd, e1, pu_bd, if_neg (by rw [r1.1]; decide)]
  rfl
/-- the sum is over -/
theorem BS_over (hr : RS md b len h X nl op pi g) (hin : inn pi = -nI 1) (hn : nAr (tkF b len h)) : fX12_behindSum (nI 0) g = some (nI 4, g) := by
  rw [BS_in _ hr hn]
  unfold BS7
  rw [if_pos (show (-1 : Int32) = -1 from rfl), q12_inner hr.2.1, pu_bd, hin, if_neg (show ¬ -nI 1 = (32 : Int32) by decide), pu_jn, if_pos (show -nI 1 = (-1 : Int32) from rfl), if_pos (show nI 0 = (0 : Int32) from rfl)]
  rfl
/-- in a test -/
def inT (a1 : Int32) (pi : List (Nat × Nat)) : Prop := inn pi = nI 31 ∨ (inn pi = -nI 1 ∧ a1 = nI 1)
theorem BS7_15 {a1 : Int32} (hr : RS md b len h X nl op pi g) (hin : inT a1 pi) : BS7 a1 (-1) g = BS15 g := by
  unfold BS7
  rcases hin with e | ⟨e, rfl⟩
  · rw [if_pos (show (-1 : Int32) = -1 from rfl), q12_inner hr.2.1, pu_bd, e, if_neg (show ¬ nI 31 = (32 : Int32) by decide), pu_jn, if_neg (show ¬ nI 31 = (-1 : Int32) by decide)]
    rfl
  · rw [if_pos (show (-1 : Int32) = -1 from rfl), q12_inner hr.2.1, pu_bd, e, if_neg (show ¬ -nI 1 = (32 : Int32) by decide), pu_jn, if_pos (show -nI 1 = (-1 : Int32) from rfl), if_neg (show ¬ nI 1 = (0 : Int32) by decide)]
    rfl
theorem BS_told (a1 : Int32) (hr : RS md b len h X nl op pi g) (hin : inT a1 pi) (hn : nAr (tkF b len h)) (hc : cmpd pi = true) : fX12_behindSum a1 g = some (nI 2, g) := by
  have ic := q12_isCompared hr.2.1
  rw [pb_eq hc] at ic
  rw [BS_in _ hr hn, BS7_15 hr hin]
  unfold BS15
  rw [ic, pu_bd, if_neg (show ¬ nI 1 = (0 : Int32) by decide)]
  rfl
def isCp (c o : Nat) : Prop := (c = 188 ∧ o = 25) ∨ (c = 190 ∧ o = 26) ∨ (c = 189 ∧ o = 27)
theorem BS_cmp (a1 : Int32) (hT : Tp b len) {pend base : List (Nat × Nat)} (hr : RS md b len h X nl op (pend ++ base) g) (hin : inT a1 (pend ++ base)) (hcp : cmpd (pend ++ base) = false) {o : Nat} (ho : isCp (tkF b len h) o) (hp : ∀ q ∈ pend, 5 ≤ bnd q.1) (hb : tb base 5) (hl : base.length < 400) (hc : (ems X pend).2.2 + (emc base + 1) ≤ 400) : ∃ g', fX12_behindSum a1 g = some (nI 1, g') ∧ RS md b len (h + 1) (ems X pend) nl op ((o, 0) :: base) g' ∧ FrP g g' := by
  have ic := q12_isCompared hr.2.1
  rw [pb_ne (show ¬ cmpd (pend ++ base) = true by rw [hcp]; decide)] at ic
  have p60 := q12_isSignT hr.1.2.2.2.2 (m := 60) (by decide)
  have p62 := q12_isSignT hr.1.2.2.2.2 (m := 62) (by decide)
  have p61 := q12_isSignT hr.1.2.2.2.2 (m := 61) (by decide)
  have l60 : (60 : Int32) = nI 60 := rfl
  have l62 : (62 : Int32) = nI 62 := rfl
  have l61 : (61 : Int32) = nI 61 := rfl
  have l1 : (1 : Int32) = nI 1 := rfl
  obtain ⟨g1, e1, r1, f1⟩ := q12_mustT hT hr
  obtain ⟨g2, e2, s2, f2⟩ := q12_settle (lv := 5) (by decide) (by decide) hb r1.2.1 hp
  have hor : 25 ≤ o ∧ o ≤ 27 := by rcases ho with ⟨_, rfl⟩ | ⟨_, rfl⟩ | ⟨_, rfl⟩ <;> decide
  obtain ⟨g3, e3, s3, f3⟩ := q12_push s2 (op := o) (at' := 0) (by omega) (by omega) (by decide) hl (by rw [emc_op (by omega)]; exact hc)
  refine ⟨g3, ?_, (r1.z f2 s2).z f3 s3, f1.P.tr (f2.P.tr f3.P)⟩
  have hnn : nAr (tkF b len h) := by rcases ho with ⟨e, _⟩ | ⟨e, _⟩ | ⟨e, _⟩ <;> (unfold nAr; omega)
  rw [BS_in _ hr hnn, BS7_15 hr hin]
  unfold BS15
  rw [ic, pu_bd, if_pos (show nI 0 = (0 : Int32) from rfl), l60, p60, pu_bd, pu_jn]
  rcases ho with ⟨hc1, rfl⟩ | ⟨hc1, rfl⟩ | ⟨hc1, rfl⟩
  · rw [pb_eq (show tkF b len h = 128 + 60 by omega), if_neg (show ¬ nI 1 = (0 : Int32) by decide)]
    dsimp only
    rw [pu_jn, pu_jn, if_neg (show ¬ (25 : Int32) = 27 by decide)]
    dsimp only
    rw [l1, e1, pu_bd, if_pos (show am_I g1 0 19 = 0 from r1.2.2.1), show (5 : Int32) = nI 5 from rfl, e2, pu_bd, show (25 : Int32) = nI 25 from rfl, show (0 : Int32) = nI 0 from rfl, e3, pu_bd]
  · rw [pb_ne (show ¬ tkF b len h = 128 + 60 by omega), if_pos (show nI 0 = (0 : Int32) from rfl), l62, p62, pu_bd, pb_eq (show tkF b len h = 128 + 62 by omega), if_neg (show ¬ nI 1 = (0 : Int32) by decide)]
    dsimp only
    rw [pu_jn, pu_jn, if_neg (show ¬ (26 : Int32) = 27 by decide)]
    dsimp only
    rw [l1, e1, pu_bd, if_pos (show am_I g1 0 19 = 0 from r1.2.2.1), show (5 : Int32) = nI 5 from rfl, e2, pu_bd, show (26 : Int32) = nI 26 from rfl, show (0 : Int32) = nI 0 from rfl, e3, pu_bd]
  · rw [pb_ne (show ¬ tkF b len h = 128 + 60 by omega), if_pos (show nI 0 = (0 : Int32) from rfl), l62, p62, pu_bd, pb_ne (show ¬ tkF b len h = 128 + 62 by omega), if_pos (show nI 0 = (0 : Int32) from rfl)]
    dsimp only
    rw [pu_jn, pu_jn, if_pos (show (27 : Int32) = 27 from rfl), l61, p61, pu_bd, pb_eq (show tkF b len h = 128 + 61 by omega), if_neg (show ¬ nI 1 = (0 : Int32) by decide)]
    dsimp only
    rw [l1, e1, pu_bd, if_pos (show am_I g1 0 19 = 0 from r1.2.2.1), show (5 : Int32) = nI 5 from rfl, e2, pu_bd, show (27 : Int32) = nI 27 from rfl, show (0 : Int32) = nI 0 from rfl, e3, pu_bd]
theorem BS_cmpF (a1 : Int32) (hr : RS md b len h X nl op pi g) (hin : inT a1 pi) (hcp : cmpd pi = false) (hn : nAr (tkF b len h)) (hn2 : tkF b len h ≠ 188 ∧ tkF b len h ≠ 190 ∧ tkF b len h ≠ 189) : ∃ g', fX12_behindSum a1 g = some (nI 1, g') ∧ FB b len h g' ∧ FrP g g' := by
  have ic := q12_isCompared hr.2.1
  rw [pb_ne (show ¬ cmpd pi = true by rw [hcp]; decide)] at ic
  have p60 := q12_isSignT hr.1.2.2.2.2 (m := 60) (by decide)
  have p62 := q12_isSignT hr.1.2.2.2.2 (m := 62) (by decide)
  have p61 := q12_isSignT hr.1.2.2.2.2 (m := 61) (by decide)
  have l60 : (60 : Int32) = nI 60 := rfl
  have l62 : (62 : Int32) = nI 62 := rfl
  have l61 : (61 : Int32) = nI 61 := rfl
  obtain ⟨g1, e1, r1, f1, -, -⟩ := q12_mustF hr
  refine ⟨g1, ?_, r1, f1⟩
  have e1' : fX12_must 0 g = some ((), g1) := e1
  rw [BS_in _ hr hn, BS7_15 hr hin]
  unfold BS15
  rw [ic, pu_bd, if_pos (show nI 0 = (0 : Int32) from rfl), l60, p60, pu_bd, pu_jn, pb_ne (show ¬ tkF b len h = 128 + 60 by omega), if_pos (show nI 0 = (0 : Int32) from rfl), l62, p62, pu_bd, pb_ne (show ¬ tkF b len h = 128 + 62 by omega), if_pos (show nI 0 = (0 : Int32) from rfl)]
  dsimp only
  rw [pu_jn, pu_jn, if_pos (show (27 : Int32) = 27 from rfl), l61, p61, pu_bd, pb_ne (show ¬ tkF b len h = 128 + 61 by omega), if_pos (show nI 0 = (0 : Int32) from rfl)]
  dsimp only
  rw [e1', pu_bd, if_neg (by rw [r1.1]; decide)]
  rfl
end RPB
