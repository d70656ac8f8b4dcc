/-! ===== reading: tokens, and how the reference has them ===== -/
def isL (c : Nat) : Bool := decide (97 ≤ c ∧ c ≤ 122)
def isDg (c : Nat) : Bool := decide (48 ≤ c ∧ c ≤ 57)
def skp (b : Nat → Nat) : Nat → Nat → Nat
  | 0, i => i
  | d + 1, i => if b i = 32 then skp b d (i + 1) else i
def rnF (P : Nat → Bool) (b : Nat → Nat) : Nat → Nat → Nat
  | 0, i => i
  | d + 1, i => if P (b i) then rnF P b d (i + 1) else i
/-- where the token that begins at s ends -/
def enS (b : Nat → Nat) (len s : Nat) : Nat := if len ≤ s then s else if isL (b s) then rnF isL b (len - s) s else if isDg (b s) then rnF isDg b (len - s) s else s + 1
def plF (b : Nat → Nat) (len : Nat) : Nat → Nat
  | 0 => skp b len 0
  | i + 1 => skp b (len - enS b len (plF b len i)) (enS b len (plF b len i))
def enF (b : Nat → Nat) (len i : Nat) : Nat := enS b len (plF b len i)
def lst (b : Nat → Nat) : Nat → Nat → List Nat
  | 0, _ => []
  | d + 1, s => b s :: lst b d (s + 1)
def fnd : Nat → List (List Nat) → List Nat → Nat
  | _, [], _ => 99
  | k, n :: r, l => if l = n then k else fnd (k + 1) r l
def nms : List (List Nat) := [[115, 104, 97, 107, 101, 115], [102, 97, 108, 108, 115], [116, 104, 97, 119, 115], [98, 97, 114, 115], [115, 97, 121], [100, 97, 119, 110], [105, 102], [111, 114], [97, 110, 100], [110, 111, 116], [97, 116], [116, 105, 109, 101, 115], [108, 111, 117, 100], [119, 111, 114, 100], [108, 111, 110, 103], [114], [112, 108, 97, 99, 101], [102, 97, 114], [115, 108, 111, 112, 101], [109, 111, 111, 100], [115, 110, 111, 119], [100, 97, 121], [119, 111, 114, 100, 115], [100, 111, 110, 101], [115, 108, 105, 100], [104, 97, 114, 109], [115, 116, 114, 97, 105, 110]]
def vlF (b : Nat → Nat) : Nat → Nat → Nat → Nat
  | 0, _, a => a
  | d + 1, s, a => vlF b d (s + 1) (min 1001 (a * 10 + (b s - 48)))
def tkS (b : Nat → Nat) (len s : Nat) : Nat := if len ≤ s then 0 else if isL (b s) then fnd 1 nms (lst b (enS b len s - s) s) else if isDg (b s) then 1000 + vlF b (enS b len s - s) s 0 else 128 + b s
def tkF (b : Nat → Nat) (len i : Nat) : Nat := tkS b len (plF b len i)
/-- no end ahead of the i-th token -/
def Rch (b : Nat → Nat) (len i : Nat) : Prop := ∀ j, j < i → tkF b len j ≠ 0
def wcd (k : Nat) : Int64 := if k = 1 then 645967027 else if k = 2 then 6336915 else if k = 3 then 21235443 else if k = 4 then 67155 else if k = 5 then 19513 else if k = 6 then 132846 else if k = 7 then 294 else if k = 8 then 498 else if k = 9 then 1476 else if k = 10 then 14836 else if k = 11 then 52 else if k = 12 then 21279923 else if k = 13 then 409252 else if k = 14 then 769604 else if k = 15 then 409031 else if k = 16 then 18 else if k = 17 then 17171557 else if k = 18 then 6194 else if k = 19 then 20332037 else if k = 20 then 441828 else if k = 21 then 637431 else if k = 22 then 4153 else if k = 23 then 24627347 else if k = 24 then 146885 else if k = 25 then 635172 else if k = 26 then 263757 else 659096878
/-- the token that the reference has read -/
def TkS (g : am_G) (c : Nat) : Prop := (c = 0 ∧ am_I g 0 16 = nI 0) ∨ (1 ≤ c ∧ c ≤ 99 ∧ am_I g 0 16 = nI 1 ∧ ∀ k, 1 ≤ k → k ≤ 27 → (am_L g 0 17 = wcd k ↔ c = k)) ∨ (1000 ≤ c ∧ c ≤ 2000 ∧ am_I g 0 16 = nI 2 ∧ am_L g 0 17 = (nI (c - 1000)).toInt64) ∨ (c = 2001 ∧ am_I g 0 16 = nI 2 ∧ 1000 < am_L g 0 17) ∨ (128 ≤ c ∧ c < 384 ∧ am_I g 0 16 = nI 3 ∧ am_L g 0 17 = (nI (c - 128)).toInt64)
def Lx (b : Nat → Nat) (len h : Nat) (g : am_G) : Prop := am_I g 0 13 = nI len ∧ (∀ i, i < len → am_I g 9 i = nI (b i)) ∧ am_I g 0 14 = nI (plF b len h) ∧ am_I g 0 15 = nI (enF b len h) ∧ TkS g (tkF b len h)
theorem pb_eq {p : Prop} [Decidable p] (h : p) : pb p = nI 1 := if_pos h
theorem pb_ne {p : Prop} [Decidable p] (h : ¬ p) : pb p = nI 0 := if_neg h
theorem q12_isWordT {g : am_G} {c k : Nat} (h : TkS g c) (h1 : 1 ≤ k) (h2 : k ≤ 27) : fX12_isWord (wcd k) g = some (pb (c = k), g) := by
  unfold fX12_isWord
  rcases h with ⟨a, e⟩ | ⟨a1, a2, e, f⟩ | ⟨a1, a2, e, f⟩ | ⟨a, e, f⟩ | ⟨a1, a2, e, f⟩
  · simp (disch := first | omega | assumption | decide) only [↓pv_let, ↓pv_jn, ↓reduceIte, pv_bd, ↓pv_ocs, ↓pv_ocn, pv_gdt, pe_gd, pe_clamp, pt_eq, pf_eq, pt_le, pf_le, pt_lt, pf_lt, nI_add, nn_mul, pe_sub, pb_0, pb_1, pb_z, pe_ieq, pe_ine, pe_ik, pP_si, pS_si, pn_si, ps_si, pL_si, decide_true, ofNat_nI, pe_srI, pe_srN, pe_srS, pe_srP, not_true_eq_false, not_false_eq_true, true_and, and_true, and_self, false_and, and_false, nI_m1, nI_ms, Nat.add_sub_cancel, pl_0, pl_1, pl_2, pl_3, pl_4, pl_5, pl_6, pl_7, pl_8, pl_9, pl_10, pl_11, pl_12, pl_13, pl_14, pl_15, pl_16, pl_17, pl_18, pl_19, pl_20, pl_21, pl_22, pl_23, pl_24, pl_25, pl_26, pl_27, pl_28, pl_29, pl_30, pl_31, pl_32, pl_34, pl_36, pl_37, pl_40, pl_41, pl_42, pl_43, pl_45, pl_47, pl_48, pl_50, pl_57, pl_59, pl_60, pl_61, pl_62, pl_64, pl_70, pl_91, pl_93, pl_97, pl_98, pl_99, pl_100, pl_106, pl_122, pl_128, pl_136, pl_142, pl_165, pl_168, pl_170, pl_171, pl_173, pl_175, pl_187, pl_188, pl_189, pl_190, pl_206, pl_211, pl_219, pl_229, pl_255, pl_260, pl_400, pl_500, pl_512, pl_900, pl_999, pl_1000, pl_1001, pl_1005, pl_1020, pl_1023, pl_1024, pl_1103, pl_2000, pl_2040, pl_2176, pl_5660, pl_9999, pl_12345, pl_1000000, pl_1000003, pl_100000000, pl_1000000000, pz_0, pz_1, pz_t, e]
    rw [pb_ne (by omega)]
  · have hc := cmp_eq (am_L g 0 17) (wcd k)
    by_cases z : am_L g 0 17 = wcd k
    · have e1 : lg_cmp (am_L g 0 17) (wcd k) = nI 0 := by rw [hc]; exact z
      rw [if_pos (show am_I g 0 16 = 1 from e), if_pos (show lg_cmp (am_L g 0 17) (wcd k) = 0 from e1), pb_eq ((f k h1 h2).mp z)]
      rfl
    · have e1 : ¬ lg_cmp (am_L g 0 17) (wcd k) = nI 0 := by rw [hc]; exact z
      rw [if_pos (show am_I g 0 16 = 1 from e), if_neg (show ¬ lg_cmp (am_L g 0 17) (wcd k) = 0 from e1), pb_ne (fun y => z ((f k h1 h2).mpr y))]
      rfl
  · simp (disch := first | omega | assumption | decide) only [↓pv_let, ↓pv_jn, ↓reduceIte, pv_bd, ↓pv_ocs, ↓pv_ocn, pv_gdt, pe_gd, pe_clamp, pt_eq, pf_eq, pt_le, pf_le, pt_lt, pf_lt, nI_add, nn_mul, pe_sub, pb_0, pb_1, pb_z, pe_ieq, pe_ine, pe_ik, pP_si, pS_si, pn_si, ps_si, pL_si, decide_true, ofNat_nI, pe_srI, pe_srN, pe_srS, pe_srP, not_true_eq_false, not_false_eq_true, true_and, and_true, and_self, false_and, and_false, nI_m1, nI_ms, Nat.add_sub_cancel, pl_0, pl_1, pl_2, pl_3, pl_4, pl_5, pl_6, pl_7, pl_8, pl_9, pl_10, pl_11, pl_12, pl_13, pl_14, pl_15, pl_16, pl_17, pl_18, pl_19, pl_20, pl_21, pl_22, pl_23, pl_24, pl_25, pl_26, pl_27, pl_28, pl_29, pl_30, pl_31, pl_32, pl_34, pl_36, pl_37, pl_40, pl_41, pl_42, pl_43, pl_45, pl_47, pl_48, pl_50, pl_57, pl_59, pl_60, pl_61, pl_62, pl_64, pl_70, pl_91, pl_93, pl_97, pl_98, pl_99, pl_100, pl_106, pl_122, pl_128, pl_136, pl_142, pl_165, pl_168, pl_170, pl_171, pl_173, pl_175, pl_187, pl_188, pl_189, pl_190, pl_206, pl_211, pl_219, pl_229, pl_255, pl_260, pl_400, pl_500, pl_512, pl_900, pl_999, pl_1000, pl_1001, pl_1005, pl_1020, pl_1023, pl_1024, pl_1103, pl_2000, pl_2040, pl_2176, pl_5660, pl_9999, pl_12345, pl_1000000, pl_1000003, pl_100000000, pl_1000000000, pz_0, pz_1, pz_t, e]
    rw [pb_ne (by omega)]
  · simp (disch := first | omega | assumption | decide) only [↓pv_let, ↓pv_jn, ↓reduceIte, pv_bd, ↓pv_ocs, ↓pv_ocn, pv_gdt, pe_gd, pe_clamp, pt_eq, pf_eq, pt_le, pf_le, pt_lt, pf_lt, nI_add, nn_mul, pe_sub, pb_0, pb_1, pb_z, pe_ieq, pe_ine, pe_ik, pP_si, pS_si, pn_si, ps_si, pL_si, decide_true, ofNat_nI, pe_srI, pe_srN, pe_srS, pe_srP, not_true_eq_false, not_false_eq_true, true_and, and_true, and_self, false_and, and_false, nI_m1, nI_ms, Nat.add_sub_cancel, pl_0, pl_1, pl_2, pl_3, pl_4, pl_5, pl_6, pl_7, pl_8, pl_9, pl_10, pl_11, pl_12, pl_13, pl_14, pl_15, pl_16, pl_17, pl_18, pl_19, pl_20, pl_21, pl_22, pl_23, pl_24, pl_25, pl_26, pl_27, pl_28, pl_29, pl_30, pl_31, pl_32, pl_34, pl_36, pl_37, pl_40, pl_41, pl_42, pl_43, pl_45, pl_47, pl_48, pl_50, pl_57, pl_59, pl_60, pl_61, pl_62, pl_64, pl_70, pl_91, pl_93, pl_97, pl_98, pl_99, pl_100, pl_106, pl_122, pl_128, pl_136, pl_142, pl_165, pl_168, pl_170, pl_171, pl_173, pl_175, pl_187, pl_188, pl_189, pl_190, pl_206, pl_211, pl_219, pl_229, pl_255, pl_260, pl_400, pl_500, pl_512, pl_900, pl_999, pl_1000, pl_1001, pl_1005, pl_1020, pl_1023, pl_1024, pl_1103, pl_2000, pl_2040, pl_2176, pl_5660, pl_9999, pl_12345, pl_1000000, pl_1000003, pl_100000000, pl_1000000000, pz_0, pz_1, pz_t, e]
    rw [pb_ne (by omega)]
  · simp (disch := first | omega | assumption | decide) only [↓pv_let, ↓pv_jn, ↓reduceIte, pv_bd, ↓pv_ocs, ↓pv_ocn, pv_gdt, pe_gd, pe_clamp, pt_eq, pf_eq, pt_le, pf_le, pt_lt, pf_lt, nI_add, nn_mul, pe_sub, pb_0, pb_1, pb_z, pe_ieq, pe_ine, pe_ik, pP_si, pS_si, pn_si, ps_si, pL_si, decide_true, ofNat_nI, pe_srI, pe_srN, pe_srS, pe_srP, not_true_eq_false, not_false_eq_true, true_and, and_true, and_self, false_and, and_false, nI_m1, nI_ms, Nat.add_sub_cancel, pl_0, pl_1, pl_2, pl_3, pl_4, pl_5, pl_6, pl_7, pl_8, pl_9, pl_10, pl_11, pl_12, pl_13, pl_14, pl_15, pl_16, pl_17, pl_18, pl_19, pl_20, pl_21, pl_22, pl_23, pl_24, pl_25, pl_26, pl_27, pl_28, pl_29, pl_30, pl_31, pl_32, pl_34, pl_36, pl_37, pl_40, pl_41, pl_42, pl_43, pl_45, pl_47, pl_48, pl_50, pl_57, pl_59, pl_60, pl_61, pl_62, pl_64, pl_70, pl_91, pl_93, pl_97, pl_98, pl_99, pl_100, pl_106, pl_122, pl_128, pl_136, pl_142, pl_165, pl_168, pl_170, pl_171, pl_173, pl_175, pl_187, pl_188, pl_189, pl_190, pl_206, pl_211, pl_219, pl_229, pl_255, pl_260, pl_400, pl_500, pl_512, pl_900, pl_999, pl_1000, pl_1001, pl_1005, pl_1020, pl_1023, pl_1024, pl_1103, pl_2000, pl_2040, pl_2176, pl_5660, pl_9999, pl_12345, pl_1000000, pl_1000003, pl_100000000, pl_1000000000, pz_0, pz_1, pz_t, e]
    rw [pb_ne (by omega)]
theorem q12_isSignT {g : am_G} {c m : Nat} (h : TkS g c) (hm : m < 256) : fX12_isSign (nI m) g = some (pb (c = 128 + m), g) := by
  unfold fX12_isSign
  rcases h with ⟨a, e⟩ | ⟨a1, a2, e, f⟩ | ⟨a1, a2, e, f⟩ | ⟨a, e, f⟩ | ⟨a1, a2, e, f⟩
  · simp (disch := first | omega | assumption | decide) only [↓pv_let, ↓pv_jn, ↓reduceIte, pv_bd, ↓pv_ocs, ↓pv_ocn, pv_gdt, pe_gd, pe_clamp, pt_eq, pf_eq, pt_le, pf_le, pt_lt, pf_lt, nI_add, nn_mul, pe_sub, pb_0, pb_1, pb_z, pe_ieq, pe_ine, pe_ik, pP_si, pS_si, pn_si, ps_si, pL_si, decide_true, ofNat_nI, pe_srI, pe_srN, pe_srS, pe_srP, not_true_eq_false, not_false_eq_true, true_and, and_true, and_self, false_and, and_false, nI_m1, nI_ms, Nat.add_sub_cancel, pl_0, pl_1, pl_2, pl_3, pl_4, pl_5, pl_6, pl_7, pl_8, pl_9, pl_10, pl_11, pl_12, pl_13, pl_14, pl_15, pl_16, pl_17, pl_18, pl_19, pl_20, pl_21, pl_22, pl_23, pl_24, pl_25, pl_26, pl_27, pl_28, pl_29, pl_30, pl_31, pl_32, pl_34, pl_36, pl_37, pl_40, pl_41, pl_42, pl_43, pl_45, pl_47, pl_48, pl_50, pl_57, pl_59, pl_60, pl_61, pl_62, pl_64, pl_70, pl_91, pl_93, pl_97, pl_98, pl_99, pl_100, pl_106, pl_122, pl_128, pl_136, pl_142, pl_165, pl_168, pl_170, pl_171, pl_173, pl_175, pl_187, pl_188, pl_189, pl_190, pl_206, pl_211, pl_219, pl_229, pl_255, pl_260, pl_400, pl_500, pl_512, pl_900, pl_999, pl_1000, pl_1001, pl_1005, pl_1020, pl_1023, pl_1024, pl_1103, pl_2000, pl_2040, pl_2176, pl_5660, pl_9999, pl_12345, pl_1000000, pl_1000003, pl_100000000, pl_1000000000, pz_0, pz_1, pz_t, e]
    rw [pb_ne (by omega)]
  · simp (disch := first | omega | assumption | decide) only [↓pv_let, ↓pv_jn, ↓reduceIte, pv_bd, ↓pv_ocs, ↓pv_ocn, pv_gdt, pe_gd, pe_clamp, pt_eq, pf_eq, pt_le, pf_le, pt_lt, pf_lt, nI_add, nn_mul, pe_sub, pb_0, pb_1, pb_z, pe_ieq, pe_ine, pe_ik, pP_si, pS_si, pn_si, ps_si, pL_si, decide_true, ofNat_nI, pe_srI, pe_srN, pe_srS, pe_srP, not_true_eq_false, not_false_eq_true, true_and, and_true, and_self, false_and, and_false, nI_m1, nI_ms, Nat.add_sub_cancel, pl_0, pl_1, pl_2, pl_3, pl_4, pl_5, pl_6, pl_7, pl_8, pl_9, pl_10, pl_11, pl_12, pl_13, pl_14, pl_15, pl_16, pl_17, pl_18, pl_19, pl_20, pl_21, pl_22, pl_23, pl_24, pl_25, pl_26, pl_27, pl_28, pl_29, pl_30, pl_31, pl_32, pl_34, pl_36, pl_37, pl_40, pl_41, pl_42, pl_43, pl_45, pl_47, pl_48, pl_50, pl_57, pl_59, pl_60, pl_61, pl_62, pl_64, pl_70, pl_91, pl_93, pl_97, pl_98, pl_99, pl_100, pl_106, pl_122, pl_128, pl_136, pl_142, pl_165, pl_168, pl_170, pl_171, pl_173, pl_175, pl_187, pl_188, pl_189, pl_190, pl_206, pl_211, pl_219, pl_229, pl_255, pl_260, pl_400, pl_500, pl_512, pl_900, pl_999, pl_1000, pl_1001, pl_1005, pl_1020, pl_1023, pl_1024, pl_1103, pl_2000, pl_2040, pl_2176, pl_5660, pl_9999, pl_12345, pl_1000000, pl_1000003, pl_100000000, pl_1000000000, pz_0, pz_1, pz_t, e]
    rw [pb_ne (by omega)]
  · simp (disch := first | omega | assumption | decide) only [↓pv_let, ↓pv_jn, ↓reduceIte, pv_bd, ↓pv_ocs, ↓pv_ocn, pv_gdt, pe_gd, pe_clamp, pt_eq, pf_eq, pt_le, pf_le, pt_lt, pf_lt, nI_add, nn_mul, pe_sub, pb_0, pb_1, pb_z, pe_ieq, pe_ine, pe_ik, pP_si, pS_si, pn_si, ps_si, pL_si, decide_true, ofNat_nI, pe_srI, pe_srN, pe_srS, pe_srP, not_true_eq_false, not_false_eq_true, true_and, and_true, and_self, false_and, and_false, nI_m1, nI_ms, Nat.add_sub_cancel, pl_0, pl_1, pl_2, pl_3, pl_4, pl_5, pl_6, pl_7, pl_8, pl_9, pl_10, pl_11, pl_12, pl_13, pl_14, pl_15, pl_16, pl_17, pl_18, pl_19, pl_20, pl_21, pl_22, pl_23, pl_24, pl_25, pl_26, pl_27, pl_28, pl_29, pl_30, pl_31, pl_32, pl_34, pl_36, pl_37, pl_40, pl_41, pl_42, pl_43, pl_45, pl_47, pl_48, pl_50, pl_57, pl_59, pl_60, pl_61, pl_62, pl_64, pl_70, pl_91, pl_93, pl_97, pl_98, pl_99, pl_100, pl_106, pl_122, pl_128, pl_136, pl_142, pl_165, pl_168, pl_170, pl_171, pl_173, pl_175, pl_187, pl_188, pl_189, pl_190, pl_206, pl_211, pl_219, pl_229, pl_255, pl_260, pl_400, pl_500, pl_512, pl_900, pl_999, pl_1000, pl_1001, pl_1005, pl_1020, pl_1023, pl_1024, pl_1103, pl_2000, pl_2040, pl_2176, pl_5660, pl_9999, pl_12345, pl_1000000, pl_1000003, pl_100000000, pl_1000000000, pz_0, pz_1, pz_t, e]
    rw [pb_ne (by omega)]
  · simp (disch := first | omega | assumption | decide) only [↓pv_let, ↓pv_jn, ↓reduceIte, pv_bd, ↓pv_ocs, ↓pv_ocn, pv_gdt, pe_gd, pe_clamp, pt_eq, pf_eq, pt_le, pf_le, pt_lt, pf_lt, nI_add, nn_mul, pe_sub, pb_0, pb_1, pb_z, pe_ieq, pe_ine, pe_ik, pP_si, pS_si, pn_si, ps_si, pL_si, decide_true, ofNat_nI, pe_srI, pe_srN, pe_srS, pe_srP, not_true_eq_false, not_false_eq_true, true_and, and_true, and_self, false_and, and_false, nI_m1, nI_ms, Nat.add_sub_cancel, pl_0, pl_1, pl_2, pl_3, pl_4, pl_5, pl_6, pl_7, pl_8, pl_9, pl_10, pl_11, pl_12, pl_13, pl_14, pl_15, pl_16, pl_17, pl_18, pl_19, pl_20, pl_21, pl_22, pl_23, pl_24, pl_25, pl_26, pl_27, pl_28, pl_29, pl_30, pl_31, pl_32, pl_34, pl_36, pl_37, pl_40, pl_41, pl_42, pl_43, pl_45, pl_47, pl_48, pl_50, pl_57, pl_59, pl_60, pl_61, pl_62, pl_64, pl_70, pl_91, pl_93, pl_97, pl_98, pl_99, pl_100, pl_106, pl_122, pl_128, pl_136, pl_142, pl_165, pl_168, pl_170, pl_171, pl_173, pl_175, pl_187, pl_188, pl_189, pl_190, pl_206, pl_211, pl_219, pl_229, pl_255, pl_260, pl_400, pl_500, pl_512, pl_900, pl_999, pl_1000, pl_1001, pl_1005, pl_1020, pl_1023, pl_1024, pl_1103, pl_2000, pl_2040, pl_2176, pl_5660, pl_9999, pl_12345, pl_1000000, pl_1000003, pl_100000000, pl_1000000000, pz_0, pz_1, pz_t, e]
    rw [pb_ne (by omega)]
  · have hc := cmp_eq (am_L g 0 17) (nI m).toInt64
    by_cases z : c = 128 + m
    · have e1 : lg_cmp (am_L g 0 17) (nI m).toInt64 = nI 0 := by rw [hc, f, show c - 128 = m by omega]
      rw [if_pos (show am_I g 0 16 = 3 from e), if_pos (show lg_cmp (am_L g 0 17) (nI m).toInt64 = 0 from e1), pb_eq z]
      rfl
    · have e1 : ¬ lg_cmp (am_L g 0 17) (nI m).toInt64 = nI 0 := by
        rw [hc, f]
        intro y
        have := (nn_eq (by omega) (by omega)).mp (inj64 y)
        omega
      rw [if_pos (show am_I g 0 16 = 3 from e), if_neg (show ¬ lg_cmp (am_L g 0 17) (nI m).toInt64 = 0 from e1), pb_ne z]
      rfl
theorem qw_and {g : am_G} {c : Nat} (h : TkS g c) : fX12_isWord 1476 g = some (pb (c = 9), g) := q12_isWordT (k := 9) h (by decide) (by decide)
theorem qw_or {g : am_G} {c : Nat} (h : TkS g c) : fX12_isWord 498 g = some (pb (c = 8), g) := q12_isWordT (k := 8) h (by decide) (by decide)
theorem qw_not {g : am_G} {c : Nat} (h : TkS g c) : fX12_isWord 14836 g = some (pb (c = 10), g) := q12_isWordT (k := 10) h (by decide) (by decide)
theorem qw_if {g : am_G} {c : Nat} (h : TkS g c) : fX12_isWord 294 g = some (pb (c = 7), g) := q12_isWordT (k := 7) h (by decide) (by decide)
theorem qw_say {g : am_G} {c : Nat} (h : TkS g c) : fX12_isWord 19513 g = some (pb (c = 5), g) := q12_isWordT (k := 5) h (by decide) (by decide)
theorem qw_dawn {g : am_G} {c : Nat} (h : TkS g c) : fX12_isWord 132846 g = some (pb (c = 6), g) := q12_isWordT (k := 6) h (by decide) (by decide)
theorem qw_at {g : am_G} {c : Nat} (h : TkS g c) : fX12_isWord 52 g = some (pb (c = 11), g) := q12_isWordT (k := 11) h (by decide) (by decide)
theorem qw_loud {g : am_G} {c : Nat} (h : TkS g c) : fX12_isWord 409252 g = some (pb (c = 13), g) := q12_isWordT (k := 13) h (by decide) (by decide)
theorem qw_times {g : am_G} {c : Nat} (h : TkS g c) : fX12_isWord 21279923 g = some (pb (c = 12), g) := q12_isWordT (k := 12) h (by decide) (by decide)
/-! what is read so far, and the pile -/
abbrev Cd : Type := (Nat → Nat) × (Nat → Nat) × Nat
def emt (X : Cd) (op arg : Nat) : Cd := (am_up X.1 X.2.2 op, am_up X.2.1 X.2.2 arg, X.2.2 + 1)
def em1 (X : Cd) (q : Nat × Nat) : Cd := if q.1 = 29 ∨ q.1 = 30 then (X.1, am_up X.2.1 q.2 X.2.2, X.2.2) else emt X q.1 0
def ems (X : Cd) : List (Nat × Nat) → Cd
  | [] => X
  | q :: l => ems (em1 X q) l
def emc : List (Nat × Nat) → Nat
  | [] => 0
  | q :: l => emc l + (if q.1 < 29 then 1 else 0)
def bnd (op : Nat) : Nat := if 31 ≤ op then 0 else if op = 30 then 1 else if op = 29 then 2 else if op = 28 then 3 else if 25 ≤ op then 4 else if 22 ≤ op then 6 else 5
def PlH (g : am_G) : List (Nat × Nat) → Prop
  | [] => True
  | q :: l => am_I g 13 l.length = nI q.1 ∧ am_I g 14 l.length = nI q.2 ∧ PlH g l
def SP (X : Cd) (pi : List (Nat × Nat)) (g : am_G) : Prop := am_I g 0 23 = nI X.2.2 ∧ (∀ i, i < X.2.2 → am_I g 11 i = nI (X.1 i) ∧ am_I g 12 i = nI (X.2.1 i)) ∧ am_I g 0 29 = nI pi.length ∧ PlH g pi ∧ pi.length ≤ 400 ∧ X.2.2 + emc pi ≤ 400 ∧ ∀ q ∈ pi, 20 ≤ q.1 ∧ q.1 ≤ 32 ∧ q.2 < 400
def FrZ (g g' : am_G) : Prop := g'.2 = g.2 ∧ ∀ a k, ¬ (11 ≤ a ∧ a ≤ 14) → ¬ (a = 0 ∧ (k = 23 ∨ k = 29)) → am_I g' a k = am_I g a k
theorem FrZ.rf (g : am_G) : FrZ g g := ⟨rfl, fun _ _ _ _ => rfl⟩
theorem FrZ.tr {g h i : am_G} (h1 : FrZ g h) (h2 : FrZ h i) : FrZ g i := ⟨h2.1.trans h1.1, fun a k x y => (h2.2 a k x y).trans (h1.2 a k x y)⟩
theorem FrZ.si {g h : am_G} (h1 : FrZ g h) {a k : Nat} (ha : (11 ≤ a ∧ a ≤ 14) ∨ (a = 0 ∧ (k = 23 ∨ k = 29))) (x : Int32) : FrZ g (am_si h a k x) := ⟨h1.1, fun b j y z => by rw [pI_si, if_neg (fun w => by omega)]; exact h1.2 b j y z⟩
theorem PlH.cg {g g' : am_G} : ∀ {l : List (Nat × Nat)}, PlH g l → (∀ j, j < l.length → am_I g' 13 j = am_I g 13 j ∧ am_I g' 14 j = am_I g 14 j) → PlH g' l
  | [], _, _ => trivial
  | q :: l, h, e => ⟨by rw [(e l.length (by simp)).1]; exact h.1, by rw [(e l.length (by simp)).2]; exact h.2.1, h.2.2.cg (fun j hj => e j (by simp only [List.length_cons]; omega))⟩
theorem q12_binds {op : Nat} (h1 : 20 ≤ op) (h2 : op ≤ 32) (g : am_G) : fX12_binds (nI op) g = some (nI (bnd op), g) := by
  rcases (show op = 20 ∨ op = 21 ∨ op = 22 ∨ op = 23 ∨ op = 24 ∨ op = 25 ∨ op = 26 ∨ op = 27 ∨ op = 28 ∨ op = 29 ∨ op = 30 ∨ op = 31 ∨ op = 32 by omega) with rfl | rfl | rfl | rfl | rfl | rfl | rfl | rfl | rfl | rfl | rfl | rfl | rfl <;> rfl
theorem q12_emit {g : am_G} {X : Cd} {pi : List (Nat × Nat)} (h : SP X pi g) (op arg : Nat) (hc : X.2.2 + 1 + emc pi ≤ 400) : ∃ g', fX12_emit (nI op) (nI arg) g = some ((), g') ∧ SP (emt X op arg) pi g' ∧ FrZ g g' := by
  obtain ⟨h1, h2, h3, h4, h5, h6, h7⟩ := h
  refine ⟨am_si (am_si (am_si g 11 X.2.2 (nI op)) 12 X.2.2 (nI arg)) 0 23 (nI (X.2.2 + 1)), ?_, ⟨?_, fun i hi => ?_, ?_, ?_, h5, hc, h7⟩, (((FrZ.rf g).si (by omega) _).si (by omega) _).si (by omega) _⟩
  · unfold fX12_emit
    simp (disch := first | omega | assumption | decide) only [↓pv_let, ↓pv_jn, ↓reduceIte, pv_bd, ↓pv_ocs, ↓pv_ocn, pv_gdt, pe_gd, pe_clamp, pt_eq, pf_eq, pt_le, pf_le, pt_lt, pf_lt, nI_add, nn_mul, pe_sub, pb_0, pb_1, pb_z, pe_ieq, pe_ine, pe_ik, pP_si, pS_si, pn_si, ps_si, pL_si, decide_true, ofNat_nI, pe_srI, pe_srN, pe_srS, pe_srP, not_true_eq_false, not_false_eq_true, true_and, and_true, and_self, false_and, and_false, nI_m1, nI_ms, Nat.add_sub_cancel, pl_0, pl_1, pl_2, pl_3, pl_4, pl_5, pl_6, pl_7, pl_8, pl_9, pl_10, pl_11, pl_12, pl_13, pl_14, pl_15, pl_16, pl_17, pl_18, pl_19, pl_20, pl_21, pl_22, pl_23, pl_24, pl_25, pl_26, pl_27, pl_28, pl_29, pl_30, pl_31, pl_32, pl_34, pl_36, pl_37, pl_40, pl_41, pl_42, pl_43, pl_45, pl_47, pl_48, pl_50, pl_57, pl_59, pl_60, pl_61, pl_62, pl_64, pl_70, pl_91, pl_93, pl_97, pl_98, pl_99, pl_100, pl_106, pl_122, pl_128, pl_136, pl_142, pl_165, pl_168, pl_170, pl_171, pl_173, pl_175, pl_187, pl_188, pl_189, pl_190, pl_206, pl_211, pl_219, pl_229, pl_255, pl_260, pl_400, pl_500, pl_512, pl_900, pl_999, pl_1000, pl_1001, pl_1005, pl_1020, pl_1023, pl_1024, pl_1103, pl_2000, pl_2040, pl_2176, pl_5660, pl_9999, pl_12345, pl_1000000, pl_1000003, pl_100000000, pl_1000000000, pz_0, pz_1, pz_t, h1]
  · exact pe_ieq _ _ _ _
  · have hi' : i < X.2.2 + 1 := hi
    rw [pI_si_ne _ _ _ (show (11 : Nat) ≠ 0 by decide), pI_si_ne _ _ _ (show (11 : Nat) ≠ 12 by decide), pI_si_ne _ _ _ (show (12 : Nat) ≠ 0 by decide)]
    by_cases e : i = X.2.2
    · subst e
      rw [pe_ieq, pe_ieq]
      exact ⟨by rw [show (emt X op arg).1 = am_up X.1 X.2.2 op from rfl, am_up_eq], by rw [show (emt X op arg).2.1 = am_up X.2.1 X.2.2 arg from rfl, am_up_eq]⟩
    · rw [pe_ik e, pe_ik e, pI_si_ne _ _ _ (show (12 : Nat) ≠ 11 by decide), show (emt X op arg).1 = am_up X.1 X.2.2 op from rfl, show (emt X op arg).2.1 = am_up X.2.1 X.2.2 arg from rfl, am_up_ne e, am_up_ne e]
      exact h2 i (by omega)
  · rw [pe_ik (by decide), pe_ine (by decide), pe_ine (by decide)]; exact h3
  · exact h4.cg (fun j _ => ⟨by rw [pe_ine (by decide), pe_ine (by decide), pe_ine (by decide)], by rw [pe_ine (by decide), pe_ine (by decide), pe_ine (by decide)]⟩)
theorem q12_push {g : am_G} {X : Cd} {pi : List (Nat × Nat)} (h : SP X pi g) {op at' : Nat} (h20 : 20 ≤ op) (h32 : op ≤ 32) (hat : at' < 400) (hl : pi.length < 400) (hc : X.2.2 + emc ((op, at') :: pi) ≤ 400) : ∃ g', fX12_push (nI op) (nI at') g = some ((), g') ∧ SP X ((op, at') :: pi) g' ∧ FrZ g g' := by
  obtain ⟨h1, h2, h3, h4, h5, h6, h7⟩ := h
  refine ⟨am_si (am_si (am_si g 13 pi.length (nI op)) 14 pi.length (nI at')) 0 29 (nI (pi.length + 1)), ?_, ⟨?_, fun i hi => ?_, ?_, ⟨?_, ?_, ?_⟩, ?_, hc, fun q hq => ?_⟩, (((FrZ.rf g).si (by omega) _).si (by omega) _).si (by omega) _⟩
  · unfold fX12_push
    simp (disch := first | omega | assumption | decide) only [↓pv_let, ↓pv_jn, ↓reduceIte, pv_bd, ↓pv_ocs, ↓pv_ocn, pv_gdt, pe_gd, pe_clamp, pt_eq, pf_eq, pt_le, pf_le, pt_lt, pf_lt, nI_add, nn_mul, pe_sub, pb_0, pb_1, pb_z, pe_ieq, pe_ine, pe_ik, pP_si, pS_si, pn_si, ps_si, pL_si, decide_true, ofNat_nI, pe_srI, pe_srN, pe_srS, pe_srP, not_true_eq_false, not_false_eq_true, true_and, and_true, and_self, false_and, and_false, nI_m1, nI_ms, Nat.add_sub_cancel, pl_0, pl_1, pl_2, pl_3, pl_4, pl_5, pl_6, pl_7, pl_8, pl_9, pl_10, pl_11, pl_12, pl_13, pl_14, pl_15, pl_16, pl_17, pl_18, pl_19, pl_20, pl_21, pl_22, pl_23, pl_24, pl_25, pl_26, pl_27, pl_28, pl_29, pl_30, pl_31, pl_32, pl_34, pl_36, pl_37, pl_40, pl_41, pl_42, pl_43, pl_45, pl_47, pl_48, pl_50, pl_57, pl_59, pl_60, pl_61, pl_62, pl_64, pl_70, pl_91, pl_93, pl_97, pl_98, pl_99, pl_100, pl_106, pl_122, pl_128, pl_136, pl_142, pl_165, pl_168, pl_170, pl_171, pl_173, pl_175, pl_187, pl_188, pl_189, pl_190, pl_206, pl_211, pl_219, pl_229, pl_255, pl_260, pl_400, pl_500, pl_512, pl_900, pl_999, pl_1000, pl_1001, pl_1005, pl_1020, pl_1023, pl_1024, pl_1103, pl_2000, pl_2040, pl_2176, pl_5660, pl_9999, pl_12345, pl_1000000, pl_1000003, pl_100000000, pl_1000000000, pz_0, pz_1, pz_t, h3]
  · rw [pe_ik (by decide), pe_ine (by decide), pe_ine (by decide)]; exact h1
  · rw [pe_ine (by decide), pe_ine (by decide), pe_ine (by decide), pe_ine (by decide), pe_ine (by decide), pe_ine (by decide)]
    exact h2 i hi
  · rw [pe_ieq, List.length_cons]
  · rw [pe_ine (by decide), pe_ine (by decide), pe_ieq]
  · rw [pe_ine (by decide), pe_ieq]
  · exact h4.cg (fun j hj => ⟨by rw [pe_ine (by decide), pe_ine (by decide), pe_ik (by omega)], by rw [pe_ine (by decide), pe_ik (by omega), pe_ine (by decide)]⟩)
  · rw [List.length_cons]; omega
  · rcases List.mem_cons.mp hq with rfl | hq
    · exact ⟨h20, h32, hat⟩
    · exact h7 q hq
/-- the pile's top binds less -/
def tb (base : List (Nat × Nat)) (lv : Nat) : Prop := ∀ q l, base = q :: l → bnd q.1 < lv
theorem emc_app : ∀ (l m : List (Nat × Nat)), emc (l ++ m) = emc l + emc m
  | [], m => by rw [List.nil_append, emc]; omega
  | q :: l, m => by rw [List.cons_append, emc, emc, emc_app l m]; omega
theorem settleL {lv : Nat} (hl1 : 1 ≤ lv) (hl6 : lv ≤ 6) {base : List (Nat × Nat)} (hb : tb base lv) : ∀ (pend : List (Nat × Nat)) (n : Nat) (X : Cd) (g : am_G), SP X (pend ++ base) g → (∀ q ∈ pend, lv ≤ bnd q.1) → pend.length < n → ∃ g', fX12_settle_L0 (nI lv) n g = some ((), g') ∧ SP (ems X pend) base g' ∧ FrZ g g'
  | [], n, X, g, h, hp, hn => by
    obtain ⟨n, rfl⟩ : ∃ m, n = m + 1 := ⟨n - 1, by omega⟩
    rw [List.nil_append] at h
    refine ⟨g, ?_, h, FrZ.rf g⟩
    obtain ⟨h1, h2, h3, h4, h5, h6, h7⟩ := h
    cases base with
    | nil =>
      rw [List.length_nil] at h3
      rw [fX12_settle_L0]
      simp (disch := first | omega | assumption | decide) only [↓pv_let, ↓pv_jn, ↓reduceIte, pv_bd, ↓pv_ocs, ↓pv_ocn, pv_gdt, pe_gd, pe_clamp, pt_eq, pf_eq, pt_le, pf_le, pt_lt, pf_lt, nI_add, nn_mul, pe_sub, pb_0, pb_1, pb_z, pe_ieq, pe_ine, pe_ik, pP_si, pS_si, pn_si, ps_si, pL_si, decide_true, ofNat_nI, pe_srI, pe_srN, pe_srS, pe_srP, not_true_eq_false, not_false_eq_true, true_and, and_true, and_self, false_and, and_false, nI_m1, nI_ms, Nat.add_sub_cancel, pl_0, pl_1, pl_2, pl_3, pl_4, pl_5, pl_6, pl_7, pl_8, pl_9, pl_10, pl_11, pl_12, pl_13, pl_14, pl_15, pl_16, pl_17, pl_18, pl_19, pl_20, pl_21, pl_22, pl_23, pl_24, pl_25, pl_26, pl_27, pl_28, pl_29, pl_30, pl_31, pl_32, pl_34, pl_36, pl_37, pl_40, pl_41, pl_42, pl_43, pl_45, pl_47, pl_48, pl_50, pl_57, pl_59, pl_60, pl_61, pl_62, pl_64, pl_70, pl_91, pl_93, pl_97, pl_98, pl_99, pl_100, pl_106, pl_122, pl_128, pl_136, pl_142, pl_165, pl_168, pl_170, pl_171, pl_173, pl_175, pl_187, pl_188, pl_189, pl_190, pl_206, pl_211, pl_219, pl_229, pl_255, pl_260, pl_400, pl_500, pl_512, pl_900, pl_999, pl_1000, pl_1001, pl_1005, pl_1020, pl_1023, pl_1024, pl_1103, pl_2000, pl_2040, pl_2176, pl_5660, pl_9999, pl_12345, pl_1000000, pl_1000003, pl_100000000, pl_1000000000, pz_0, pz_1, pz_t, h3]
    | cons q l =>
      rw [List.length_cons] at h3 h5
      have hq := h7 q (List.mem_cons_self ..)
      have hbq := hb q l rfl
      have h40 := h4.1
      have bd := q12_binds hq.1 hq.2.1 g
      have b6 : bnd q.1 ≤ 6 := by unfold bnd; repeat' split
                                  all_goals omega
      rw [fX12_settle_L0]
      simp (disch := first | omega | assumption | decide) only [↓pv_let, ↓pv_jn, ↓reduceIte, pv_bd, ↓pv_ocs, ↓pv_ocn, pv_gdt, pe_gd, pe_clamp, pt_eq, pf_eq, pt_le, pf_le, pt_lt, pf_lt, nI_add, nn_mul, pe_sub, pb_0, pb_1, pb_z, pe_ieq, pe_ine, pe_ik, pP_si, pS_si, pn_si, ps_si, pL_si, decide_true, ofNat_nI, pe_srI, pe_srN, pe_srS, pe_srP, not_true_eq_false, not_false_eq_true, true_and, and_true, and_self, false_and, and_false, nI_m1, nI_ms, Nat.add_sub_cancel, pl_0, pl_1, pl_2, pl_3, pl_4, pl_5, pl_6, pl_7, pl_8, pl_9, pl_10, pl_11, pl_12, pl_13, pl_14, pl_15, pl_16, pl_17, pl_18, pl_19, pl_20, pl_21, pl_22, pl_23, pl_24, pl_25, pl_26, pl_27, pl_28, pl_29, pl_30, pl_31, pl_32, pl_34, pl_36, pl_37, pl_40, pl_41, pl_42, pl_43, pl_45, pl_47, pl_48, pl_50, pl_57, pl_59, pl_60, pl_61, pl_62, pl_64, pl_70, pl_91, pl_93, pl_97, pl_98, pl_99, pl_100, pl_106, pl_122, pl_128, pl_136, pl_142, pl_165, pl_168, pl_170, pl_171, pl_173, pl_175, pl_187, pl_188, pl_189, pl_190, pl_206, pl_211, pl_219, pl_229, pl_255, pl_260, pl_400, pl_500, pl_512, pl_900, pl_999, pl_1000, pl_1001, pl_1005, pl_1020, pl_1023, pl_1024, pl_1103, pl_2000, pl_2040, pl_2176, pl_5660, pl_9999, pl_12345, pl_1000000, pl_1000003, pl_100000000, pl_1000000000, pz_0, pz_1, pz_t, h3, h40, bd]
  | q :: pend, n, X, g, h, hp, hn => by
    obtain ⟨n, rfl⟩ : ∃ m, n = m + 1 := ⟨n - 1, by omega⟩
    rw [List.length_cons] at hn
    obtain ⟨h1, h2, h3, h4, h5, h6, h7⟩ := h
    rw [List.cons_append] at h3 h4 h5 h6 h7
    rw [List.length_cons] at h3 h5
    have hq := h7 q (List.mem_cons_self ..)
    have hpq := hp q (List.mem_cons_self ..)
    have h40 := h4.1
    have h41 := h4.2.1
    have bd := q12_binds hq.1 hq.2.1 g
    have b6 : bnd q.1 ≤ 6 := by unfold bnd; repeat' split
                                all_goals omega
    have q31 : q.1 < 31 := by
      by_cases z : 31 ≤ q.1
      · unfold bnd at hpq; rw [if_pos z] at hpq; omega
      · omega
    have hcm : emc (q :: (pend ++ base)) = emc (pend ++ base) + (if q.1 < 29 then 1 else 0) := rfl
    by_cases hq29 : q.1 = 29 ∨ q.1 = 30
    · have hS : SP (X.1, am_up X.2.1 q.2 X.2.2, X.2.2) (pend ++ base) (am_si (am_si g 0 29 (nI (pend ++ base).length)) 12 q.2 (nI X.2.2)) := by
        refine ⟨?_, fun i hi => ?_, ?_, ?_, by omega, by show X.2.2 + _ ≤ 400; omega, fun q' hq' => h7 q' (List.mem_cons_of_mem _ hq')⟩
        · rw [pe_ine (by decide), pe_ik (by decide)]; exact h1
        · have hi' : i < X.2.2 := hi
          rw [pe_ine (by decide), pe_ine (by decide)]
          refine ⟨(h2 i hi').1, ?_⟩
          show _ = nI (am_up X.2.1 q.2 X.2.2 i)
          by_cases e : i = q.2
          · rw [e, pe_ieq, am_up_eq]
          · rw [pe_ik e, pe_ine (by decide), am_up_ne e]; exact (h2 i hi').2
        · rw [pe_ine (by decide), pe_ieq]
        · exact h4.2.2.cg (fun j _ => ⟨by rw [pe_ine (by decide), pe_ine (by decide)], by rw [pe_ine (by decide), pe_ine (by decide)]⟩)
      obtain ⟨g', z1, z2, z3⟩ := settleL hl1 hl6 hb pend n _ _ hS (fun q' hq' => hp q' (List.mem_cons_of_mem _ hq')) (by omega)
      refine ⟨g', ?_, ?_, (((FrZ.rf g).si (by omega) _).si (by omega) _).tr z3⟩
      · rw [← z1, fX12_settle_L0]
        have q400 := hq.2.2
        rcases hq29 with e | e
        · rw [e] at h40 bd b6 hpq
          simp (disch := first | omega | assumption | decide) only [↓pv_let, ↓pv_jn, ↓reduceIte, pv_bd, ↓pv_ocs, ↓pv_ocn, pv_gdt, pe_gd, pe_clamp, pt_eq, pf_eq, pt_le, pf_le, pt_lt, pf_lt, nI_add, nn_mul, pe_sub, pb_0, pb_1, pb_z, pe_ieq, pe_ine, pe_ik, pP_si, pS_si, pn_si, ps_si, pL_si, decide_true, ofNat_nI, pe_srI, pe_srN, pe_srS, pe_srP, not_true_eq_false, not_false_eq_true, true_and, and_true, and_self, false_and, and_false, nI_m1, nI_ms, Nat.add_sub_cancel, pl_0, pl_1, pl_2, pl_3, pl_4, pl_5, pl_6, pl_7, pl_8, pl_9, pl_10, pl_11, pl_12, pl_13, pl_14, pl_15, pl_16, pl_17, pl_18, pl_19, pl_20, pl_21, pl_22, pl_23, pl_24, pl_25, pl_26, pl_27, pl_28, pl_29, pl_30, pl_31, pl_32, pl_34, pl_36, pl_37, pl_40, pl_41, pl_42, pl_43, pl_45, pl_47, pl_48, pl_50, pl_57, pl_59, pl_60, pl_61, pl_62, pl_64, pl_70, pl_91, pl_93, pl_97, pl_98, pl_99, pl_100, pl_106, pl_122, pl_128, pl_136, pl_142, pl_165, pl_168, pl_170, pl_171, pl_173, pl_175, pl_187, pl_188, pl_189, pl_190, pl_206, pl_211, pl_219, pl_229, pl_255, pl_260, pl_400, pl_500, pl_512, pl_900, pl_999, pl_1000, pl_1001, pl_1005, pl_1020, pl_1023, pl_1024, pl_1103, pl_2000, pl_2040, pl_2176, pl_5660, pl_9999, pl_12345, pl_1000000, pl_1000003, pl_100000000, pl_1000000000, pz_0, pz_1, pz_t, h3, h40, h41, bd, h1]
        · rw [e] at h40 bd b6 hpq
          simp (disch := first | omega | assumption | decide) only [↓pv_let, ↓pv_jn, ↓reduceIte, pv_bd, ↓pv_ocs, ↓pv_ocn, pv_gdt, pe_gd, pe_clamp, pt_eq, pf_eq, pt_le, pf_le, pt_lt, pf_lt, nI_add, nn_mul, pe_sub, pb_0, pb_1, pb_z, pe_ieq, pe_ine, pe_ik, pP_si, pS_si, pn_si, ps_si, pL_si, decide_true, ofNat_nI, pe_srI, pe_srN, pe_srS, pe_srP, not_true_eq_false, not_false_eq_true, true_and, and_true, and_self, false_and, and_false, nI_m1, nI_ms, Nat.add_sub_cancel, pl_0, pl_1, pl_2, pl_3, pl_4, pl_5, pl_6, pl_7, pl_8, pl_9, pl_10, pl_11, pl_12, pl_13, pl_14, pl_15, pl_16, pl_17, pl_18, pl_19, pl_20, pl_21, pl_22, pl_23, pl_24, pl_25, pl_26, pl_27, pl_28, pl_29, pl_30, pl_31, pl_32, pl_34, pl_36, pl_37, pl_40, pl_41, pl_42, pl_43, pl_45, pl_47, pl_48, pl_50, pl_57, pl_59, pl_60, pl_61, pl_62, pl_64, pl_70, pl_91, pl_93, pl_97, pl_98, pl_99, pl_100, pl_106, pl_122, pl_128, pl_136, pl_142, pl_165, pl_168, pl_170, pl_171, pl_173, pl_175, pl_187, pl_188, pl_189, pl_190, pl_206, pl_211, pl_219, pl_229, pl_255, pl_260, pl_400, pl_500, pl_512, pl_900, pl_999, pl_1000, pl_1001, pl_1005, pl_1020, pl_1023, pl_1024, pl_1103, pl_2000, pl_2040, pl_2176, pl_5660, pl_9999, pl_12345, pl_1000000, pl_1000003, pl_100000000, pl_1000000000, pz_0, pz_1, pz_t, h3, h40, h41, bd, h1]
      · rw [ems, em1, if_pos hq29]
        exact z2
    · have hS0 : SP X (pend ++ base) (am_si g 0 29 (nI (pend ++ base).length)) := by
        refine ⟨?_, fun i hi => ?_, ?_, ?_, by omega, by omega, fun q' hq' => h7 q' (List.mem_cons_of_mem _ hq')⟩
        · rw [pe_ik (by decide)]; exact h1
        · rw [pe_ine (by decide), pe_ine (by decide)]; exact h2 i hi
        · exact pe_ieq _ _ _ _
        · exact h4.2.2.cg (fun j _ => ⟨by rw [pe_ine (by decide)], by rw [pe_ine (by decide)]⟩)
      have hlt : q.1 < 29 := by omega
      rw [if_pos hlt] at hcm
      obtain ⟨g1, e1, e2, e3⟩ := q12_emit hS0 q.1 0 (by omega)
      obtain ⟨g', z1, z2, z3⟩ := settleL hl1 hl6 hb pend n _ _ e2 (fun q' hq' => hp q' (List.mem_cons_of_mem _ hq')) (by omega)
      refine ⟨g', ?_, ?_, ((FrZ.rf g).si (by omega) _).tr (e3.tr z3)⟩
      · rw [← z1, fX12_settle_L0]
        have n29 : q.1 ≠ 29 := by omega
        have n30 : q.1 ≠ 30 := by omega
        simp (disch := first | omega | assumption | decide) only [↓pv_let, ↓pv_jn, ↓reduceIte, pv_bd, ↓pv_ocs, ↓pv_ocn, pv_gdt, pe_gd, pe_clamp, pt_eq, pf_eq, pt_le, pf_le, pt_lt, pf_lt, nI_add, nn_mul, pe_sub, pb_0, pb_1, pb_z, pe_ieq, pe_ine, pe_ik, pP_si, pS_si, pn_si, ps_si, pL_si, decide_true, ofNat_nI, pe_srI, pe_srN, pe_srS, pe_srP, not_true_eq_false, not_false_eq_true, true_and, and_true, and_self, false_and, and_false, nI_m1, nI_ms, Nat.add_sub_cancel, pl_0, pl_1, pl_2, pl_3, pl_4, pl_5, pl_6, pl_7, pl_8, pl_9, pl_10, pl_11, pl_12, pl_13, pl_14, pl_15, pl_16, pl_17, pl_18, pl_19, pl_20, pl_21, pl_22, pl_23, pl_24, pl_25, pl_26, pl_27, pl_28, pl_29, pl_30, pl_31, pl_32, pl_34, pl_36, pl_37, pl_40, pl_41, pl_42, pl_43, pl_45, pl_47, pl_48, pl_50, pl_57, pl_59, pl_60, pl_61, pl_62, pl_64, pl_70, pl_91, pl_93, pl_97, pl_98, pl_99, pl_100, pl_106, pl_122, pl_128, pl_136, pl_142, pl_165, pl_168, pl_170, pl_171, pl_173, pl_175, pl_187, pl_188, pl_189, pl_190, pl_206, pl_211, pl_219, pl_229, pl_255, pl_260, pl_400, pl_500, pl_512, pl_900, pl_999, pl_1000, pl_1001, pl_1005, pl_1020, pl_1023, pl_1024, pl_1103, pl_2000, pl_2040, pl_2176, pl_5660, pl_9999, pl_12345, pl_1000000, pl_1000003, pl_100000000, pl_1000000000, pz_0, pz_1, pz_t, h3, h40, bd, e1]
      · rw [ems, em1, if_neg hq29]
        exact z2
theorem q12_settle {lv : Nat} (hl1 : 1 ≤ lv) (hl6 : lv ≤ 6) {base pend : List (Nat × Nat)} (hb : tb base lv) {X : Cd} {g : am_G} (h : SP X (pend ++ base) g) (hp : ∀ q ∈ pend, lv ≤ bnd q.1) : ∃ g', fX12_settle (nI lv) g = some ((), g') ∧ SP (ems X pend) base g' ∧ FrZ g g' := by
  have hl := h.2.2.2.2.1
  rw [List.length_append] at hl
  exact settleL hl1 hl6 hb pend am_fu X g h hp (by have : am_fu = 1048576 := rfl; omega)
