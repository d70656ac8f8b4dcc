/-! ===== words, talks, what was seen, terms, force ===== -/
theorem okAt_word {t n c m : Nat} (hn : n < 16) (hc : c < 4) (hm : m ≤ (if c = 2 then 7 else if c = 3 then 99 else 9)) : okAt t (142 + 4 * n + c) (nI m) := by
  have e : (142 + 4 * n + c - 142) % 4 = c := by omega
  refine okAt_of (n := if c = 2 then 7 else if c = 3 then 99 else 9) (by omega) ?_ ?_ hm ?_
  · unfold okLo; rw [if_neg (by omega), if_neg (by omega)]
  · unfold okHi; rw [e]; (repeat rw [if_neg (by omega)]); rw [if_pos (by omega)]; split; rfl; split <;> rfl
  · split; decide; split <;> decide
theorem okAt_talk {t n c m : Nat} (hn : n < 6) (hc : c < 3) (hm : m ≤ (if c = 0 then 15 else 3)) : okAt t (211 + 3 * n + c) (nI m) := by
  have e : (211 + 3 * n + c - 211) % 3 = c := by omega
  refine okAt_of (n := if c = 0 then 15 else 3) (by omega) ?_ ?_ hm ?_
  · unfold okLo; rw [if_neg (by omega), if_neg (by omega)]
  · unfold okHi; rw [e]; (repeat rw [if_neg (by omega)]); rw [if_pos (by omega)]; split <;> rfl
  · split <;> decide
theorem okAt_seen {t n c m : Nat} (hn : n < 10) (hc : c < 3) (hm : m ≤ (if c = 0 then 5 else if c = 1 then 9999 else 1)) : okAt t (229 + 3 * n + c) (nI m) := by
  have e : (229 + 3 * n + c - 229) % 3 = c := by omega
  refine okAt_of (n := if c = 0 then 5 else if c = 1 then 9999 else 1) (by omega) ?_ ?_ hm ?_
  · unfold okLo; rw [if_neg (by omega), if_neg (by omega)]
  · unfold okHi; rw [e]; iterate 14 rw [if_neg (by omega)]
    split
    · rfl
    · split
      · simp
      · rfl
  · split; decide; split <;> decide
abbrev pW (n : Nat) (a : Int32) : Prop := a.toNatClampNeg < n ∧ nI 0 ≤ a
theorem pW_of {n : Nat} {a : Int32} (h : pW n a) : ∃ m, m < n ∧ a = nI m := ⟨a.toNatClampNeg, h.1, (nn_of h.2).1⟩
theorem pW_mk {n m : Nat} (h : m < n) (hn : n < 2147483648) : pW n (nI m) := ⟨by rw [pe_clamp (by omega)]; exact h, nI_le (a := 0) (by omega) (by omega)⟩
theorem pW_iff {n : Nat} (hn : n < 2147483648) (a : Int32) : (nI 0 ≤ a ∧ a ≤ nI n - nI 1) ↔ pW n a := by
  by_cases h0 : nI 0 ≤ a
  · obtain ⟨h1, h2⟩ := nn_of h0
    have e1 : (nI n - nI 1).toInt = (n : Int) - 1 := by
      by_cases hz : n = 0
      · subst hz; rfl
      · rw [pe_sub (by omega), nn_toInt (by omega)]; omega
    have e2 : a.toInt = (a.toNatClampNeg : Int) := by
      conv => lhs; rw [h1]
      exact nn_toInt h2
    constructor
    · intro z
      refine ⟨?_, h0⟩
      have := le_int z.2
      omega
    · intro z
      refine ⟨h0, Int32.le_iff_toInt_le.mpr ?_⟩
      have := z.1
      omega
  · exact ⟨fun z => absurd z.1 h0, fun z => absurd z.2 h0⟩
theorem pb_congr {p q : Prop} [Decidable p] [Decidable q] (h : p ↔ q) : pb p = pb q := by
  unfold pb
  by_cases hp : p
  · rw [if_pos hp, if_pos (h.mp hp)]
  · rw [if_neg hp, if_neg (fun z => hp (h.mpr z))]
theorem q10_has {n : Nat} (hn : n ≤ 16) (a : Int32) {g : am_G} (e : am_I g 12 4 = nI n) : fX10_has a g = some (pb (pW n a), g) := by
  unfold fX10_has
  simp (disch := first | omega | assumption | decide) only [pu_let, pu_jn, pu_bd, pu_ocs, pu_ocn, pu_gdt, pe_gd, pe_clamp, pe_eq, pe_le, pe_lt, pe_pos, pe_neg, nI_add, nn_mul, pe_sub, pb_0, pb_1, pb_z, pe_ieq, pe_ine, pe_ik, pP_si, pS_si, pn_si, ps_si, pL_si, ite_not, pe_gdd, pe_lle, decide_true, ofNat_nI, pe_srI, pe_srN, pe_srS, pe_srP, pl_0, pl_1, pl_2, pl_3, pl_4, pl_5, pl_6, pl_7, pl_8, pl_9, pl_10, pl_11, pl_12, pl_13, pl_14, pl_15, pl_16, pl_17, pl_18, pl_19, pl_20, pl_21, pl_22, pl_23, pl_24, pl_25, pl_26, pl_27, pl_28, pl_29, pl_30, pl_31, pl_32, pl_34, pl_36, pl_37, pl_40, pl_41, pl_42, pl_43, pl_45, pl_47, pl_48, pl_50, pl_57, pl_59, pl_60, pl_61, pl_62, pl_64, pl_70, pl_91, pl_93, pl_97, pl_98, pl_99, pl_100, pl_106, pl_122, pl_128, pl_136, pl_142, pl_165, pl_168, pl_170, pl_171, pl_173, pl_175, pl_187, pl_188, pl_189, pl_190, pl_206, pl_211, pl_219, pl_229, pl_255, pl_260, pl_400, pl_500, pl_512, pl_900, pl_999, pl_1000, pl_1001, pl_1005, pl_1020, pl_1023, pl_1024, pl_1103, pl_2000, pl_2040, pl_2176, pl_5660, pl_9999, pl_12345, pl_1000000, pl_1000003, pl_100000000, pl_1000000000, e, q11_within]
  rw [pb_congr (pW_iff (by omega) a)]
theorem sub64 : ∀ n, n < 17 → (nI n).toInt64 - 1 = (nI n - nI 1).toInt64 := by decide +kernel
theorem q12_isWord1 {n : Nat} (hn : n ≤ 16) (a : Int32) {g : am_G} (e : am_I g 2 0 = nI n) : fX12_isWord1 a g = some (pb (pW n a), g) := by
  unfold fX12_isWord1
  rw [show (0 : Int64) = (nI 0).toInt64 from rfl]
  simp (disch := first | omega | assumption | decide) only [pu_let, pu_jn, pu_bd, pu_ocs, pu_ocn, pu_gdt, pe_gd, pe_clamp, pe_eq, pe_le, pe_lt, pe_pos, pe_neg, nI_add, nn_mul, pe_sub, pb_0, pb_1, pb_z, pe_ieq, pe_ine, pe_ik, pP_si, pS_si, pn_si, ps_si, pL_si, ite_not, pe_gdd, pe_lle, decide_true, ofNat_nI, pe_srI, pe_srN, pe_srS, pe_srP, pl_0, pl_1, pl_2, pl_3, pl_4, pl_5, pl_6, pl_7, pl_8, pl_9, pl_10, pl_11, pl_12, pl_13, pl_14, pl_15, pl_16, pl_17, pl_18, pl_19, pl_20, pl_21, pl_22, pl_23, pl_24, pl_25, pl_26, pl_27, pl_28, pl_29, pl_30, pl_31, pl_32, pl_34, pl_36, pl_37, pl_40, pl_41, pl_42, pl_43, pl_45, pl_47, pl_48, pl_50, pl_57, pl_59, pl_60, pl_61, pl_62, pl_64, pl_70, pl_91, pl_93, pl_97, pl_98, pl_99, pl_100, pl_106, pl_122, pl_128, pl_136, pl_142, pl_165, pl_168, pl_170, pl_171, pl_173, pl_175, pl_187, pl_188, pl_189, pl_190, pl_206, pl_211, pl_219, pl_229, pl_255, pl_260, pl_400, pl_500, pl_512, pl_900, pl_999, pl_1000, pl_1001, pl_1005, pl_1020, pl_1023, pl_1024, pl_1103, pl_2000, pl_2040, pl_2176, pl_5660, pl_9999, pl_12345, pl_1000000, pl_1000003, pl_100000000, pl_1000000000, e, sub64 n (by omega), q12_in]
  rw [pb_congr (pW_iff (by omega) a)]
theorem q10_isFull {n : Nat} (hn : n ≤ 16) {g : am_G} (e : am_I g 12 4 = nI n) : fX10_isFull g = some (pb (n = 16), g) := by
  unfold fX10_isFull
  simp (disch := first | omega | assumption | decide) only [pu_let, pu_jn, pu_bd, pu_ocs, pu_ocn, pu_gdt, pe_gd, pe_clamp, pe_eq, pe_le, pe_lt, pe_pos, pe_neg, nI_add, nn_mul, pe_sub, pb_0, pb_1, pb_z, pe_ieq, pe_ine, pe_ik, pP_si, pS_si, pn_si, ps_si, pL_si, ite_not, pe_gdd, pe_lle, decide_true, ofNat_nI, pe_srI, pe_srN, pe_srS, pe_srP, pl_0, pl_1, pl_2, pl_3, pl_4, pl_5, pl_6, pl_7, pl_8, pl_9, pl_10, pl_11, pl_12, pl_13, pl_14, pl_15, pl_16, pl_17, pl_18, pl_19, pl_20, pl_21, pl_22, pl_23, pl_24, pl_25, pl_26, pl_27, pl_28, pl_29, pl_30, pl_31, pl_32, pl_34, pl_36, pl_37, pl_40, pl_41, pl_42, pl_43, pl_45, pl_47, pl_48, pl_50, pl_57, pl_59, pl_60, pl_61, pl_62, pl_64, pl_70, pl_91, pl_93, pl_97, pl_98, pl_99, pl_100, pl_106, pl_122, pl_128, pl_136, pl_142, pl_165, pl_168, pl_170, pl_171, pl_173, pl_175, pl_187, pl_188, pl_189, pl_190, pl_206, pl_211, pl_219, pl_229, pl_255, pl_260, pl_400, pl_500, pl_512, pl_900, pl_999, pl_1000, pl_1001, pl_1005, pl_1020, pl_1023, pl_1024, pl_1103, pl_2000, pl_2040, pl_2176, pl_5660, pl_9999, pl_12345, pl_1000000, pl_1000003, pl_100000000, pl_1000000000, e]
  unfold pb
  by_cases h : n = 16
  · subst h; rfl
  · rw [if_neg h, if_pos (by omega)]
theorem q12_ofWord {w c : Nat} (hw : w < 16) (hc : c < 4) (g : am_G) : fX12_ofWord (nI w) (nI c) g = some (am_I g 2 (142 + 4 * w + c), g) := by
  unfold fX12_ofWord
  simp (disch := first | omega | assumption | decide) only [pu_let, pu_jn, pu_bd, pu_ocs, pu_ocn, pu_gdt, pe_gd, pe_clamp, pe_eq, pe_le, pe_lt, pe_pos, pe_neg, nI_add, nn_mul, pe_sub, pb_0, pb_1, pb_z, pe_ieq, pe_ine, pe_ik, pP_si, pS_si, pn_si, ps_si, pL_si, ite_not, pe_gdd, pe_lle, decide_true, ofNat_nI, pe_srI, pe_srN, pe_srS, pe_srP, pl_0, pl_1, pl_2, pl_3, pl_4, pl_5, pl_6, pl_7, pl_8, pl_9, pl_10, pl_11, pl_12, pl_13, pl_14, pl_15, pl_16, pl_17, pl_18, pl_19, pl_20, pl_21, pl_22, pl_23, pl_24, pl_25, pl_26, pl_27, pl_28, pl_29, pl_30, pl_31, pl_32, pl_34, pl_36, pl_37, pl_40, pl_41, pl_42, pl_43, pl_45, pl_47, pl_48, pl_50, pl_57, pl_59, pl_60, pl_61, pl_62, pl_64, pl_70, pl_91, pl_93, pl_97, pl_98, pl_99, pl_100, pl_106, pl_122, pl_128, pl_136, pl_142, pl_165, pl_168, pl_170, pl_171, pl_173, pl_175, pl_187, pl_188, pl_189, pl_190, pl_206, pl_211, pl_219, pl_229, pl_255, pl_260, pl_400, pl_500, pl_512, pl_900, pl_999, pl_1000, pl_1001, pl_1005, pl_1020, pl_1023, pl_1024, pl_1103, pl_2000, pl_2040, pl_2176, pl_5660, pl_9999, pl_12345, pl_1000000, pl_1000003, pl_100000000, pl_1000000000]
theorem q64 (k : Nat) : (OfNat.ofNat k : Int64) = OfNat.ofNat k := rfl
theorem q12_word1 {n : Nat} (hn : n ≤ 16) (a b c : Int32) {g : am_G} (e : am_I g 2 0 = nI n) : fX12_word1 a b c g = (if (nI 1 ≤ a ∧ a ≤ nI 9) ∧ (nI 0 ≤ b ∧ b ≤ nI 9) ∧ (nI 0 ≤ c ∧ c ≤ nI 7) then (if n = 16 then some (-nI 5, g) else some (nI n, am_si (am_si (am_si (am_si (am_si g 2 (142 + 4 * n) a) 2 (142 + 4 * n + 1) b) 2 (142 + 4 * n + 2) c) 2 (142 + 4 * n + 3) (nI 0)) 2 0 (nI (n + 1)))) else some (-nI 1, g)) := by
  unfold fX12_word1
  rw [show (0 : Int64) = (nI 0).toInt64 from rfl, show (1 : Int64) = (nI 1).toInt64 from rfl, show (9 : Int64) = (nI 9).toInt64 from rfl, show (7 : Int64) = (nI 7).toInt64 from rfl]
  simp (disch := first | omega | assumption | decide) only [pu_let, pu_jn, pu_bd, pu_ocs, pu_ocn, pu_gdt, pe_gd, pe_clamp, pe_eq, pe_le, pe_lt, pe_pos, pe_neg, nI_add, nn_mul, pe_sub, pb_0, pb_1, pb_z, pe_ieq, pe_ine, pe_ik, pP_si, pS_si, pn_si, ps_si, pL_si, ite_not, pe_gdd, pe_lle, decide_true, ofNat_nI, pe_srI, pe_srN, pe_srS, pe_srP, pl_0, pl_1, pl_2, pl_3, pl_4, pl_5, pl_6, pl_7, pl_8, pl_9, pl_10, pl_11, pl_12, pl_13, pl_14, pl_15, pl_16, pl_17, pl_18, pl_19, pl_20, pl_21, pl_22, pl_23, pl_24, pl_25, pl_26, pl_27, pl_28, pl_29, pl_30, pl_31, pl_32, pl_34, pl_36, pl_37, pl_40, pl_41, pl_42, pl_43, pl_45, pl_47, pl_48, pl_50, pl_57, pl_59, pl_60, pl_61, pl_62, pl_64, pl_70, pl_91, pl_93, pl_97, pl_98, pl_99, pl_100, pl_106, pl_122, pl_128, pl_136, pl_142, pl_165, pl_168, pl_170, pl_171, pl_173, pl_175, pl_187, pl_188, pl_189, pl_190, pl_206, pl_211, pl_219, pl_229, pl_255, pl_260, pl_400, pl_500, pl_512, pl_900, pl_999, pl_1000, pl_1001, pl_1005, pl_1020, pl_1023, pl_1024, pl_1103, pl_2000, pl_2040, pl_2176, pl_5660, pl_9999, pl_12345, pl_1000000, pl_1000003, pl_100000000, pl_1000000000, e, q12_in]
  by_cases h1 : nI 1 ≤ a ∧ a ≤ nI 9 <;> by_cases h2 : nI 0 ≤ b ∧ b ≤ nI 9 <;> by_cases h3 : nI 0 ≤ c ∧ c ≤ nI 7 <;> simp only [h1, h2, h3, if_true, if_false, and_true, and_false, true_and, false_and]
theorem q11_refused {k : Nat} (hk : k < 7) (g : am_G) : fX11_refused (-nI k) g = some (-nI k, refC k g) := s11_refused hk g
theorem q12_tellN {k : Nat} (h0 : 0 < k) (hk : k < 7) (g : am_G) : fX12_tell (-nI k) g = some (-nI k, refR k g) := s12_tellN h0 hk g
theorem q12_tellP {n : Nat} (hn : n < 2147483648) (g : am_G) : fX12_tell (nI n) g = some (nI n, accR g) := s12_tellP (nI_le (a := 0) (Nat.zero_le _) hn) g
theorem q12_change {j : Nat} (hj : j < 5660) (x : Int32) (g : am_G) : fX12_change (nI j) x g = some (am_I g 2 j, accR (am_si g 2 j x)) := s12_change hj x g
theorem thr_0 (g : am_G) : am_si g 0 0 (nI 0) = thr g := rfl
theorem thr_2 (g : am_G) (j : Nat) : am_I (thr g) 2 j = am_I g 2 j := rfl
theorem thr_0k (g : am_G) (k : Nat) (h : k ≠ 0) : am_I (thr g) 0 k = am_I g 0 k := pe_ik h
theorem m_word {t : Nat} {gc gr : am_G} (h : Rc gc gr) (hi : Inv t gr) (a1 a2 a3 : Int32) : ∃ (v : Int32) (gc1 gr1 : am_G), fX11_word a1 a2 a3 gc = some (v, gc1) ∧ fX12_word a1 a2 a3 gr = some (v, gr1) ∧ Sm t gc gr gc1 gr1 := by
  have hS := Sm.same h hi
  obtain ⟨⟨n, hn, en⟩, -⟩ := hi.cnt
  have ec : am_I gc 12 4 = nI n := (h.at (ra := 2) (rk := 0) (by decide +kernel)).trans en
  have et : am_I (thr gr) 2 0 = nI n := en
  by_cases hc : (nI 1 ≤ a1 ∧ a1 ≤ nI 9) ∧ (nI 0 ≤ a2 ∧ a2 ≤ nI 9) ∧ (nI 0 ≤ a3 ∧ a3 ≤ nI 7)
  · by_cases hf : n = 16
    · refine ⟨-nI 5, refC 5 gc, refR 5 (thr gr), ?_, ?_, hS.refu (by decide)⟩
      · unfold fX11_word
        simp (disch := first | omega | assumption | decide) only [pu_let, pu_jn, pu_bd, pu_ocs, pu_ocn, pu_gdt, pe_gd, pe_clamp, pe_eq, pe_le, pe_lt, pe_pos, pe_neg, nI_add, nn_mul, pe_sub, pb_0, pb_1, pb_z, pe_ieq, pe_ine, pe_ik, pP_si, pS_si, pn_si, ps_si, pL_si, ite_not, pe_gdd, pe_lle, decide_true, ofNat_nI, pe_srI, pe_srN, pe_srS, pe_srP, pl_0, pl_1, pl_2, pl_3, pl_4, pl_5, pl_6, pl_7, pl_8, pl_9, pl_10, pl_11, pl_12, pl_13, pl_14, pl_15, pl_16, pl_17, pl_18, pl_19, pl_20, pl_21, pl_22, pl_23, pl_24, pl_25, pl_26, pl_27, pl_28, pl_29, pl_30, pl_31, pl_32, pl_34, pl_36, pl_37, pl_40, pl_41, pl_42, pl_43, pl_45, pl_47, pl_48, pl_50, pl_57, pl_59, pl_60, pl_61, pl_62, pl_64, pl_70, pl_91, pl_93, pl_97, pl_98, pl_99, pl_100, pl_106, pl_122, pl_128, pl_136, pl_142, pl_165, pl_168, pl_170, pl_171, pl_173, pl_175, pl_187, pl_188, pl_189, pl_190, pl_206, pl_211, pl_219, pl_229, pl_255, pl_260, pl_400, pl_500, pl_512, pl_900, pl_999, pl_1000, pl_1001, pl_1005, pl_1020, pl_1023, pl_1024, pl_1103, pl_2000, pl_2040, pl_2176, pl_5660, pl_9999, pl_12345, pl_1000000, pl_1000003, pl_100000000, pl_1000000000, q10_canBe, q10_isFull hn ec, q11_refused]
      · unfold fX12_word
        simp (disch := first | omega | assumption | decide) only [pu_let, pu_jn, pu_bd, pu_ocs, pu_ocn, pu_gdt, pe_gd, pe_clamp, pe_eq, pe_le, pe_lt, pe_pos, pe_neg, nI_add, nn_mul, pe_sub, pb_0, pb_1, pb_z, pe_ieq, pe_ine, pe_ik, pP_si, pS_si, pn_si, ps_si, pL_si, ite_not, pe_gdd, pe_lle, decide_true, ofNat_nI, pe_srI, pe_srN, pe_srS, pe_srP, pl_0, pl_1, pl_2, pl_3, pl_4, pl_5, pl_6, pl_7, pl_8, pl_9, pl_10, pl_11, pl_12, pl_13, pl_14, pl_15, pl_16, pl_17, pl_18, pl_19, pl_20, pl_21, pl_22, pl_23, pl_24, pl_25, pl_26, pl_27, pl_28, pl_29, pl_30, pl_31, pl_32, pl_34, pl_36, pl_37, pl_40, pl_41, pl_42, pl_43, pl_45, pl_47, pl_48, pl_50, pl_57, pl_59, pl_60, pl_61, pl_62, pl_64, pl_70, pl_91, pl_93, pl_97, pl_98, pl_99, pl_100, pl_106, pl_122, pl_128, pl_136, pl_142, pl_165, pl_168, pl_170, pl_171, pl_173, pl_175, pl_187, pl_188, pl_189, pl_190, pl_206, pl_211, pl_219, pl_229, pl_255, pl_260, pl_400, pl_500, pl_512, pl_900, pl_999, pl_1000, pl_1001, pl_1005, pl_1020, pl_1023, pl_1024, pl_1103, pl_2000, pl_2040, pl_2176, pl_5660, pl_9999, pl_12345, pl_1000000, pl_1000003, pl_100000000, pl_1000000000, thr_0, q12_word1 hn a1 a2 a3 et, q12_tellN]
    · have hn' : n < 16 := by omega
      obtain ⟨⟨h1, h1'⟩, h2, h3⟩ := hc
      obtain ⟨m1, hm1, rfl⟩ := nn_rng (n := 9) (by decide) ⟨Int32.le_trans (by decide) h1, h1'⟩
      obtain ⟨m2, hm2, rfl⟩ := nn_rng (n := 9) (by decide) h2
      obtain ⟨m3, hm3, rfl⟩ := nn_rng (n := 7) (by decide) h3
      have h1n : 1 ≤ m1 := (nI_leI (a := 1) (by decide) (by omega)).mp h1
      have s1 := hS.w (om_word n hn' 0 (by decide)) (okAt_word hn' (by decide) (m := m1) (by simpa using hm1)) (by omega) (by unfold npk; omega)
      have s2 := s1.w (om_word n hn' 1 (by decide)) (okAt_word hn' (by decide) (m := m2) (by simpa using hm2)) (by omega) (by unfold npk; omega)
      have s3 := s2.w (om_word n hn' 2 (by decide)) (okAt_word hn' (by decide) (m := m3) (by simpa using hm3)) (by omega) (by unfold npk; omega)
      have s4 := s3.w (om_word n hn' 3 (by decide)) (okAt_word hn' (by decide) (m := 0) (by simp)) (by omega) (by unfold npk; omega)
      have s5 := s4.w (J := 0) (ca := 12) (ck := 4) (by decide +kernel) (x := nI (n + 1)) (okAt_of (n := 16) (by decide) rfl rfl (by omega) (by decide)) (by decide) (by unfold npk; omega)
      refine ⟨nI n, _, _, ?_, ?_, s5.acc⟩
      · unfold fX11_word
        simp (disch := first | omega | assumption | decide) only [pu_let, pu_jn, pu_bd, pu_ocs, pu_ocn, pu_gdt, pe_gd, pe_clamp, pe_eq, pe_le, pe_lt, pe_pos, pe_neg, nI_add, nn_mul, pe_sub, pb_0, pb_1, pb_z, pe_ieq, pe_ine, pe_ik, pP_si, pS_si, pn_si, ps_si, pL_si, ite_not, pe_gdd, pe_lle, decide_true, ofNat_nI, pe_srI, pe_srN, pe_srS, pe_srP, pl_0, pl_1, pl_2, pl_3, pl_4, pl_5, pl_6, pl_7, pl_8, pl_9, pl_10, pl_11, pl_12, pl_13, pl_14, pl_15, pl_16, pl_17, pl_18, pl_19, pl_20, pl_21, pl_22, pl_23, pl_24, pl_25, pl_26, pl_27, pl_28, pl_29, pl_30, pl_31, pl_32, pl_34, pl_36, pl_37, pl_40, pl_41, pl_42, pl_43, pl_45, pl_47, pl_48, pl_50, pl_57, pl_59, pl_60, pl_61, pl_62, pl_64, pl_70, pl_91, pl_93, pl_97, pl_98, pl_99, pl_100, pl_106, pl_122, pl_128, pl_136, pl_142, pl_165, pl_168, pl_170, pl_171, pl_173, pl_175, pl_187, pl_188, pl_189, pl_190, pl_206, pl_211, pl_219, pl_229, pl_255, pl_260, pl_400, pl_500, pl_512, pl_900, pl_999, pl_1000, pl_1001, pl_1005, pl_1020, pl_1023, pl_1024, pl_1103, pl_2000, pl_2040, pl_2176, pl_5660, pl_9999, pl_12345, pl_1000000, pl_1000003, pl_100000000, pl_1000000000, q10_canBe, q10_isFull hn ec, q10_coin hn' _ _ _ ec, s11_accepted, true_and, and_true]
      · unfold fX12_word
        simp (disch := first | omega | assumption | decide) only [pu_let, pu_jn, pu_bd, pu_ocs, pu_ocn, pu_gdt, pe_gd, pe_clamp, pe_eq, pe_le, pe_lt, pe_pos, pe_neg, nI_add, nn_mul, pe_sub, pb_0, pb_1, pb_z, pe_ieq, pe_ine, pe_ik, pP_si, pS_si, pn_si, ps_si, pL_si, ite_not, pe_gdd, pe_lle, decide_true, ofNat_nI, pe_srI, pe_srN, pe_srS, pe_srP, pl_0, pl_1, pl_2, pl_3, pl_4, pl_5, pl_6, pl_7, pl_8, pl_9, pl_10, pl_11, pl_12, pl_13, pl_14, pl_15, pl_16, pl_17, pl_18, pl_19, pl_20, pl_21, pl_22, pl_23, pl_24, pl_25, pl_26, pl_27, pl_28, pl_29, pl_30, pl_31, pl_32, pl_34, pl_36, pl_37, pl_40, pl_41, pl_42, pl_43, pl_45, pl_47, pl_48, pl_50, pl_57, pl_59, pl_60, pl_61, pl_62, pl_64, pl_70, pl_91, pl_93, pl_97, pl_98, pl_99, pl_100, pl_106, pl_122, pl_128, pl_136, pl_142, pl_165, pl_168, pl_170, pl_171, pl_173, pl_175, pl_187, pl_188, pl_189, pl_190, pl_206, pl_211, pl_219, pl_229, pl_255, pl_260, pl_400, pl_500, pl_512, pl_900, pl_999, pl_1000, pl_1001, pl_1005, pl_1020, pl_1023, pl_1024, pl_1103, pl_2000, pl_2040, pl_2176, pl_5660, pl_9999, pl_12345, pl_1000000, pl_1000003, pl_100000000, pl_1000000000, thr_0, q12_word1 hn _ _ _ et, q12_tellP, true_and, and_true]
        rfl
  · refine ⟨-nI 1, refC 1 gc, refR 1 (thr gr), ?_, ?_, hS.refu (by decide)⟩
    · unfold fX11_word
      simp (disch := first | omega | assumption | decide) only [pu_let, pu_jn, pu_bd, pu_ocs, pu_ocn, pu_gdt, pe_gd, pe_clamp, pe_eq, pe_le, pe_lt, pe_pos, pe_neg, nI_add, nn_mul, pe_sub, pb_0, pb_1, pb_z, pe_ieq, pe_ine, pe_ik, pP_si, pS_si, pn_si, ps_si, pL_si, ite_not, pe_gdd, pe_lle, decide_true, ofNat_nI, pe_srI, pe_srN, pe_srS, pe_srP, pl_0, pl_1, pl_2, pl_3, pl_4, pl_5, pl_6, pl_7, pl_8, pl_9, pl_10, pl_11, pl_12, pl_13, pl_14, pl_15, pl_16, pl_17, pl_18, pl_19, pl_20, pl_21, pl_22, pl_23, pl_24, pl_25, pl_26, pl_27, pl_28, pl_29, pl_30, pl_31, pl_32, pl_34, pl_36, pl_37, pl_40, pl_41, pl_42, pl_43, pl_45, pl_47, pl_48, pl_50, pl_57, pl_59, pl_60, pl_61, pl_62, pl_64, pl_70, pl_91, pl_93, pl_97, pl_98, pl_99, pl_100, pl_106, pl_122, pl_128, pl_136, pl_142, pl_165, pl_168, pl_170, pl_171, pl_173, pl_175, pl_187, pl_188, pl_189, pl_190, pl_206, pl_211, pl_219, pl_229, pl_255, pl_260, pl_400, pl_500, pl_512, pl_900, pl_999, pl_1000, pl_1001, pl_1005, pl_1020, pl_1023, pl_1024, pl_1103, pl_2000, pl_2040, pl_2176, pl_5660, pl_9999, pl_12345, pl_1000000, pl_1000003, pl_100000000, pl_1000000000, q10_canBe, q10_isFull hn ec, q11_refused]
    · unfold fX12_word
      simp (disch := first | omega | assumption | decide) only [pu_let, pu_jn, pu_bd, pu_ocs, pu_ocn, pu_gdt, pe_gd, pe_clamp, pe_eq, pe_le, pe_lt, pe_pos, pe_neg, nI_add, nn_mul, pe_sub, pb_0, pb_1, pb_z, pe_ieq, pe_ine, pe_ik, pP_si, pS_si, pn_si, ps_si, pL_si, ite_not, pe_gdd, pe_lle, decide_true, ofNat_nI, pe_srI, pe_srN, pe_srS, pe_srP, pl_0, pl_1, pl_2, pl_3, pl_4, pl_5, pl_6, pl_7, pl_8, pl_9, pl_10, pl_11, pl_12, pl_13, pl_14, pl_15, pl_16, pl_17, pl_18, pl_19, pl_20, pl_21, pl_22, pl_23, pl_24, pl_25, pl_26, pl_27, pl_28, pl_29, pl_30, pl_31, pl_32, pl_34, pl_36, pl_37, pl_40, pl_41, pl_42, pl_43, pl_45, pl_47, pl_48, pl_50, pl_57, pl_59, pl_60, pl_61, pl_62, pl_64, pl_70, pl_91, pl_93, pl_97, pl_98, pl_99, pl_100, pl_106, pl_122, pl_128, pl_136, pl_142, pl_165, pl_168, pl_170, pl_171, pl_173, pl_175, pl_187, pl_188, pl_189, pl_190, pl_206, pl_211, pl_219, pl_229, pl_255, pl_260, pl_400, pl_500, pl_512, pl_900, pl_999, pl_1000, pl_1001, pl_1005, pl_1020, pl_1023, pl_1024, pl_1103, pl_2000, pl_2040, pl_2176, pl_5660, pl_9999, pl_12345, pl_1000000, pl_1000003, pl_100000000, pl_1000000000, thr_0, q12_word1 hn a1 a2 a3 et, q12_tellN]
