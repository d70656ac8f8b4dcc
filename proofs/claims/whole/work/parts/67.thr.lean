/-! ===== threat ===== -/
def isW (sh : Nat → Nat) (T : Nat → Bool) (w m : Nat) : Bool := decide (0 < sh w) && decide (sh w ≤ m) && !(T (m - sh w))
def anyN (sh : Nat → Nat) (T : Nat → Bool) (m : Nat) : Nat → Bool
  | 0 => false
  | k + 1 => anyN sh T m k || isW sh T k m
def wT (sh : Nat → Nat) (n : Nat) : Nat → Nat → Bool
  | 0 => fun _ => false
  | m + 1 => am_up (wT sh n m) m (anyN sh (wT sh n m) m n)
def win (sh : Nat → Nat) (n m : Nat) : Bool := wT sh n (m + 1) m
theorem wT_st (sh : Nat → Nat) (n : Nat) {j : Nat} : ∀ m, j < m → wT sh n m j = win sh n j
  | 0, h => absurd h (by omega)
  | m + 1, h => by
    by_cases e : j = m
    · subst e; rfl
    · rw [wT, am_up_ne e]; exact wT_st sh n m (by omega)
theorem isW_cg {sh : Nat → Nat} {T T' : Nat → Bool} {w m : Nat} (h : ∀ j, j < m → T j = T' j) : isW sh T w m = isW sh T' w m := by
  unfold isW
  by_cases h1 : 0 < sh w
  · by_cases h2 : sh w ≤ m
    · rw [h (m - sh w) (by omega)]
    · simp [h2]
  · simp [h1]
theorem anyN_cg {sh : Nat → Nat} {T T' : Nat → Bool} {m : Nat} (h : ∀ j, j < m → T j = T' j) : ∀ k, anyN sh T m k = anyN sh T' m k
  | 0 => rfl
  | k + 1 => by rw [anyN, anyN, anyN_cg h k, isW_cg h]
theorem win_eq (sh : Nat → Nat) (n m : Nat) : win sh n m = anyN sh (win sh n) m n := by
  show wT sh n (m + 1) m = _
  rw [wT, am_up_eq]
  exact anyN_cg (fun j hj => wT_st sh n m hj) n
theorem anyN_mono {sh : Nat → Nat} {T : Nat → Bool} {m k : Nat} (h : anyN sh T m k = true) : ∀ n, k ≤ n → anyN sh T m n = true
  | 0, hn => by rw [show k = 0 by omega] at h; exact h
  | n + 1, hn => by
    by_cases e : k = n + 1
    · rw [← e]; exact h
    · rw [anyN, anyN_mono h n (by omega)]; rfl
def cw (sh : Nat → Nat) (T : Nat → Bool) (n m : Nat) : Nat → Nat × Int32
  | 0 => (0, -nI 1)
  | j + 1 => if isW sh T (n - 1 - j) m then ((cw sh T n m j).1 + 1, nI (n - 1 - j)) else cw sh T n m j
theorem cw_le (sh : Nat → Nat) (T : Nat → Bool) (n m : Nat) : ∀ j, (cw sh T n m j).1 ≤ j
  | 0 => Nat.le_refl _
  | j + 1 => by
    have := cw_le sh T n m j
    rw [cw]
    split
    · show (cw sh T n m j).1 + 1 ≤ j + 1; omega
    · omega
theorem anyN_ex {sh : Nat → Nat} {T : Nat → Bool} {m : Nat} : ∀ n, anyN sh T m n = true ↔ ∃ w, w < n ∧ isW sh T w m = true
  | 0 => ⟨fun h => absurd h (by simp [anyN]), fun ⟨w, hw, _⟩ => absurd hw (by omega)⟩
  | n + 1 => by
    rw [anyN, Bool.or_eq_true, anyN_ex n]
    constructor
    · rintro (⟨w, h1, h2⟩ | h)
      · exact ⟨w, by omega, h2⟩
      · exact ⟨n, by omega, h⟩
    · rintro ⟨w, h1, h2⟩
      by_cases e : w = n
      · subst e; exact Or.inr h2
      · exact Or.inl ⟨w, by omega, h2⟩
theorem cw_ex {sh : Nat → Nat} {T : Nat → Bool} {n m : Nat} : ∀ j, j ≤ n → (0 < (cw sh T n m j).1 ↔ ∃ w, n - j ≤ w ∧ w < n ∧ isW sh T w m = true)
  | 0, _ => ⟨fun h => absurd h (by simp [cw]), fun ⟨w, h1, h2, _⟩ => absurd h2 (by omega)⟩
  | j + 1, hj => by
    have ih := cw_ex (sh := sh) (T := T) (n := n) (m := m) j (by omega)
    rw [cw]
    by_cases h : isW sh T (n - 1 - j) m = true
    · rw [if_pos h]
      exact ⟨fun _ => ⟨n - 1 - j, by omega, by omega, h⟩, fun _ => Nat.succ_pos _⟩
    · rw [if_neg h, ih]
      constructor
      · rintro ⟨w, h1, h2, h3⟩; exact ⟨w, by omega, h2, h3⟩
      · rintro ⟨w, h1, h2, h3⟩
        refine ⟨w, ?_, h2, h3⟩
        have : w ≠ n - 1 - j := fun e => h (by rw [← e]; exact h3)
        omega
theorem pb_bt (b : Bool) : pb (b = true) = if b then nI 1 else nI 0 := by cases b <;> rfl
theorem q12_isWon {g : am_G} {sh : Nat → Nat} {T : Nat → Bool} {m w : Nat} (hw : w < 16) (hm : m < 10000) (hs : am_I g 31 w = nI (sh w)) (hs9 : sh w ≤ 999) (hT : ∀ j, j < m → am_I g 30 j = pb (T j = true)) : fX12_isWon (nI m) (nI w) g = some (pb (isW sh T w m = true), g) := by
  unfold fX12_isWon isW
  by_cases h1 : 0 < sh w
  · by_cases h2 : sh w ≤ m
    · have e := hT (m - sh w) (by omega)
      rw [decide_eq_true h1, decide_eq_true h2]
      cases hb : T (m - sh w)
      · rw [hb] at e
        have e' : am_I g 30 (m - sh w) = nI 0 := e
        simp (disch := first | omega | assumption | decide) only [↓pv_let, ↓pv_jn, ↓reduceIte, pv_bd, ↓pv_ocs, ↓pv_ocn, pv_gdt, pe_gd, pe_clamp, pt_eq, pf_eq, pt_le, pf_le, pt_lt, pf_lt, nI_add, nn_mul, pe_sub, pb_0, pb_1, pb_z, pe_ieq, pe_ine, pe_ik, pP_si, pS_si, pn_si, ps_si, pL_si, decide_true, ofNat_nI, pe_srI, pe_srN, pe_srS, pe_srP, not_true_eq_false, not_false_eq_true, true_and, and_true, and_self, false_and, and_false, nI_m1, nI_ms, Nat.add_sub_cancel, pl_0, pl_1, pl_2, pl_3, pl_4, pl_5, pl_6, pl_7, pl_8, pl_9, pl_10, pl_11, pl_12, pl_13, pl_14, pl_15, pl_16, pl_17, pl_18, pl_19, pl_20, pl_21, pl_22, pl_23, pl_24, pl_25, pl_26, pl_27, pl_28, pl_29, pl_30, pl_31, pl_32, pl_34, pl_36, pl_37, pl_40, pl_41, pl_42, pl_43, pl_45, pl_47, pl_48, pl_50, pl_57, pl_59, pl_60, pl_61, pl_62, pl_64, pl_70, pl_91, pl_93, pl_97, pl_98, pl_99, pl_100, pl_106, pl_122, pl_128, pl_136, pl_142, pl_165, pl_168, pl_170, pl_171, pl_173, pl_175, pl_187, pl_188, pl_189, pl_190, pl_206, pl_211, pl_219, pl_229, pl_255, pl_260, pl_400, pl_500, pl_512, pl_900, pl_999, pl_1000, pl_1001, pl_1005, pl_1020, pl_1023, pl_1024, pl_1103, pl_2000, pl_2040, pl_2176, pl_5660, pl_9999, pl_12345, pl_1000000, pl_1000003, pl_100000000, pl_1000000000, pz_0, pz_1, pz_t, hs, e']
        rfl
      · rw [hb] at e
        have e' : am_I g 30 (m - sh w) = nI 1 := e
        simp (disch := first | omega | assumption | decide) only [↓pv_let, ↓pv_jn, ↓reduceIte, pv_bd, ↓pv_ocs, ↓pv_ocn, pv_gdt, pe_gd, pe_clamp, pt_eq, pf_eq, pt_le, pf_le, pt_lt, pf_lt, nI_add, nn_mul, pe_sub, pb_0, pb_1, pb_z, pe_ieq, pe_ine, pe_ik, pP_si, pS_si, pn_si, ps_si, pL_si, decide_true, ofNat_nI, pe_srI, pe_srN, pe_srS, pe_srP, not_true_eq_false, not_false_eq_true, true_and, and_true, and_self, false_and, and_false, nI_m1, nI_ms, Nat.add_sub_cancel, pl_0, pl_1, pl_2, pl_3, pl_4, pl_5, pl_6, pl_7, pl_8, pl_9, pl_10, pl_11, pl_12, pl_13, pl_14, pl_15, pl_16, pl_17, pl_18, pl_19, pl_20, pl_21, pl_22, pl_23, pl_24, pl_25, pl_26, pl_27, pl_28, pl_29, pl_30, pl_31, pl_32, pl_34, pl_36, pl_37, pl_40, pl_41, pl_42, pl_43, pl_45, pl_47, pl_48, pl_50, pl_57, pl_59, pl_60, pl_61, pl_62, pl_64, pl_70, pl_91, pl_93, pl_97, pl_98, pl_99, pl_100, pl_106, pl_122, pl_128, pl_136, pl_142, pl_165, pl_168, pl_170, pl_171, pl_173, pl_175, pl_187, pl_188, pl_189, pl_190, pl_206, pl_211, pl_219, pl_229, pl_255, pl_260, pl_400, pl_500, pl_512, pl_900, pl_999, pl_1000, pl_1001, pl_1005, pl_1020, pl_1023, pl_1024, pl_1103, pl_2000, pl_2040, pl_2176, pl_5660, pl_9999, pl_12345, pl_1000000, pl_1000003, pl_100000000, pl_1000000000, pz_0, pz_1, pz_t, hs, e']
        rfl
    · rw [decide_eq_false h2]
      simp (disch := first | omega | assumption | decide) only [↓pv_let, ↓pv_jn, ↓reduceIte, pv_bd, ↓pv_ocs, ↓pv_ocn, pv_gdt, pe_gd, pe_clamp, pt_eq, pf_eq, pt_le, pf_le, pt_lt, pf_lt, nI_add, nn_mul, pe_sub, pb_0, pb_1, pb_z, pe_ieq, pe_ine, pe_ik, pP_si, pS_si, pn_si, ps_si, pL_si, decide_true, ofNat_nI, pe_srI, pe_srN, pe_srS, pe_srP, not_true_eq_false, not_false_eq_true, true_and, and_true, and_self, false_and, and_false, nI_m1, nI_ms, Nat.add_sub_cancel, pl_0, pl_1, pl_2, pl_3, pl_4, pl_5, pl_6, pl_7, pl_8, pl_9, pl_10, pl_11, pl_12, pl_13, pl_14, pl_15, pl_16, pl_17, pl_18, pl_19, pl_20, pl_21, pl_22, pl_23, pl_24, pl_25, pl_26, pl_27, pl_28, pl_29, pl_30, pl_31, pl_32, pl_34, pl_36, pl_37, pl_40, pl_41, pl_42, pl_43, pl_45, pl_47, pl_48, pl_50, pl_57, pl_59, pl_60, pl_61, pl_62, pl_64, pl_70, pl_91, pl_93, pl_97, pl_98, pl_99, pl_100, pl_106, pl_122, pl_128, pl_136, pl_142, pl_165, pl_168, pl_170, pl_171, pl_173, pl_175, pl_187, pl_188, pl_189, pl_190, pl_206, pl_211, pl_219, pl_229, pl_255, pl_260, pl_400, pl_500, pl_512, pl_900, pl_999, pl_1000, pl_1001, pl_1005, pl_1020, pl_1023, pl_1024, pl_1103, pl_2000, pl_2040, pl_2176, pl_5660, pl_9999, pl_12345, pl_1000000, pl_1000003, pl_100000000, pl_1000000000, pz_0, pz_1, pz_t, hs]
      simp only [Bool.and_false, Bool.false_and]
      rfl
  · rw [decide_eq_false h1]
    simp (disch := first | omega | assumption | decide) only [↓pv_let, ↓pv_jn, ↓reduceIte, pv_bd, ↓pv_ocs, ↓pv_ocn, pv_gdt, pe_gd, pe_clamp, pt_eq, pf_eq, pt_le, pf_le, pt_lt, pf_lt, nI_add, nn_mul, pe_sub, pb_0, pb_1, pb_z, pe_ieq, pe_ine, pe_ik, pP_si, pS_si, pn_si, ps_si, pL_si, decide_true, ofNat_nI, pe_srI, pe_srN, pe_srS, pe_srP, not_true_eq_false, not_false_eq_true, true_and, and_true, and_self, false_and, and_false, nI_m1, nI_ms, Nat.add_sub_cancel, pl_0, pl_1, pl_2, pl_3, pl_4, pl_5, pl_6, pl_7, pl_8, pl_9, pl_10, pl_11, pl_12, pl_13, pl_14, pl_15, pl_16, pl_17, pl_18, pl_19, pl_20, pl_21, pl_22, pl_23, pl_24, pl_25, pl_26, pl_27, pl_28, pl_29, pl_30, pl_31, pl_32, pl_34, pl_36, pl_37, pl_40, pl_41, pl_42, pl_43, pl_45, pl_47, pl_48, pl_50, pl_57, pl_59, pl_60, pl_61, pl_62, pl_64, pl_70, pl_91, pl_93, pl_97, pl_98, pl_99, pl_100, pl_106, pl_122, pl_128, pl_136, pl_142, pl_165, pl_168, pl_170, pl_171, pl_173, pl_175, pl_187, pl_188, pl_189, pl_190, pl_206, pl_211, pl_219, pl_229, pl_255, pl_260, pl_400, pl_500, pl_512, pl_900, pl_999, pl_1000, pl_1001, pl_1005, pl_1020, pl_1023, pl_1024, pl_1103, pl_2000, pl_2040, pl_2176, pl_5660, pl_9999, pl_12345, pl_1000000, pl_1000003, pl_100000000, pl_1000000000, pz_0, pz_1, pz_t, hs]
    simp only [Bool.false_and]
    rfl
theorem q7_isWin {g : am_G} {sh : Nat → Nat} {T : Nat → Bool} {m w : Nat} (hw : w < 16) (hm : m < 10000) (hs : am_I g 63 w = nI (sh w)) (hs9 : sh w ≤ 999) (hT : ∀ j, j < m → m ≤ j + 1023 → am_I g 64 (j % 1024) = pb (T j = true)) : fX7_isWinning (nI w) (nI m) g = some (pb (isW sh T w m = true), g) := by
  unfold fX7_isWinning isW
  by_cases h1 : 0 < sh w
  · by_cases h2 : sh w ≤ m
    · have e := hT (m - sh w) (by omega) (by omega)
      have hmd : (m - sh w) % 1024 < 1024 := Nat.mod_lt _ (by decide)
      rw [decide_eq_true h1, decide_eq_true h2]
      cases hb : T (m - sh w)
      · rw [hb] at e
        have e' : am_I g 64 ((m - sh w) % 1024) = nI 0 := e
        simp (disch := first | omega | assumption | decide) only [↓pv_let, ↓pv_jn, ↓reduceIte, pv_bd, ↓pv_ocs, ↓pv_ocn, pv_gdt, pe_gd, pe_clamp, pt_eq, pf_eq, pt_le, pf_le, pt_lt, pf_lt, nI_add, nn_mul, pe_sub, pb_0, pb_1, pb_z, pe_ieq, pe_ine, pe_ik, pP_si, pS_si, pn_si, ps_si, pL_si, decide_true, ofNat_nI, pe_srI, pe_srN, pe_srS, pe_srP, not_true_eq_false, not_false_eq_true, true_and, and_true, and_self, false_and, and_false, nI_m1, nI_ms, Nat.add_sub_cancel, pl_0, pl_1, pl_2, pl_3, pl_4, pl_5, pl_6, pl_7, pl_8, pl_9, pl_10, pl_11, pl_12, pl_13, pl_14, pl_15, pl_16, pl_17, pl_18, pl_19, pl_20, pl_21, pl_22, pl_23, pl_24, pl_25, pl_26, pl_27, pl_28, pl_29, pl_30, pl_31, pl_32, pl_34, pl_36, pl_37, pl_40, pl_41, pl_42, pl_43, pl_45, pl_47, pl_48, pl_50, pl_57, pl_59, pl_60, pl_61, pl_62, pl_64, pl_70, pl_91, pl_93, pl_97, pl_98, pl_99, pl_100, pl_106, pl_122, pl_128, pl_136, pl_142, pl_165, pl_168, pl_170, pl_171, pl_173, pl_175, pl_187, pl_188, pl_189, pl_190, pl_206, pl_211, pl_219, pl_229, pl_255, pl_260, pl_400, pl_500, pl_512, pl_900, pl_999, pl_1000, pl_1001, pl_1005, pl_1020, pl_1023, pl_1024, pl_1103, pl_2000, pl_2040, pl_2176, pl_5660, pl_9999, pl_12345, pl_1000000, pl_1000003, pl_100000000, pl_1000000000, pz_0, pz_1, pz_t, hs, prem, e']
        rfl
      · rw [hb] at e
        have e' : am_I g 64 ((m - sh w) % 1024) = nI 1 := e
        simp (disch := first | omega | assumption | decide) only [↓pv_let, ↓pv_jn, ↓reduceIte, pv_bd, ↓pv_ocs, ↓pv_ocn, pv_gdt, pe_gd, pe_clamp, pt_eq, pf_eq, pt_le, pf_le, pt_lt, pf_lt, nI_add, nn_mul, pe_sub, pb_0, pb_1, pb_z, pe_ieq, pe_ine, pe_ik, pP_si, pS_si, pn_si, ps_si, pL_si, decide_true, ofNat_nI, pe_srI, pe_srN, pe_srS, pe_srP, not_true_eq_false, not_false_eq_true, true_and, and_true, and_self, false_and, and_false, nI_m1, nI_ms, Nat.add_sub_cancel, pl_0, pl_1, pl_2, pl_3, pl_4, pl_5, pl_6, pl_7, pl_8, pl_9, pl_10, pl_11, pl_12, pl_13, pl_14, pl_15, pl_16, pl_17, pl_18, pl_19, pl_20, pl_21, pl_22, pl_23, pl_24, pl_25, pl_26, pl_27, pl_28, pl_29, pl_30, pl_31, pl_32, pl_34, pl_36, pl_37, pl_40, pl_41, pl_42, pl_43, pl_45, pl_47, pl_48, pl_50, pl_57, pl_59, pl_60, pl_61, pl_62, pl_64, pl_70, pl_91, pl_93, pl_97, pl_98, pl_99, pl_100, pl_106, pl_122, pl_128, pl_136, pl_142, pl_165, pl_168, pl_170, pl_171, pl_173, pl_175, pl_187, pl_188, pl_189, pl_190, pl_206, pl_211, pl_219, pl_229, pl_255, pl_260, pl_400, pl_500, pl_512, pl_900, pl_999, pl_1000, pl_1001, pl_1005, pl_1020, pl_1023, pl_1024, pl_1103, pl_2000, pl_2040, pl_2176, pl_5660, pl_9999, pl_12345, pl_1000000, pl_1000003, pl_100000000, pl_1000000000, pz_0, pz_1, pz_t, hs, prem, e']
        rfl
    · rw [decide_eq_false h2]
      simp (disch := first | omega | assumption | decide) only [↓pv_let, ↓pv_jn, ↓reduceIte, pv_bd, ↓pv_ocs, ↓pv_ocn, pv_gdt, pe_gd, pe_clamp, pt_eq, pf_eq, pt_le, pf_le, pt_lt, pf_lt, nI_add, nn_mul, pe_sub, pb_0, pb_1, pb_z, pe_ieq, pe_ine, pe_ik, pP_si, pS_si, pn_si, ps_si, pL_si, decide_true, ofNat_nI, pe_srI, pe_srN, pe_srS, pe_srP, not_true_eq_false, not_false_eq_true, true_and, and_true, and_self, false_and, and_false, nI_m1, nI_ms, Nat.add_sub_cancel, pl_0, pl_1, pl_2, pl_3, pl_4, pl_5, pl_6, pl_7, pl_8, pl_9, pl_10, pl_11, pl_12, pl_13, pl_14, pl_15, pl_16, pl_17, pl_18, pl_19, pl_20, pl_21, pl_22, pl_23, pl_24, pl_25, pl_26, pl_27, pl_28, pl_29, pl_30, pl_31, pl_32, pl_34, pl_36, pl_37, pl_40, pl_41, pl_42, pl_43, pl_45, pl_47, pl_48, pl_50, pl_57, pl_59, pl_60, pl_61, pl_62, pl_64, pl_70, pl_91, pl_93, pl_97, pl_98, pl_99, pl_100, pl_106, pl_122, pl_128, pl_136, pl_142, pl_165, pl_168, pl_170, pl_171, pl_173, pl_175, pl_187, pl_188, pl_189, pl_190, pl_206, pl_211, pl_219, pl_229, pl_255, pl_260, pl_400, pl_500, pl_512, pl_900, pl_999, pl_1000, pl_1001, pl_1005, pl_1020, pl_1023, pl_1024, pl_1103, pl_2000, pl_2040, pl_2176, pl_5660, pl_9999, pl_12345, pl_1000000, pl_1000003, pl_100000000, pl_1000000000, pz_0, pz_1, pz_t, hs]
      simp only [Bool.and_false, Bool.false_and]
      rfl
  · rw [decide_eq_false h1]
    simp (disch := first | omega | assumption | decide) only [↓pv_let, ↓pv_jn, ↓reduceIte, pv_bd, ↓pv_ocs, ↓pv_ocn, pv_gdt, pe_gd, pe_clamp, pt_eq, pf_eq, pt_le, pf_le, pt_lt, pf_lt, nI_add, nn_mul, pe_sub, pb_0, pb_1, pb_z, pe_ieq, pe_ine, pe_ik, pP_si, pS_si, pn_si, ps_si, pL_si, decide_true, ofNat_nI, pe_srI, pe_srN, pe_srS, pe_srP, not_true_eq_false, not_false_eq_true, true_and, and_true, and_self, false_and, and_false, nI_m1, nI_ms, Nat.add_sub_cancel, pl_0, pl_1, pl_2, pl_3, pl_4, pl_5, pl_6, pl_7, pl_8, pl_9, pl_10, pl_11, pl_12, pl_13, pl_14, pl_15, pl_16, pl_17, pl_18, pl_19, pl_20, pl_21, pl_22, pl_23, pl_24, pl_25, pl_26, pl_27, pl_28, pl_29, pl_30, pl_31, pl_32, pl_34, pl_36, pl_37, pl_40, pl_41, pl_42, pl_43, pl_45, pl_47, pl_48, pl_50, pl_57, pl_59, pl_60, pl_61, pl_62, pl_64, pl_70, pl_91, pl_93, pl_97, pl_98, pl_99, pl_100, pl_106, pl_122, pl_128, pl_136, pl_142, pl_165, pl_168, pl_170, pl_171, pl_173, pl_175, pl_187, pl_188, pl_189, pl_190, pl_206, pl_211, pl_219, pl_229, pl_255, pl_260, pl_400, pl_500, pl_512, pl_900, pl_999, pl_1000, pl_1001, pl_1005, pl_1020, pl_1023, pl_1024, pl_1103, pl_2000, pl_2040, pl_2176, pl_5660, pl_9999, pl_12345, pl_1000000, pl_1000003, pl_100000000, pl_1000000000, pz_0, pz_1, pz_t, hs]
    simp only [Bool.false_and]
    rfl
/-! the reference's table -/
theorem thrR1 {k : Int32 → am_G → Option (Int32 × am_G)} {a3 x23 : Int32} {sh : Nat → Nat} {nw m : Nat} (hnw : nw ≤ 16) (hm : m < 10000) {g : am_G} (h0 : am_I g 2 0 = nI nw) (hs : ∀ w, w < nw → am_I g 31 w = nI (sh w) ∧ sh w ≤ 999) (hT : ∀ j, j < m → am_I g 30 j = pb (win sh nw j = true)) : ∀ (d w n : Nat), w + d = nw → d < n → fX12_threat_L139 k a3 x23 (nI m) n (pb (anyN sh (win sh nw) m w = true)) (nI w) g = k (pb (anyN sh (win sh nw) m nw = true)) g
  | 0, w, n, hd, hn => by
    obtain ⟨n, rfl⟩ : ∃ n', n = n' + 1 := ⟨n - 1, by omega⟩
    obtain rfl : w = nw := by omega
    rw [fX12_threat_L139]
    simp (disch := first | omega | assumption | decide) only [↓pv_let, ↓pv_jn, ↓reduceIte, pv_bd, ↓pv_ocs, ↓pv_ocn, pv_gdt, pe_gd, pe_clamp, pt_eq, pf_eq, pt_le, pf_le, pt_lt, pf_lt, nI_add, nn_mul, pe_sub, pb_0, pb_1, pb_z, pe_ieq, pe_ine, pe_ik, pP_si, pS_si, pn_si, ps_si, pL_si, decide_true, ofNat_nI, pe_srI, pe_srN, pe_srS, pe_srP, not_true_eq_false, not_false_eq_true, true_and, and_true, and_self, false_and, and_false, nI_m1, nI_ms, Nat.add_sub_cancel, pl_0, pl_1, pl_2, pl_3, pl_4, pl_5, pl_6, pl_7, pl_8, pl_9, pl_10, pl_11, pl_12, pl_13, pl_14, pl_15, pl_16, pl_17, pl_18, pl_19, pl_20, pl_21, pl_22, pl_23, pl_24, pl_25, pl_26, pl_27, pl_28, pl_29, pl_30, pl_31, pl_32, pl_34, pl_36, pl_37, pl_40, pl_41, pl_42, pl_43, pl_45, pl_47, pl_48, pl_50, pl_57, pl_59, pl_60, pl_61, pl_62, pl_64, pl_70, pl_91, pl_93, pl_97, pl_98, pl_99, pl_100, pl_106, pl_122, pl_128, pl_136, pl_142, pl_165, pl_168, pl_170, pl_171, pl_173, pl_175, pl_187, pl_188, pl_189, pl_190, pl_206, pl_211, pl_219, pl_229, pl_255, pl_260, pl_400, pl_500, pl_512, pl_900, pl_999, pl_1000, pl_1001, pl_1005, pl_1020, pl_1023, pl_1024, pl_1103, pl_2000, pl_2040, pl_2176, pl_5660, pl_9999, pl_12345, pl_1000000, pl_1000003, pl_100000000, pl_1000000000, pz_0, pz_1, pz_t, h0]
  | d + 1, w, n, hd, hn => by
    obtain ⟨n, rfl⟩ : ∃ n', n = n' + 1 := ⟨n - 1, by omega⟩
    rw [fX12_threat_L139]
    cases hb : anyN sh (win sh nw) m w
    · have IH := thrR1 (k := k) (a3 := a3) (x23 := x23) hnw hm h0 hs hT d (w + 1) n (by omega) (by omega)
      rw [anyN, hb, Bool.false_or] at IH
      have q := q12_isWon (show w < 16 by omega) hm (hs w (by omega)).1 (hs w (by omega)).2 hT
      rw [← IH, show pb (false = true) = nI 0 from rfl]
      simp (disch := first | omega | assumption | decide) only [↓pv_let, ↓pv_jn, ↓reduceIte, pv_bd, ↓pv_ocs, ↓pv_ocn, pv_gdt, pe_gd, pe_clamp, pt_eq, pf_eq, pt_le, pf_le, pt_lt, pf_lt, nI_add, nn_mul, pe_sub, pb_0, pb_1, pb_z, pe_ieq, pe_ine, pe_ik, pP_si, pS_si, pn_si, ps_si, pL_si, decide_true, ofNat_nI, pe_srI, pe_srN, pe_srS, pe_srP, not_true_eq_false, not_false_eq_true, true_and, and_true, and_self, false_and, and_false, nI_m1, nI_ms, Nat.add_sub_cancel, pl_0, pl_1, pl_2, pl_3, pl_4, pl_5, pl_6, pl_7, pl_8, pl_9, pl_10, pl_11, pl_12, pl_13, pl_14, pl_15, pl_16, pl_17, pl_18, pl_19, pl_20, pl_21, pl_22, pl_23, pl_24, pl_25, pl_26, pl_27, pl_28, pl_29, pl_30, pl_31, pl_32, pl_34, pl_36, pl_37, pl_40, pl_41, pl_42, pl_43, pl_45, pl_47, pl_48, pl_50, pl_57, pl_59, pl_60, pl_61, pl_62, pl_64, pl_70, pl_91, pl_93, pl_97, pl_98, pl_99, pl_100, pl_106, pl_122, pl_128, pl_136, pl_142, pl_165, pl_168, pl_170, pl_171, pl_173, pl_175, pl_187, pl_188, pl_189, pl_190, pl_206, pl_211, pl_219, pl_229, pl_255, pl_260, pl_400, pl_500, pl_512, pl_900, pl_999, pl_1000, pl_1001, pl_1005, pl_1020, pl_1023, pl_1024, pl_1103, pl_2000, pl_2040, pl_2176, pl_5660, pl_9999, pl_12345, pl_1000000, pl_1000003, pl_100000000, pl_1000000000, pz_0, pz_1, pz_t, h0, q]
    · rw [anyN_mono hb nw (by omega), show pb (true = true) = nI 1 from rfl]
      simp (disch := first | omega | assumption | decide) only [↓pv_let, ↓pv_jn, ↓reduceIte, pv_bd, ↓pv_ocs, ↓pv_ocn, pv_gdt, pe_gd, pe_clamp, pt_eq, pf_eq, pt_le, pf_le, pt_lt, pf_lt, nI_add, nn_mul, pe_sub, pb_0, pb_1, pb_z, pe_ieq, pe_ine, pe_ik, pP_si, pS_si, pn_si, ps_si, pL_si, decide_true, ofNat_nI, pe_srI, pe_srN, pe_srS, pe_srP, not_true_eq_false, not_false_eq_true, true_and, and_true, and_self, false_and, and_false, nI_m1, nI_ms, Nat.add_sub_cancel, pl_0, pl_1, pl_2, pl_3, pl_4, pl_5, pl_6, pl_7, pl_8, pl_9, pl_10, pl_11, pl_12, pl_13, pl_14, pl_15, pl_16, pl_17, pl_18, pl_19, pl_20, pl_21, pl_22, pl_23, pl_24, pl_25, pl_26, pl_27, pl_28, pl_29, pl_30, pl_31, pl_32, pl_34, pl_36, pl_37, pl_40, pl_41, pl_42, pl_43, pl_45, pl_47, pl_48, pl_50, pl_57, pl_59, pl_60, pl_61, pl_62, pl_64, pl_70, pl_91, pl_93, pl_97, pl_98, pl_99, pl_100, pl_106, pl_122, pl_128, pl_136, pl_142, pl_165, pl_168, pl_170, pl_171, pl_173, pl_175, pl_187, pl_188, pl_189, pl_190, pl_206, pl_211, pl_219, pl_229, pl_255, pl_260, pl_400, pl_500, pl_512, pl_900, pl_999, pl_1000, pl_1001, pl_1005, pl_1020, pl_1023, pl_1024, pl_1103, pl_2000, pl_2040, pl_2176, pl_5660, pl_9999, pl_12345, pl_1000000, pl_1000003, pl_100000000, pl_1000000000, pz_0, pz_1, pz_t, h0]
theorem thrR2 {a3 : Int32} {sh : Nat → Nat} {nw mg : Nat} (hnw : nw ≤ 16) (hmg : mg < 10000) : ∀ (d m n : Nat) (g : am_G), m + d = mg + 1 → d < n → am_I g 2 0 = nI nw → (∀ w, w < nw → am_I g 31 w = nI (sh w) ∧ sh w ≤ 999) → (∀ j, j < m → am_I g 30 j = pb (win sh nw j = true)) → ∃ f, (∀ k, fX12_threat_L126 k a3 (nI mg) n (nI m) g = k (am_sr g 30 f)) ∧ ∀ j, j ≤ mg → f j = pb (win sh nw j = true)
  | 0, m, n, g, hd, hn, h0, hs, hT => by
    obtain ⟨n, rfl⟩ : ∃ n', n = n' + 1 := ⟨n - 1, by omega⟩
    obtain rfl : m = mg + 1 := by omega
    refine ⟨am_I g 30, fun k => ?_, fun j hj => hT j (by omega)⟩
    rw [sr_self, fX12_threat_L126]
    simp (disch := first | omega | assumption | decide) only [↓pv_let, ↓pv_jn, ↓reduceIte, pv_bd, ↓pv_ocs, ↓pv_ocn, pv_gdt, pe_gd, pe_clamp, pt_eq, pf_eq, pt_le, pf_le, pt_lt, pf_lt, nI_add, nn_mul, pe_sub, pb_0, pb_1, pb_z, pe_ieq, pe_ine, pe_ik, pP_si, pS_si, pn_si, ps_si, pL_si, decide_true, ofNat_nI, pe_srI, pe_srN, pe_srS, pe_srP, not_true_eq_false, not_false_eq_true, true_and, and_true, and_self, false_and, and_false, nI_m1, nI_ms, Nat.add_sub_cancel, pl_0, pl_1, pl_2, pl_3, pl_4, pl_5, pl_6, pl_7, pl_8, pl_9, pl_10, pl_11, pl_12, pl_13, pl_14, pl_15, pl_16, pl_17, pl_18, pl_19, pl_20, pl_21, pl_22, pl_23, pl_24, pl_25, pl_26, pl_27, pl_28, pl_29, pl_30, pl_31, pl_32, pl_34, pl_36, pl_37, pl_40, pl_41, pl_42, pl_43, pl_45, pl_47, pl_48, pl_50, pl_57, pl_59, pl_60, pl_61, pl_62, pl_64, pl_70, pl_91, pl_93, pl_97, pl_98, pl_99, pl_100, pl_106, pl_122, pl_128, pl_136, pl_142, pl_165, pl_168, pl_170, pl_171, pl_173, pl_175, pl_187, pl_188, pl_189, pl_190, pl_206, pl_211, pl_219, pl_229, pl_255, pl_260, pl_400, pl_500, pl_512, pl_900, pl_999, pl_1000, pl_1001, pl_1005, pl_1020, pl_1023, pl_1024, pl_1103, pl_2000, pl_2040, pl_2176, pl_5660, pl_9999, pl_12345, pl_1000000, pl_1000003, pl_100000000, pl_1000000000, pz_0, pz_1, pz_t]
  | d + 1, m, n, g, hd, hn, h0, hs, hT => by
    obtain ⟨n, rfl⟩ : ∃ n', n = n' + 1 := ⟨n - 1, by omega⟩
    have inner := fun kk => thrR1 (k := kk) (a3 := a3) (x23 := nI mg) hnw (show m < 10000 by omega) h0 hs hT nw 0 am_fu (by omega) (by have : am_fu = 1048576 := rfl; omega)
    rw [← win_eq, show pb (anyN sh (win sh nw) m 0 = true) = nI 0 from rfl] at inner
    obtain ⟨f, e, hf⟩ := thrR2 (a3 := a3) hnw hmg d (m + 1) n (am_si g 30 m (pb (win sh nw m = true))) (by omega) (by omega) (by rw [pI_si_ne _ _ _ (by decide)]; exact h0) (fun w hw => by rw [pI_si_ne _ _ _ (by decide)]; exact hs w hw) (fun j hj => by
      by_cases e : j = m
      · subst e; rw [pe_ieq]
      · rw [pe_ik e]; exact hT j (by omega))
    refine ⟨f, fun k => ?_, hf⟩
    have e2 : am_sr (am_si g 30 m (pb (win sh nw m = true))) 30 f = am_sr g 30 f := by
      show am_sr (am_sr g 30 _) 30 f = _
      rw [sr_sr]
    rw [e2] at e
    rw [← e k, fX12_threat_L126]
    simp (disch := first | omega | assumption | decide) only [↓pv_let, ↓pv_jn, ↓reduceIte, pv_bd, ↓pv_ocs, ↓pv_ocn, pv_gdt, pe_gd, pe_clamp, pt_eq, pf_eq, pt_le, pf_le, pt_lt, pf_lt, nI_add, nn_mul, pe_sub, pb_0, pb_1, pb_z, pe_ieq, pe_ine, pe_ik, pP_si, pS_si, pn_si, ps_si, pL_si, decide_true, ofNat_nI, pe_srI, pe_srN, pe_srS, pe_srP, not_true_eq_false, not_false_eq_true, true_and, and_true, and_self, false_and, and_false, nI_m1, nI_ms, Nat.add_sub_cancel, pl_0, pl_1, pl_2, pl_3, pl_4, pl_5, pl_6, pl_7, pl_8, pl_9, pl_10, pl_11, pl_12, pl_13, pl_14, pl_15, pl_16, pl_17, pl_18, pl_19, pl_20, pl_21, pl_22, pl_23, pl_24, pl_25, pl_26, pl_27, pl_28, pl_29, pl_30, pl_31, pl_32, pl_34, pl_36, pl_37, pl_40, pl_41, pl_42, pl_43, pl_45, pl_47, pl_48, pl_50, pl_57, pl_59, pl_60, pl_61, pl_62, pl_64, pl_70, pl_91, pl_93, pl_97, pl_98, pl_99, pl_100, pl_106, pl_122, pl_128, pl_136, pl_142, pl_165, pl_168, pl_170, pl_171, pl_173, pl_175, pl_187, pl_188, pl_189, pl_190, pl_206, pl_211, pl_219, pl_229, pl_255, pl_260, pl_400, pl_500, pl_512, pl_900, pl_999, pl_1000, pl_1001, pl_1005, pl_1020, pl_1023, pl_1024, pl_1103, pl_2000, pl_2040, pl_2176, pl_5660, pl_9999, pl_12345, pl_1000000, pl_1000003, pl_100000000, pl_1000000000, pz_0, pz_1, pz_t, inner, pb_z]
theorem thrR3 {k : Int32 → Int32 → am_G → Option (Int32 × am_G)} {a3 : Int32} {sh : Nat → Nat} {T : Nat → Bool} {nw m : Nat} (hnw : nw ≤ 16) (hm : m < 10000) {g : am_G} (hs : ∀ w, w < nw → am_I g 31 w = nI (sh w) ∧ sh w ≤ 999) (hT : ∀ j, j < m → am_I g 30 j = pb (T j = true)) : ∀ (d j n : Nat), j + d = nw → d < n → fX12_threat_L222 k a3 (nI m) n (nI (cw sh T nw m j).1) (cw sh T nw m j).2 (nI (nw - j) + -nI 1) g = k (nI (cw sh T nw m nw).1) (cw sh T nw m nw).2 g
  | 0, j, n, hd, hn => by
    obtain ⟨n, rfl⟩ : ∃ n', n = n' + 1 := ⟨n - 1, by omega⟩
    obtain rfl : j = nw := by omega
    have hneg : (nI 0 + -nI 1 < nI 0) = True := eq_true (by decide)
    rw [fX12_threat_L222, Nat.sub_self]
    simp (disch := first | omega | assumption | decide) only [↓pv_let, ↓pv_jn, ↓reduceIte, pv_bd, ↓pv_ocs, ↓pv_ocn, pv_gdt, pe_gd, pe_clamp, pt_eq, pf_eq, pt_le, pf_le, pt_lt, pf_lt, nI_add, nn_mul, pe_sub, pb_0, pb_1, pb_z, pe_ieq, pe_ine, pe_ik, pP_si, pS_si, pn_si, ps_si, pL_si, decide_true, ofNat_nI, pe_srI, pe_srN, pe_srS, pe_srP, not_true_eq_false, not_false_eq_true, true_and, and_true, and_self, false_and, and_false, nI_m1, nI_ms, Nat.add_sub_cancel, pl_0, pl_1, pl_2, pl_3, pl_4, pl_5, pl_6, pl_7, pl_8, pl_9, pl_10, pl_11, pl_12, pl_13, pl_14, pl_15, pl_16, pl_17, pl_18, pl_19, pl_20, pl_21, pl_22, pl_23, pl_24, pl_25, pl_26, pl_27, pl_28, pl_29, pl_30, pl_31, pl_32, pl_34, pl_36, pl_37, pl_40, pl_41, pl_42, pl_43, pl_45, pl_47, pl_48, pl_50, pl_57, pl_59, pl_60, pl_61, pl_62, pl_64, pl_70, pl_91, pl_93, pl_97, pl_98, pl_99, pl_100, pl_106, pl_122, pl_128, pl_136, pl_142, pl_165, pl_168, pl_170, pl_171, pl_173, pl_175, pl_187, pl_188, pl_189, pl_190, pl_206, pl_211, pl_219, pl_229, pl_255, pl_260, pl_400, pl_500, pl_512, pl_900, pl_999, pl_1000, pl_1001, pl_1005, pl_1020, pl_1023, pl_1024, pl_1103, pl_2000, pl_2040, pl_2176, pl_5660, pl_9999, pl_12345, pl_1000000, pl_1000003, pl_100000000, pl_1000000000, pz_0, pz_1, pz_t, hneg]
  | d + 1, j, n, hd, hn => by
    obtain ⟨n, rfl⟩ : ∃ n', n = n' + 1 := ⟨n - 1, by omega⟩
    have IH := thrR3 (k := k) (a3 := a3) hnw hm hs hT d (j + 1) n (by omega) (by omega)
    have e1 : nI (nw - j) + -nI 1 = nI (nw - 1 - j) := by rw [show nw - j = nw - 1 - j + 1 by omega]; exact nI_m1 _
    have e2 : nw - (j + 1) = nw - 1 - j := by omega
    have q := q12_isWon (show nw - 1 - j < 16 by omega) hm (hs (nw - 1 - j) (by omega)).1 (hs (nw - 1 - j) (by omega)).2 hT
    rw [← IH, e1, e2, fX12_threat_L222, cw]
    cases hb : isW sh T (nw - 1 - j) m
    · rw [hb] at q
      have q' : fX12_isWon (nI m) (nI (nw - 1 - j)) g = some (nI 0, g) := q
      simp (disch := first | omega | assumption | decide) only [↓pv_let, ↓pv_jn, ↓reduceIte, pv_bd, ↓pv_ocs, ↓pv_ocn, pv_gdt, pe_gd, pe_clamp, pt_eq, pf_eq, pt_le, pf_le, pt_lt, pf_lt, nI_add, nn_mul, pe_sub, pb_0, pb_1, pb_z, pe_ieq, pe_ine, pe_ik, pP_si, pS_si, pn_si, ps_si, pL_si, decide_true, ofNat_nI, pe_srI, pe_srN, pe_srS, pe_srP, not_true_eq_false, not_false_eq_true, true_and, and_true, and_self, false_and, and_false, nI_m1, nI_ms, Nat.add_sub_cancel, pl_0, pl_1, pl_2, pl_3, pl_4, pl_5, pl_6, pl_7, pl_8, pl_9, pl_10, pl_11, pl_12, pl_13, pl_14, pl_15, pl_16, pl_17, pl_18, pl_19, pl_20, pl_21, pl_22, pl_23, pl_24, pl_25, pl_26, pl_27, pl_28, pl_29, pl_30, pl_31, pl_32, pl_34, pl_36, pl_37, pl_40, pl_41, pl_42, pl_43, pl_45, pl_47, pl_48, pl_50, pl_57, pl_59, pl_60, pl_61, pl_62, pl_64, pl_70, pl_91, pl_93, pl_97, pl_98, pl_99, pl_100, pl_106, pl_122, pl_128, pl_136, pl_142, pl_165, pl_168, pl_170, pl_171, pl_173, pl_175, pl_187, pl_188, pl_189, pl_190, pl_206, pl_211, pl_219, pl_229, pl_255, pl_260, pl_400, pl_500, pl_512, pl_900, pl_999, pl_1000, pl_1001, pl_1005, pl_1020, pl_1023, pl_1024, pl_1103, pl_2000, pl_2040, pl_2176, pl_5660, pl_9999, pl_12345, pl_1000000, pl_1000003, pl_100000000, pl_1000000000, pz_0, pz_1, pz_t, q']
      rfl
    · rw [hb] at q
      have q' : fX12_isWon (nI m) (nI (nw - 1 - j)) g = some (nI 1, g) := q
      simp (disch := first | omega | assumption | decide) only [↓pv_let, ↓pv_jn, ↓reduceIte, pv_bd, ↓pv_ocs, ↓pv_ocn, pv_gdt, pe_gd, pe_clamp, pt_eq, pf_eq, pt_le, pf_le, pt_lt, pf_lt, nI_add, nn_mul, pe_sub, pb_0, pb_1, pb_z, pe_ieq, pe_ine, pe_ik, pP_si, pS_si, pn_si, ps_si, pL_si, decide_true, ofNat_nI, pe_srI, pe_srN, pe_srS, pe_srP, not_true_eq_false, not_false_eq_true, true_and, and_true, and_self, false_and, and_false, nI_m1, nI_ms, Nat.add_sub_cancel, pl_0, pl_1, pl_2, pl_3, pl_4, pl_5, pl_6, pl_7, pl_8, pl_9, pl_10, pl_11, pl_12, pl_13, pl_14, pl_15, pl_16, pl_17, pl_18, pl_19, pl_20, pl_21, pl_22, pl_23, pl_24, pl_25, pl_26, pl_27, pl_28, pl_29, pl_30, pl_31, pl_32, pl_34, pl_36, pl_37, pl_40, pl_41, pl_42, pl_43, pl_45, pl_47, pl_48, pl_50, pl_57, pl_59, pl_60, pl_61, pl_62, pl_64, pl_70, pl_91, pl_93, pl_97, pl_98, pl_99, pl_100, pl_106, pl_122, pl_128, pl_136, pl_142, pl_165, pl_168, pl_170, pl_171, pl_173, pl_175, pl_187, pl_188, pl_189, pl_190, pl_206, pl_211, pl_219, pl_229, pl_255, pl_260, pl_400, pl_500, pl_512, pl_900, pl_999, pl_1000, pl_1001, pl_1005, pl_1020, pl_1023, pl_1024, pl_1103, pl_2000, pl_2040, pl_2176, pl_5660, pl_9999, pl_12345, pl_1000000, pl_1000003, pl_100000000, pl_1000000000, pz_0, pz_1, pz_t, q']
/-! the class's ring -/
theorem thrC1 {a1 : Int32} {sh : Nat → Nat} {nw m : Nat} (hnw : nw ≤ 16) (hm : m < 10000) {g : am_G} (h0 : am_I g 12 4 = nI nw) (hs : ∀ w, w < nw → am_I g 63 w = nI (sh w) ∧ sh w ≤ 999) : ∀ (d w n : Nat) (f : Nat → Int32), w + d = nw → d < n → (∀ j, j < m → m ≤ j + 1023 → f (j % 1024) = pb (win sh nw j = true)) → f (m % 1024) = pb (anyN sh (win sh nw) m w = true) → ∃ f', (∀ k, fX7_play_L20 k a1 (nI m) n (nI w) (am_sr g 64 f) = k (am_sr g 64 f')) ∧ f' (m % 1024) = pb (anyN sh (win sh nw) m nw = true) ∧ ∀ i, i ≠ m % 1024 → f' i = f i
  | 0, w, n, f, hd, hn, hf, hfm => by
    obtain ⟨n, rfl⟩ : ∃ n', n = n' + 1 := ⟨n - 1, by omega⟩
    obtain rfl : w = nw := by omega
    refine ⟨f, fun k => ?_, hfm, fun _ _ => rfl⟩
    rw [fX7_play_L20]
    simp (disch := first | omega | assumption | decide) only [↓pv_let, ↓pv_jn, ↓reduceIte, pv_bd, ↓pv_ocs, ↓pv_ocn, pv_gdt, pe_gd, pe_clamp, pt_eq, pf_eq, pt_le, pf_le, pt_lt, pf_lt, nI_add, nn_mul, pe_sub, pb_0, pb_1, pb_z, pe_ieq, pe_ine, pe_ik, pP_si, pS_si, pn_si, ps_si, pL_si, decide_true, ofNat_nI, pe_srI, pe_srN, pe_srS, pe_srP, not_true_eq_false, not_false_eq_true, true_and, and_true, and_self, false_and, and_false, nI_m1, nI_ms, Nat.add_sub_cancel, pl_0, pl_1, pl_2, pl_3, pl_4, pl_5, pl_6, pl_7, pl_8, pl_9, pl_10, pl_11, pl_12, pl_13, pl_14, pl_15, pl_16, pl_17, pl_18, pl_19, pl_20, pl_21, pl_22, pl_23, pl_24, pl_25, pl_26, pl_27, pl_28, pl_29, pl_30, pl_31, pl_32, pl_34, pl_36, pl_37, pl_40, pl_41, pl_42, pl_43, pl_45, pl_47, pl_48, pl_50, pl_57, pl_59, pl_60, pl_61, pl_62, pl_64, pl_70, pl_91, pl_93, pl_97, pl_98, pl_99, pl_100, pl_106, pl_122, pl_128, pl_136, pl_142, pl_165, pl_168, pl_170, pl_171, pl_173, pl_175, pl_187, pl_188, pl_189, pl_190, pl_206, pl_211, pl_219, pl_229, pl_255, pl_260, pl_400, pl_500, pl_512, pl_900, pl_999, pl_1000, pl_1001, pl_1005, pl_1020, pl_1023, pl_1024, pl_1103, pl_2000, pl_2040, pl_2176, pl_5660, pl_9999, pl_12345, pl_1000000, pl_1000003, pl_100000000, pl_1000000000, pz_0, pz_1, pz_t, h0]
  | d + 1, w, n, f, hd, hn, hf, hfm => by
    obtain ⟨n, rfl⟩ : ∃ n', n = n' + 1 := ⟨n - 1, by omega⟩
    have hmd : m % 1024 < 1024 := Nat.mod_lt _ (by decide)
    cases hb : anyN sh (win sh nw) m w
    · rw [hb] at hfm
      have hfm0 : f (m % 1024) = nI 0 := hfm
      have q := q7_isWin (g := am_sr g 64 f) (T := win sh nw) (show w < 16 by omega) hm (by rw [pI_sr_ne _ _ (by decide)]; exact (hs w (by omega)).1) (hs w (by omega)).2 (fun j h1 h2 => by rw [pI_sr_row]; exact hf j h1 h2)
      obtain ⟨f', e, e1, e2⟩ := thrC1 (a1 := a1) hnw hm h0 hs d (w + 1) n (am_up f (m % 1024) (pb (isW sh (win sh nw) w m = true))) (by omega) (by omega) (fun j h1 h2 => by rw [am_up_ne (by omega)]; exact hf j h1 h2) (by rw [am_up_eq, anyN, hb, Bool.false_or])
      refine ⟨f', fun k => ?_, e1, fun i hi => by rw [e2 i hi, am_up_ne hi]⟩
      rw [fX7_play_L20, ← e k, ← si_sr]
      simp (disch := first | omega | assumption | decide) only [↓pv_let, ↓pv_jn, ↓reduceIte, pv_bd, ↓pv_ocs, ↓pv_ocn, pv_gdt, pe_gd, pe_clamp, pt_eq, pf_eq, pt_le, pf_le, pt_lt, pf_lt, nI_add, nn_mul, pe_sub, pb_0, pb_1, pb_z, pe_ieq, pe_ine, pe_ik, pP_si, pS_si, pn_si, ps_si, pL_si, decide_true, ofNat_nI, pe_srI, pe_srN, pe_srS, pe_srP, not_true_eq_false, not_false_eq_true, true_and, and_true, and_self, false_and, and_false, nI_m1, nI_ms, Nat.add_sub_cancel, pl_0, pl_1, pl_2, pl_3, pl_4, pl_5, pl_6, pl_7, pl_8, pl_9, pl_10, pl_11, pl_12, pl_13, pl_14, pl_15, pl_16, pl_17, pl_18, pl_19, pl_20, pl_21, pl_22, pl_23, pl_24, pl_25, pl_26, pl_27, pl_28, pl_29, pl_30, pl_31, pl_32, pl_34, pl_36, pl_37, pl_40, pl_41, pl_42, pl_43, pl_45, pl_47, pl_48, pl_50, pl_57, pl_59, pl_60, pl_61, pl_62, pl_64, pl_70, pl_91, pl_93, pl_97, pl_98, pl_99, pl_100, pl_106, pl_122, pl_128, pl_136, pl_142, pl_165, pl_168, pl_170, pl_171, pl_173, pl_175, pl_187, pl_188, pl_189, pl_190, pl_206, pl_211, pl_219, pl_229, pl_255, pl_260, pl_400, pl_500, pl_512, pl_900, pl_999, pl_1000, pl_1001, pl_1005, pl_1020, pl_1023, pl_1024, pl_1103, pl_2000, pl_2040, pl_2176, pl_5660, pl_9999, pl_12345, pl_1000000, pl_1000003, pl_100000000, pl_1000000000, pz_0, pz_1, pz_t, h0, prem, hfm0, q, pb_z]
    · rw [hb] at hfm
      have hfm1 : f (m % 1024) = nI 1 := hfm
      refine ⟨f, fun k => ?_, ?_, fun _ _ => rfl⟩
      · rw [fX7_play_L20]
        simp (disch := first | omega | assumption | decide) only [↓pv_let, ↓pv_jn, ↓reduceIte, pv_bd, ↓pv_ocs, ↓pv_ocn, pv_gdt, pe_gd, pe_clamp, pt_eq, pf_eq, pt_le, pf_le, pt_lt, pf_lt, nI_add, nn_mul, pe_sub, pb_0, pb_1, pb_z, pe_ieq, pe_ine, pe_ik, pP_si, pS_si, pn_si, ps_si, pL_si, decide_true, ofNat_nI, pe_srI, pe_srN, pe_srS, pe_srP, not_true_eq_false, not_false_eq_true, true_and, and_true, and_self, false_and, and_false, nI_m1, nI_ms, Nat.add_sub_cancel, pl_0, pl_1, pl_2, pl_3, pl_4, pl_5, pl_6, pl_7, pl_8, pl_9, pl_10, pl_11, pl_12, pl_13, pl_14, pl_15, pl_16, pl_17, pl_18, pl_19, pl_20, pl_21, pl_22, pl_23, pl_24, pl_25, pl_26, pl_27, pl_28, pl_29, pl_30, pl_31, pl_32, pl_34, pl_36, pl_37, pl_40, pl_41, pl_42, pl_43, pl_45, pl_47, pl_48, pl_50, pl_57, pl_59, pl_60, pl_61, pl_62, pl_64, pl_70, pl_91, pl_93, pl_97, pl_98, pl_99, pl_100, pl_106, pl_122, pl_128, pl_136, pl_142, pl_165, pl_168, pl_170, pl_171, pl_173, pl_175, pl_187, pl_188, pl_189, pl_190, pl_206, pl_211, pl_219, pl_229, pl_255, pl_260, pl_400, pl_500, pl_512, pl_900, pl_999, pl_1000, pl_1001, pl_1005, pl_1020, pl_1023, pl_1024, pl_1103, pl_2000, pl_2040, pl_2176, pl_5660, pl_9999, pl_12345, pl_1000000, pl_1000003, pl_100000000, pl_1000000000, pz_0, pz_1, pz_t, h0, prem, hfm1]
      · rw [hfm1, anyN_mono hb nw (by omega)]; rfl
theorem thrC2 {sh : Nat → Nat} {nw rm : Nat} (hnw : nw ≤ 16) (hrm : rm < 10000) {g : am_G} (h0 : am_I g 12 4 = nI nw) (hs : ∀ w, w < nw → am_I g 63 w = nI (sh w) ∧ sh w ≤ 999) : ∀ (d m n : Nat) (f : Nat → Int32), m + d = rm → d < n → (∀ j, j < m → m ≤ j + 1023 → f (j % 1024) = pb (win sh nw j = true)) → ∃ f', (∀ k, fX7_play_L2 k (nI rm) n (nI m) (am_sr g 64 f) = k (am_sr g 64 f')) ∧ ∀ j, j < rm → rm ≤ j + 1023 → f' (j % 1024) = pb (win sh nw j = true)
  | 0, m, n, f, hd, hn, hf => by
    obtain ⟨n, rfl⟩ : ∃ n', n = n' + 1 := ⟨n - 1, by omega⟩
    obtain rfl : m = rm := by omega
    refine ⟨f, fun k => ?_, hf⟩
    rw [fX7_play_L2]
    simp (disch := first | omega | assumption | decide) only [↓pv_let, ↓pv_jn, ↓reduceIte, pv_bd, ↓pv_ocs, ↓pv_ocn, pv_gdt, pe_gd, pe_clamp, pt_eq, pf_eq, pt_le, pf_le, pt_lt, pf_lt, nI_add, nn_mul, pe_sub, pb_0, pb_1, pb_z, pe_ieq, pe_ine, pe_ik, pP_si, pS_si, pn_si, ps_si, pL_si, decide_true, ofNat_nI, pe_srI, pe_srN, pe_srS, pe_srP, not_true_eq_false, not_false_eq_true, true_and, and_true, and_self, false_and, and_false, nI_m1, nI_ms, Nat.add_sub_cancel, pl_0, pl_1, pl_2, pl_3, pl_4, pl_5, pl_6, pl_7, pl_8, pl_9, pl_10, pl_11, pl_12, pl_13, pl_14, pl_15, pl_16, pl_17, pl_18, pl_19, pl_20, pl_21, pl_22, pl_23, pl_24, pl_25, pl_26, pl_27, pl_28, pl_29, pl_30, pl_31, pl_32, pl_34, pl_36, pl_37, pl_40, pl_41, pl_42, pl_43, pl_45, pl_47, pl_48, pl_50, pl_57, pl_59, pl_60, pl_61, pl_62, pl_64, pl_70, pl_91, pl_93, pl_97, pl_98, pl_99, pl_100, pl_106, pl_122, pl_128, pl_136, pl_142, pl_165, pl_168, pl_170, pl_171, pl_173, pl_175, pl_187, pl_188, pl_189, pl_190, pl_206, pl_211, pl_219, pl_229, pl_255, pl_260, pl_400, pl_500, pl_512, pl_900, pl_999, pl_1000, pl_1001, pl_1005, pl_1020, pl_1023, pl_1024, pl_1103, pl_2000, pl_2040, pl_2176, pl_5660, pl_9999, pl_12345, pl_1000000, pl_1000003, pl_100000000, pl_1000000000, pz_0, pz_1, pz_t]
  | d + 1, m, n, f, hd, hn, hf => by
    obtain ⟨n, rfl⟩ : ∃ n', n = n' + 1 := ⟨n - 1, by omega⟩
    have hmd : m % 1024 < 1024 := Nat.mod_lt _ (by decide)
    obtain ⟨f1, e1, e2, e3⟩ := thrC1 (a1 := nI rm) hnw (show m < 10000 by omega) h0 hs nw 0 am_fu (am_up f (m % 1024) (nI 0)) (by omega) (by have : am_fu = 1048576 := rfl; omega) (fun j h1 h2 => by rw [am_up_ne (by omega)]; exact hf j h1 h2) (by rw [am_up_eq]; rfl)
    rw [← win_eq] at e2
    obtain ⟨f', e, hf'⟩ := thrC2 hnw hrm h0 hs d (m + 1) n f1 (by omega) (by omega) (fun j h1 h2 => by
      by_cases ej : j = m
      · subst ej; exact e2
      · rw [e3 _ (by omega), am_up_ne (by omega)]; exact hf j (by omega) (by omega))
    refine ⟨f', fun k => ?_, hf'⟩
    rw [← e k, fX7_play_L2]
    rw [← si_sr] at e1
    simp (disch := first | omega | assumption | decide) only [↓pv_let, ↓pv_jn, ↓reduceIte, pv_bd, ↓pv_ocs, ↓pv_ocn, pv_gdt, pe_gd, pe_clamp, pt_eq, pf_eq, pt_le, pf_le, pt_lt, pf_lt, nI_add, nn_mul, pe_sub, pb_0, pb_1, pb_z, pe_ieq, pe_ine, pe_ik, pP_si, pS_si, pn_si, ps_si, pL_si, decide_true, ofNat_nI, pe_srI, pe_srN, pe_srS, pe_srP, not_true_eq_false, not_false_eq_true, true_and, and_true, and_self, false_and, and_false, nI_m1, nI_ms, Nat.add_sub_cancel, pl_0, pl_1, pl_2, pl_3, pl_4, pl_5, pl_6, pl_7, pl_8, pl_9, pl_10, pl_11, pl_12, pl_13, pl_14, pl_15, pl_16, pl_17, pl_18, pl_19, pl_20, pl_21, pl_22, pl_23, pl_24, pl_25, pl_26, pl_27, pl_28, pl_29, pl_30, pl_31, pl_32, pl_34, pl_36, pl_37, pl_40, pl_41, pl_42, pl_43, pl_45, pl_47, pl_48, pl_50, pl_57, pl_59, pl_60, pl_61, pl_62, pl_64, pl_70, pl_91, pl_93, pl_97, pl_98, pl_99, pl_100, pl_106, pl_122, pl_128, pl_136, pl_142, pl_165, pl_168, pl_170, pl_171, pl_173, pl_175, pl_187, pl_188, pl_189, pl_190, pl_206, pl_211, pl_219, pl_229, pl_255, pl_260, pl_400, pl_500, pl_512, pl_900, pl_999, pl_1000, pl_1001, pl_1005, pl_1020, pl_1023, pl_1024, pl_1103, pl_2000, pl_2040, pl_2176, pl_5660, pl_9999, pl_12345, pl_1000000, pl_1000003, pl_100000000, pl_1000000000, pz_0, pz_1, pz_t, prem, e1]
theorem thrC3 {sh : Nat → Nat} {T : Nat → Bool} {nw m : Nat} (hnw : nw ≤ 16) (hm : m < 10000) : ∀ (d j n : Nat) (g : am_G), j + d = nw → d < n → (∀ w, w < nw → am_I g 63 w = nI (sh w) ∧ sh w ≤ 999) → (∀ i, i < m → m ≤ i + 1023 → am_I g 64 (i % 1024) = pb (T i = true)) → am_I g 62 4 = nI (cw sh T nw m j).1 → am_I g 62 5 = (cw sh T nw m j).2 → ∃ f, fX7_play_L98 (nI m) n (nI (nw - j) + -nI 1) g = some ((), am_sr g 62 f) ∧ f 4 = nI (cw sh T nw m nw).1 ∧ f 5 = (cw sh T nw m nw).2
  | 0, j, n, g, hd, hn, hs, hT, h4, h5 => by
    obtain ⟨n, rfl⟩ : ∃ n', n = n' + 1 := ⟨n - 1, by omega⟩
    obtain rfl : j = nw := by omega
    have hneg : (nI 0 + -nI 1 < nI 0) = True := eq_true (by decide)
    refine ⟨am_I g 62, ?_, h4, h5⟩
    rw [sr_self, fX7_play_L98, Nat.sub_self]
    simp (disch := first | omega | assumption | decide) only [↓pv_let, ↓pv_jn, ↓reduceIte, pv_bd, ↓pv_ocs, ↓pv_ocn, pv_gdt, pe_gd, pe_clamp, pt_eq, pf_eq, pt_le, pf_le, pt_lt, pf_lt, nI_add, nn_mul, pe_sub, pb_0, pb_1, pb_z, pe_ieq, pe_ine, pe_ik, pP_si, pS_si, pn_si, ps_si, pL_si, decide_true, ofNat_nI, pe_srI, pe_srN, pe_srS, pe_srP, not_true_eq_false, not_false_eq_true, true_and, and_true, and_self, false_and, and_false, nI_m1, nI_ms, Nat.add_sub_cancel, pl_0, pl_1, pl_2, pl_3, pl_4, pl_5, pl_6, pl_7, pl_8, pl_9, pl_10, pl_11, pl_12, pl_13, pl_14, pl_15, pl_16, pl_17, pl_18, pl_19, pl_20, pl_21, pl_22, pl_23, pl_24, pl_25, pl_26, pl_27, pl_28, pl_29, pl_30, pl_31, pl_32, pl_34, pl_36, pl_37, pl_40, pl_41, pl_42, pl_43, pl_45, pl_47, pl_48, pl_50, pl_57, pl_59, pl_60, pl_61, pl_62, pl_64, pl_70, pl_91, pl_93, pl_97, pl_98, pl_99, pl_100, pl_106, pl_122, pl_128, pl_136, pl_142, pl_165, pl_168, pl_170, pl_171, pl_173, pl_175, pl_187, pl_188, pl_189, pl_190, pl_206, pl_211, pl_219, pl_229, pl_255, pl_260, pl_400, pl_500, pl_512, pl_900, pl_999, pl_1000, pl_1001, pl_1005, pl_1020, pl_1023, pl_1024, pl_1103, pl_2000, pl_2040, pl_2176, pl_5660, pl_9999, pl_12345, pl_1000000, pl_1000003, pl_100000000, pl_1000000000, pz_0, pz_1, pz_t, hneg]
  | d + 1, j, n, g, hd, hn, hs, hT, h4, h5 => by
    obtain ⟨n, rfl⟩ : ∃ n', n = n' + 1 := ⟨n - 1, by omega⟩
    have e1 : nI (nw - j) + -nI 1 = nI (nw - 1 - j) := by rw [show nw - j = nw - 1 - j + 1 by omega]; exact nI_m1 _
    have e2 : nw - (j + 1) = nw - 1 - j := by omega
    have q := q7_isWin (T := T) (show nw - 1 - j < 16 by omega) hm (hs (nw - 1 - j) (by omega)).1 (hs (nw - 1 - j) (by omega)).2 hT
    have hle := cw_le sh T nw m j
    cases hb : isW sh T (nw - 1 - j) m
    · have ec : cw sh T nw m (j + 1) = cw sh T nw m j := by rw [cw, if_neg (by rw [hb]; decide)]
      obtain ⟨f, z1, z2, z3⟩ := thrC3 hnw hm d (j + 1) n g (by omega) (by omega) hs hT (by rw [ec]; exact h4) (by rw [ec]; exact h5)
      refine ⟨f, ?_, z2, z3⟩
      rw [hb] at q
      have q' : fX7_isWinning (nI (nw - 1 - j)) (nI m) g = some (nI 0, g) := q
      rw [e2] at z1
      rw [← z1, e1, fX7_play_L98]
      simp (disch := first | omega | assumption | decide) only [↓pv_let, ↓pv_jn, ↓reduceIte, pv_bd, ↓pv_ocs, ↓pv_ocn, pv_gdt, pe_gd, pe_clamp, pt_eq, pf_eq, pt_le, pf_le, pt_lt, pf_lt, nI_add, nn_mul, pe_sub, pb_0, pb_1, pb_z, pe_ieq, pe_ine, pe_ik, pP_si, pS_si, pn_si, ps_si, pL_si, decide_true, ofNat_nI, pe_srI, pe_srN, pe_srS, pe_srP, not_true_eq_false, not_false_eq_true, true_and, and_true, and_self, false_and, and_false, nI_m1, nI_ms, Nat.add_sub_cancel, pl_0, pl_1, pl_2, pl_3, pl_4, pl_5, pl_6, pl_7, pl_8, pl_9, pl_10, pl_11, pl_12, pl_13, pl_14, pl_15, pl_16, pl_17, pl_18, pl_19, pl_20, pl_21, pl_22, pl_23, pl_24, pl_25, pl_26, pl_27, pl_28, pl_29, pl_30, pl_31, pl_32, pl_34, pl_36, pl_37, pl_40, pl_41, pl_42, pl_43, pl_45, pl_47, pl_48, pl_50, pl_57, pl_59, pl_60, pl_61, pl_62, pl_64, pl_70, pl_91, pl_93, pl_97, pl_98, pl_99, pl_100, pl_106, pl_122, pl_128, pl_136, pl_142, pl_165, pl_168, pl_170, pl_171, pl_173, pl_175, pl_187, pl_188, pl_189, pl_190, pl_206, pl_211, pl_219, pl_229, pl_255, pl_260, pl_400, pl_500, pl_512, pl_900, pl_999, pl_1000, pl_1001, pl_1005, pl_1020, pl_1023, pl_1024, pl_1103, pl_2000, pl_2040, pl_2176, pl_5660, pl_9999, pl_12345, pl_1000000, pl_1000003, pl_100000000, pl_1000000000, pz_0, pz_1, pz_t, q']
    · have ec : cw sh T nw m (j + 1) = ((cw sh T nw m j).1 + 1, nI (nw - 1 - j)) := by rw [cw, if_pos hb]
      obtain ⟨f, z1, z2, z3⟩ := thrC3 hnw hm d (j + 1) n (am_si (am_si g 62 4 (nI ((cw sh T nw m j).1 + 1))) 62 5 (nI (nw - 1 - j))) (by omega) (by omega) (fun w hw => by rw [pI_si_ne _ _ _ (by decide), pI_si_ne _ _ _ (by decide)]; exact hs w hw) (fun i h1 h2 => by rw [pI_si_ne _ _ _ (by decide), pI_si_ne _ _ _ (by decide)]; exact hT i h1 h2) (by rw [ec, pe_ik (by decide), pe_ieq]) (by rw [ec, pe_ieq])
      have e3 : am_sr (am_si (am_si g 62 4 (nI ((cw sh T nw m j).1 + 1))) 62 5 (nI (nw - 1 - j))) 62 f = am_sr g 62 f := by
        show am_sr (am_sr (am_sr g 62 _) 62 _) 62 f = _
        rw [sr_sr, sr_sr]
      rw [e3, e2] at z1
      refine ⟨f, ?_, z2, z3⟩
      rw [hb] at q
      have q' : fX7_isWinning (nI (nw - 1 - j)) (nI m) g = some (nI 1, g) := q
      rw [← z1, e1, fX7_play_L98]
      simp (disch := first | omega | assumption | decide) only [↓pv_let, ↓pv_jn, ↓reduceIte, pv_bd, ↓pv_ocs, ↓pv_ocn, pv_gdt, pe_gd, pe_clamp, pt_eq, pf_eq, pt_le, pf_le, pt_lt, pf_lt, nI_add, nn_mul, pe_sub, pb_0, pb_1, pb_z, pe_ieq, pe_ine, pe_ik, pP_si, pS_si, pn_si, ps_si, pL_si, decide_true, ofNat_nI, pe_srI, pe_srN, pe_srS, pe_srP, not_true_eq_false, not_false_eq_true, true_and, and_true, and_self, false_and, and_false, nI_m1, nI_ms, Nat.add_sub_cancel, pl_0, pl_1, pl_2, pl_3, pl_4, pl_5, pl_6, pl_7, pl_8, pl_9, pl_10, pl_11, pl_12, pl_13, pl_14, pl_15, pl_16, pl_17, pl_18, pl_19, pl_20, pl_21, pl_22, pl_23, pl_24, pl_25, pl_26, pl_27, pl_28, pl_29, pl_30, pl_31, pl_32, pl_34, pl_36, pl_37, pl_40, pl_41, pl_42, pl_43, pl_45, pl_47, pl_48, pl_50, pl_57, pl_59, pl_60, pl_61, pl_62, pl_64, pl_70, pl_91, pl_93, pl_97, pl_98, pl_99, pl_100, pl_106, pl_122, pl_128, pl_136, pl_142, pl_165, pl_168, pl_170, pl_171, pl_173, pl_175, pl_187, pl_188, pl_189, pl_190, pl_206, pl_211, pl_219, pl_229, pl_255, pl_260, pl_400, pl_500, pl_512, pl_900, pl_999, pl_1000, pl_1001, pl_1005, pl_1020, pl_1023, pl_1024, pl_1103, pl_2000, pl_2040, pl_2176, pl_5660, pl_9999, pl_12345, pl_1000000, pl_1000003, pl_100000000, pl_1000000000, pz_0, pz_1, pz_t, q', h4]
