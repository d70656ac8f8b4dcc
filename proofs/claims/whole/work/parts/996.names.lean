/-! ===== the class's tokens ===== -/
def sb (m : Nat) : Int32 := if m < 128 then nI m else nI m - nI 256
theorem sb_L : ∀ m, m < 256 → ((nI 97 ≤ sb m ∧ sb m ≤ nI 122) ↔ isL m = true) := by decide +kernel
theorem sb_D : ∀ m, m < 256 → ((nI 48 ≤ sb m ∧ sb m ≤ nI 57) ↔ isDg m = true) := by decide +kernel
theorem sb_32 : ∀ m, m < 256 → (sb m = nI 32 ↔ m = 32) := by decide +kernel
theorem sb_and : ∀ m, m < 256 → sb m &&& nI 255 = nI m := by decide +kernel
theorem sb_sm {m : Nat} (h : m < 128) : sb m = nI m := if_pos h
section SCAN
variable {b : Nat → Nat} {len : Nat}
/-- the class's tape -/
def CT (b : Nat → Nat) (len : Nat) (g : am_G) : Prop := am_I g 29 4 = nI len ∧ ∀ i, i < len → am_I g 30 i = sb (b i)
theorem q5_isLetter {m : Nat} (hm : m < 256) (g : am_G) : fX5_isLetter (sb m) g = some (pb (isL m = true), g) := by
  unfold fX5_isLetter
  rw [q11_within, pu_bd, show (97 : Int32) = nI 97 from rfl, show (122 : Int32) = nI 122 from rfl, pb_z, pb_congr (sb_L m hm)]
theorem q5_isDigit {m : Nat} (hm : m < 256) (g : am_G) : fX5_isDigit (sb m) g = some (pb (isDg m = true), g) := by
  unfold fX5_isDigit
  rw [q11_within, pu_bd, show (48 : Int32) = nI 48 from rfl, show (57 : Int32) = nI 57 from rfl, pb_z, pb_congr (sb_D m hm)]
theorem teL (hT : Tp b len) {g : am_G} (hc : CT b len g) {v : Nat} (hv : v = 0 ∨ v = 1) : ∀ (d i n : Nat), i + d = len → d < n → fX5_tokenEnd_L32 (nI v) n (nI i) g = some (nI (rnF (if v = 1 then isL else isDg) b d i), g)
  | 0, i, n, hd, hn => by
    obtain ⟨n, rfl⟩ : ∃ m, n = m + 1 := ⟨n - 1, by omega⟩
    obtain rfl : i = len := by omega
    have h4 := hc.1
    have hl := hT.1
    rw [fX5_tokenEnd_L32, rnF]
    simp (disch := first | omega | assumption | decide) only [↓pv_let, ↓pv_jn, ↓reduceIte, pv_bd, ↓pv_ocs, ↓pv_ocn, pv_gdt, pe_gd, pe_clamp, pt_eq, pf_eq, pt_le, pf_le, pt_lt, pf_lt, nI_add, nn_mul, pe_sub, pb_0, pb_1, pb_z, pe_ieq, pe_ine, pe_ik, pP_si, pS_si, pn_si, ps_si, pL_si, decide_true, ofNat_nI, pe_srI, pe_srN, pe_srS, pe_srP, not_true_eq_false, not_false_eq_true, true_and, and_true, and_self, false_and, and_false, nI_m1, nI_ms, Nat.add_sub_cancel, pl_0, pl_1, pl_2, pl_3, pl_4, pl_5, pl_6, pl_7, pl_8, pl_9, pl_10, pl_11, pl_12, pl_13, pl_14, pl_15, pl_16, pl_17, pl_18, pl_19, pl_20, pl_21, pl_22, pl_23, pl_24, pl_25, pl_26, pl_27, pl_28, pl_29, pl_30, pl_31, pl_32, pl_34, pl_36, pl_37, pl_40, pl_41, pl_42, pl_43, pl_45, pl_47, pl_48, pl_50, pl_57, pl_59, pl_60, pl_61, pl_62, pl_64, pl_70, pl_91, pl_93, pl_97, pl_98, pl_99, pl_100, pl_106, pl_122, pl_128, pl_136, pl_142, pl_165, pl_168, pl_170, pl_171, pl_173, pl_175, pl_187, pl_188, pl_189, pl_190, pl_206, pl_211, pl_219, pl_229, pl_255, pl_260, pl_400, pl_500, pl_512, pl_900, pl_999, pl_1000, pl_1001, pl_1005, pl_1020, pl_1023, pl_1024, pl_1103, pl_2000, pl_2040, pl_2176, pl_5660, pl_9999, pl_12345, pl_1000000, pl_1000003, pl_100000000, pl_1000000000, pz_0, pz_1, pz_t, h4]
  | d + 1, i, n, hd, hn => by
    obtain ⟨n, rfl⟩ : ∃ m, n = m + 1 := ⟨n - 1, by omega⟩
    have h4 := hc.1
    have hl := hT.1
    have hi := hc.2 i (by omega)
    have hbi := hT.2 i (by omega)
    have IH := teL hT hc hv d (i + 1) n (by omega) (by omega)
    have le := q5_isLetter hbi g
    have di := q5_isDigit hbi g
    rw [fX5_tokenEnd_L32, rnF]
    rcases hv with rfl | rfl
    · rw [if_neg (show ¬ 0 = 1 by decide)] at IH ⊢
      by_cases c : isDg (b i) = true
      · rw [if_pos c, ← IH]
        simp (disch := first | omega | assumption | decide) only [↓pv_let, ↓pv_jn, ↓reduceIte, pv_bd, ↓pv_ocs, ↓pv_ocn, pv_gdt, pe_gd, pe_clamp, pt_eq, pf_eq, pt_le, pf_le, pt_lt, pf_lt, nI_add, nn_mul, pe_sub, pb_0, pb_1, pb_z, pe_ieq, pe_ine, pe_ik, pP_si, pS_si, pn_si, ps_si, pL_si, decide_true, ofNat_nI, pe_srI, pe_srN, pe_srS, pe_srP, not_true_eq_false, not_false_eq_true, true_and, and_true, and_self, false_and, and_false, nI_m1, nI_ms, Nat.add_sub_cancel, pl_0, pl_1, pl_2, pl_3, pl_4, pl_5, pl_6, pl_7, pl_8, pl_9, pl_10, pl_11, pl_12, pl_13, pl_14, pl_15, pl_16, pl_17, pl_18, pl_19, pl_20, pl_21, pl_22, pl_23, pl_24, pl_25, pl_26, pl_27, pl_28, pl_29, pl_30, pl_31, pl_32, pl_34, pl_36, pl_37, pl_40, pl_41, pl_42, pl_43, pl_45, pl_47, pl_48, pl_50, pl_57, pl_59, pl_60, pl_61, pl_62, pl_64, pl_70, pl_91, pl_93, pl_97, pl_98, pl_99, pl_100, pl_106, pl_122, pl_128, pl_136, pl_142, pl_165, pl_168, pl_170, pl_171, pl_173, pl_175, pl_187, pl_188, pl_189, pl_190, pl_206, pl_211, pl_219, pl_229, pl_255, pl_260, pl_400, pl_500, pl_512, pl_900, pl_999, pl_1000, pl_1001, pl_1005, pl_1020, pl_1023, pl_1024, pl_1103, pl_2000, pl_2040, pl_2176, pl_5660, pl_9999, pl_12345, pl_1000000, pl_1000003, pl_100000000, pl_1000000000, pz_0, pz_1, pz_t, h4, hi, di, c]
      · rw [if_neg c]
        simp (disch := first | omega | assumption | decide) only [↓pv_let, ↓pv_jn, ↓reduceIte, pv_bd, ↓pv_ocs, ↓pv_ocn, pv_gdt, pe_gd, pe_clamp, pt_eq, pf_eq, pt_le, pf_le, pt_lt, pf_lt, nI_add, nn_mul, pe_sub, pb_0, pb_1, pb_z, pe_ieq, pe_ine, pe_ik, pP_si, pS_si, pn_si, ps_si, pL_si, decide_true, ofNat_nI, pe_srI, pe_srN, pe_srS, pe_srP, not_true_eq_false, not_false_eq_true, true_and, and_true, and_self, false_and, and_false, nI_m1, nI_ms, Nat.add_sub_cancel, pl_0, pl_1, pl_2, pl_3, pl_4, pl_5, pl_6, pl_7, pl_8, pl_9, pl_10, pl_11, pl_12, pl_13, pl_14, pl_15, pl_16, pl_17, pl_18, pl_19, pl_20, pl_21, pl_22, pl_23, pl_24, pl_25, pl_26, pl_27, pl_28, pl_29, pl_30, pl_31, pl_32, pl_34, pl_36, pl_37, pl_40, pl_41, pl_42, pl_43, pl_45, pl_47, pl_48, pl_50, pl_57, pl_59, pl_60, pl_61, pl_62, pl_64, pl_70, pl_91, pl_93, pl_97, pl_98, pl_99, pl_100, pl_106, pl_122, pl_128, pl_136, pl_142, pl_165, pl_168, pl_170, pl_171, pl_173, pl_175, pl_187, pl_188, pl_189, pl_190, pl_206, pl_211, pl_219, pl_229, pl_255, pl_260, pl_400, pl_500, pl_512, pl_900, pl_999, pl_1000, pl_1001, pl_1005, pl_1020, pl_1023, pl_1024, pl_1103, pl_2000, pl_2040, pl_2176, pl_5660, pl_9999, pl_12345, pl_1000000, pl_1000003, pl_100000000, pl_1000000000, pz_0, pz_1, pz_t, h4, hi, di, c, Bool.false_eq_true]
    · rw [if_pos (show 1 = 1 from rfl)] at IH ⊢
      by_cases c : isL (b i) = true
      · rw [if_pos c, ← IH]
        simp (disch := first | omega | assumption | decide) only [↓pv_let, ↓pv_jn, ↓reduceIte, pv_bd, ↓pv_ocs, ↓pv_ocn, pv_gdt, pe_gd, pe_clamp, pt_eq, pf_eq, pt_le, pf_le, pt_lt, pf_lt, nI_add, nn_mul, pe_sub, pb_0, pb_1, pb_z, pe_ieq, pe_ine, pe_ik, pP_si, pS_si, pn_si, ps_si, pL_si, decide_true, ofNat_nI, pe_srI, pe_srN, pe_srS, pe_srP, not_true_eq_false, not_false_eq_true, true_and, and_true, and_self, false_and, and_false, nI_m1, nI_ms, Nat.add_sub_cancel, pl_0, pl_1, pl_2, pl_3, pl_4, pl_5, pl_6, pl_7, pl_8, pl_9, pl_10, pl_11, pl_12, pl_13, pl_14, pl_15, pl_16, pl_17, pl_18, pl_19, pl_20, pl_21, pl_22, pl_23, pl_24, pl_25, pl_26, pl_27, pl_28, pl_29, pl_30, pl_31, pl_32, pl_34, pl_36, pl_37, pl_40, pl_41, pl_42, pl_43, pl_45, pl_47, pl_48, pl_50, pl_57, pl_59, pl_60, pl_61, pl_62, pl_64, pl_70, pl_91, pl_93, pl_97, pl_98, pl_99, pl_100, pl_106, pl_122, pl_128, pl_136, pl_142, pl_165, pl_168, pl_170, pl_171, pl_173, pl_175, pl_187, pl_188, pl_189, pl_190, pl_206, pl_211, pl_219, pl_229, pl_255, pl_260, pl_400, pl_500, pl_512, pl_900, pl_999, pl_1000, pl_1001, pl_1005, pl_1020, pl_1023, pl_1024, pl_1103, pl_2000, pl_2040, pl_2176, pl_5660, pl_9999, pl_12345, pl_1000000, pl_1000003, pl_100000000, pl_1000000000, pz_0, pz_1, pz_t, h4, hi, le, c]
      · rw [if_neg c]
        simp (disch := first | omega | assumption | decide) only [↓pv_let, ↓pv_jn, ↓reduceIte, pv_bd, ↓pv_ocs, ↓pv_ocn, pv_gdt, pe_gd, pe_clamp, pt_eq, pf_eq, pt_le, pf_le, pt_lt, pf_lt, nI_add, nn_mul, pe_sub, pb_0, pb_1, pb_z, pe_ieq, pe_ine, pe_ik, pP_si, pS_si, pn_si, ps_si, pL_si, decide_true, ofNat_nI, pe_srI, pe_srN, pe_srS, pe_srP, not_true_eq_false, not_false_eq_true, true_and, and_true, and_self, false_and, and_false, nI_m1, nI_ms, Nat.add_sub_cancel, pl_0, pl_1, pl_2, pl_3, pl_4, pl_5, pl_6, pl_7, pl_8, pl_9, pl_10, pl_11, pl_12, pl_13, pl_14, pl_15, pl_16, pl_17, pl_18, pl_19, pl_20, pl_21, pl_22, pl_23, pl_24, pl_25, pl_26, pl_27, pl_28, pl_29, pl_30, pl_31, pl_32, pl_34, pl_36, pl_37, pl_40, pl_41, pl_42, pl_43, pl_45, pl_47, pl_48, pl_50, pl_57, pl_59, pl_60, pl_61, pl_62, pl_64, pl_70, pl_91, pl_93, pl_97, pl_98, pl_99, pl_100, pl_106, pl_122, pl_128, pl_136, pl_142, pl_165, pl_168, pl_170, pl_171, pl_173, pl_175, pl_187, pl_188, pl_189, pl_190, pl_206, pl_211, pl_219, pl_229, pl_255, pl_260, pl_400, pl_500, pl_512, pl_900, pl_999, pl_1000, pl_1001, pl_1005, pl_1020, pl_1023, pl_1024, pl_1103, pl_2000, pl_2040, pl_2176, pl_5660, pl_9999, pl_12345, pl_1000000, pl_1000003, pl_100000000, pl_1000000000, pz_0, pz_1, pz_t, h4, hi, le, c, Bool.false_eq_true]
theorem q5_tokenEnd (hT : Tp b len) {g : am_G} (hc : CT b len g) {s : Nat} (hs : s < len) : fX5_tokenEnd (nI s) g = some (nI (enS b len s), g) := by
  have hl := hT.1
  have hi := hc.2 s hs
  have hbi := hT.2 s hs
  have le := q5_isLetter hbi g
  have di := q5_isDigit hbi g
  have hfu : am_fu = 1048576 := rfl
  obtain ⟨d, hd⟩ : ∃ d, len - s = d + 1 := ⟨len - s - 1, by omega⟩
  unfold enS fX5_tokenEnd
  rw [if_neg (show ¬ len ≤ s by omega), pu_let, show nI s + (1 : Int32) = nI (s + 1) from nI_add s 1, pe_gd (show s < 400 by omega) (by decide), pe_clamp (show s < 2147483648 by omega), hi, le, pu_bd]
  by_cases c : isL (b s) = true
  · have t := teL hT hc (v := 1) (Or.inr rfl) d (s + 1) am_fu (by omega) (by omega)
    rw [if_pos (show 1 = 1 from rfl)] at t
    rw [pb_eq c, if_neg (show ¬ nI 1 = (0 : Int32) by decide), if_pos c, t, hd, rnF, if_pos c]
  · rw [pb_ne c, if_pos (show nI 0 = (0 : Int32) from rfl), if_neg c, pe_gd (show s < 400 by omega) (by decide), hi, di, pu_bd]
    by_cases c2 : isDg (b s) = true
    · have t := teL hT hc (v := 0) (Or.inl rfl) d (s + 1) am_fu (by omega) (by omega)
      rw [if_neg (show ¬ 0 = 1 by decide)] at t
      rw [pb_eq c2, if_neg (show ¬ nI 1 = (0 : Int32) by decide), if_pos c2, t, hd, rnF, if_pos c2]
    · rw [pb_ne c2, if_pos (show nI 0 = (0 : Int32) from rfl), if_neg c2]
/-! names -/
def frm : Nat → Nat
  | 0 => 0
  | k + 1 => frm k + nml k + 1
theorem nm_tab : ∀ k, k < 27 → frm k + nml k ≤ 130 ∧ (∀ j, j < 7 → j < nml k → am_sch (frm k + j) = nI (nmb k j) ∧ nmb k j ≠ 32 ∧ nmb k j < 128) ∧ (frm k + nml k = 130 ↔ k = 26) ∧ (k < 26 → am_sch (frm k + nml k) = nI 32) := by decide +kernel
theorem spL (hT : Tp b len) {g : am_G} (hc : CT b len g) {k s : Nat} (hk : k < 27) (hs : s + nml k ≤ len) (hL : ∀ i, i < nml k → isL (b (s + i)) = true) : ∀ (d j n : Nat), j + d = nml k → d < n → fX5_spells_L3 (nI (frm k)) (nI s) (nI (s + nml k)) n (nI (s + j)) g = some (if (∀ i, i < nml k → j ≤ i → b (s + i) = nmb k i) then nI 1 else nI 0, g)
  | 0, j, n, hd, hn => by
    obtain ⟨n, rfl⟩ : ∃ m, n = m + 1 := ⟨n - 1, by omega⟩
    have hj : j = nml k := by omega
    have hl := hT.1
    rw [fX5_spells_L3, if_pos (show nI (s + nml k) ≤ nI (s + j) from nI_le (by omega) (by omega)), if_pos (fun i h1 h2 => absurd h1 (by omega))]
    rfl
  | d + 1, j, n, hd, hn => by
    obtain ⟨n, rfl⟩ : ∃ m, n = m + 1 := ⟨n - 1, by omega⟩
    have hl := hT.1
    have nm := nm_tab k hk
    have n6 := (nm_let k hk).1
    have hj := nm.2.1 j (by omega) (by omega)
    have IH := spL hT hc hk hs hL d (j + 1) n (by omega) (by omega)
    have hi := hc.2 (s + j) (by omega)
    have hlj := of_decide_eq_true (hL j (by omega))
    have e1 : nI (frm k) + nI (s + j) - nI s = nI (frm k + j) := by
      rw [nI_add, nn_sub (by omega)]
      congr 1
      omega
    rw [fX5_spells_L3, if_neg (show ¬ nI (s + nml k) ≤ nI (s + j) from nI_ge (by omega) (by omega)), e1, pe_gd (show frm k + j < am_sln by show _ < 130; omega) (by decide), pe_gd (show s + j < 400 by omega) (by decide), pe_clamp (show frm k + j < 2147483648 by omega), pe_clamp (show s + j < 2147483648 by omega), hj.1, hi, sb_sm (by omega)]
    by_cases e : b (s + j) = nmb k j
    · rw [if_pos (show nI (nmb k j) = nI (b (s + j)) by rw [e]), pu_let, show nI (s + j) + (1 : Int32) = nI (s + (j + 1)) from nI_add (s + j) 1, IH]
      congr 2
      by_cases z : ∀ i, i < nml k → j + 1 ≤ i → b (s + i) = nmb k i
      · rw [if_pos z, if_pos (fun i h1 h2 => by
          by_cases y : i = j
          · rw [y]; exact e
          · exact z i h1 (by omega))]
      · rw [if_neg z, if_neg (fun y => z (fun i h1 h2 => y i h1 (by omega)))]
    · rw [if_neg (show ¬ nI (nmb k j) = nI (b (s + j)) from fun y => e ((nn_eq (by omega) (by omega)).mp y).symm), if_neg (fun y => e (y j (by omega) (Nat.le_refl _)))]
      rfl
theorem fnd_drop (l : List Nat) : ∀ k, k < 27 → fnd (1 + k) (nms.drop k) l = if l = nms.getD k [] then 1 + k else fnd (1 + (k + 1)) (nms.drop (k + 1)) l := by
  intro k hk
  have e : nms.drop k = nms.getD k [] :: nms.drop (k + 1) := by
    have key : ∀ k, k < 27 → nms.drop k = nms.getD k [] :: nms.drop (k + 1) := by decide +kernel
    exact key k hk
  rw [e, fnd]
  rfl
theorem nameL (hT : Tp b len) {g : am_G} (hc : CT b len g) {s e : Nat} (hse : s < e) (he : e ≤ len) (hL : ∀ i, i < e - s → isL (b (s + i)) = true) : ∀ (d k j n : Nat), frm k + j + d = 131 → (k < 27 → j ≤ nml k) → (k = 27 → j = 0) → k ≤ 27 → d < n → fX5_nameOf_L8 (nI s) (nI e) n (nI (1 + k)) (nI (frm k)) (nI (frm k + j)) g = some (nI (fnd (1 + k) (nms.drop k) (lst b (e - s) s)), g)
  | 0, k, j, n, hd, hj, hj27, hk, hn => by
    obtain ⟨n, rfl⟩ : ∃ m, n = m + 1 := ⟨n - 1, by omega⟩
    have hk27 : k = 27 := by
      rcases Nat.lt_or_ge k 27 with z | z
      · have := (nm_tab k z).1; have := hj z; omega
      · omega
    subst hk27
    rw [fX5_nameOf_L8, show frm 27 + j = 131 by omega, if_pos (show am_slI < nI 131 by decide)]
    rfl
  | d + 1, k, j, n, hd, hj, hj27, hk, hn => by
    obtain ⟨n, rfl⟩ : ∃ m, n = m + 1 := ⟨n - 1, by omega⟩
    have f27 : frm 27 = 131 := by decide
    have hk2 : k < 27 := by
      rcases Nat.lt_or_ge k 27 with z | z
      · exact z
      · have : k = 27 := by omega
        subst this; have := hj27 rfl; omega
    have nm := nm_tab k hk2
    have hjk := hj hk2
    have hl := hT.1
    have n6 := (nm_let k hk2).1
    have sl : am_slI = nI 130 := rfl
    by_cases hjl : j < nml k
    · have IH := nameL hT hc hse he hL d k (j + 1) n (by omega) (fun _ => by omega) (fun z => absurd z (by omega)) hk (by omega)
      have hch := nm.2.1 j (by omega) hjl
      have hlast : frm k + j < 130 := by omega
      rw [← IH, fX5_nameOf_L8, sl, if_neg (show ¬ nI 130 < nI (frm k + j) from nI_nlt (by omega) (by omega)), pu_jn, pu_jn, if_neg (show ¬ nI (frm k + j) = nI 130 from fun z => by have := (nn_eq (by omega) (by decide)).mp z; omega), pe_gd (show frm k + j < am_sln from hlast) (by decide), pe_clamp (show frm k + j < 2147483648 by omega), hch.1, if_neg (show ¬ nI (nmb k j) = (32 : Int32) from fun z => hch.2.1 ((nn_eq (by omega) (by decide)).mp (show nI (nmb k j) = nI 32 from z)))]
      dsimp only
      rw [pu_let, show nI (frm k + j) + (1 : Int32) = nI (frm k + (j + 1)) from nI_add (frm k + j) 1]
    · have hje : j = nml k := by omega
      subst hje
      have IH := nameL hT hc hse he hL d (k + 1) 0 n (by rw [frm]; omega) (fun _ => by omega) (fun _ => rfl) (by omega) (by omega)
      rw [show frm (k + 1) + 0 = frm (k + 1) from rfl] at IH
      have fr1 : frm (k + 1) = frm k + nml k + 1 := rfl
      have b1 : fX5_nameOf_L8 (nI s) (nI e) (n + 1) (nI (1 + k)) (nI (frm k)) (nI (frm k + nml k)) g = (if nml k = e - s then am_bd (fX5_spells (nI (frm k)) (nI s) (nI e) g) (fun v19 g20 => if v19 = 0 then fX5_nameOf_L8 (nI s) (nI e) n (nI (1 + (k + 1))) (nI (frm (k + 1))) (nI (frm (k + 1))) g20 else some (nI (1 + k), g20)) else fX5_nameOf_L8 (nI s) (nI e) n (nI (1 + (k + 1))) (nI (frm (k + 1))) (nI (frm (k + 1))) g) := by
        have x1 : nI (frm k + nml k) - nI (frm k) = nI (nml k) := by rw [nn_sub (by omega)]; congr 1; omega
        have x2 : nI e - nI s = nI (e - s) := nn_sub (by omega)
        have a1 : nI (1 + k) + (1 : Int32) = nI (1 + (k + 1)) := nI_add (1 + k) 1
        have a2 : nI (frm k + nml k) + (1 : Int32) = nI (frm (k + 1)) := nI_add (frm k + nml k) 1
        rw [fX5_nameOf_L8, sl, if_neg (show ¬ nI 130 < nI (frm k + nml k) from nI_nlt (by omega) (by omega)), pu_jn, pu_jn, x1, x2]
        have bd : ∀ R, (if nI (frm k + nml k) = nI 130 then R else am_gd (am_in (nI (frm k + nml k)) am_sln) (if am_sch (nI (frm k + nml k)).toNatClampNeg = (32 : Int32) then R else fX5_nameOf_L8 (nI s) (nI e) n (nI (1 + k)) (nI (frm k)) (nI (frm k + nml k) + 1) g)) = R := by
          intro R
          by_cases z : frm k + nml k = 130
          · rw [if_pos (by rw [z])]
          · have hk26 : k < 26 := by
              have := nm.2.2.1
              omega
            rw [if_neg (fun y => z ((nn_eq (by omega) (by decide)).mp y)), pe_gd (show frm k + nml k < am_sln by show _ < 130; omega) (by decide), pe_clamp (show frm k + nml k < 2147483648 by omega), nm.2.2.2 hk26, if_pos (show nI 32 = (32 : Int32) from rfl)]
        refine (bd _).trans ?_
        dsimp only
        rw [pu_jn]
        by_cases y : nml k = e - s
        · rw [if_pos y, if_pos (show nI (nml k) = nI (e - s) by rw [y])]
          dsimp only
          cases hsp : fX5_spells (nI (frm k)) (nI s) (nI e) g with
          | none => rfl
          | some q =>
            obtain ⟨v, g'⟩ := q
            rw [pu_bd, pu_bd]
            by_cases hv : v = 0
            · rw [if_pos hv, if_pos hv, pu_let, pu_let, a1, a2]
              try dsimp only
              rw [pu_let]
            · rw [if_neg hv, if_neg hv]
        · rw [if_neg y, if_neg (show ¬ nI (nml k) = nI (e - s) from fun z => y ((nn_eq (by omega) (by omega)).mp z))]
          dsimp only
          rw [pu_let, pu_let, a1, a2]
          try dsimp only
          rw [pu_let]
      rw [b1, fnd_drop _ k hk2]
      by_cases y : nml k = e - s
      · have sp := spL hT hc (s := s) hk2 (by omega) (fun i hi => hL i (by omega)) (nml k) 0 am_fu (by omega) (by have : am_fu = 1048576 := rfl; omega)
        rw [Nat.add_zero, show s + nml k = e by omega] at sp
        have spe : fX5_spells (nI (frm k)) (nI s) (nI e) g = some (if (∀ i, i < nml k → 0 ≤ i → b (s + i) = nmb k i) then nI 1 else nI 0, g) := by
          unfold fX5_spells
          exact sp
        rw [if_pos y, spe, pu_bd]
        by_cases z : ∀ i, i < nml k → 0 ≤ i → b (s + i) = nmb k i
        · have hl2 : lst b (e - s) s = nms.getD k [] := lst_eq _ _ _ |>.mpr ⟨y.symm, fun i hi => z i (by omega) (Nat.zero_le _)⟩
          rw [if_pos z, if_neg (show ¬ nI 1 = (0 : Int32) by decide), if_pos hl2]
        · have hl2 : ¬ lst b (e - s) s = nms.getD k [] := fun w => z (fun i h1 _ => ((lst_eq _ _ _).mp w).2 i (by omega))
          rw [if_neg z, if_pos (show nI 0 = (0 : Int32) from rfl), if_neg hl2, IH]
      · have hl2 : ¬ lst b (e - s) s = nms.getD k [] := fun w => y (((lst_eq _ _ _).mp w).1).symm
        rw [if_neg y, if_neg hl2, IH]
theorem q5_nameOf (hT : Tp b len) {g : am_G} (hc : CT b len g) {s e : Nat} (hse : s < e) (he : e ≤ len) (hL : ∀ i, i < e - s → isL (b (s + i)) = true) : fX5_nameOf (nI s) (nI e) g = some (nI (fnd 1 nms (lst b (e - s) s)), g) := by
  have h := nameL hT hc hse he hL 131 0 0 am_fu (by decide) (fun _ => Nat.zero_le _) (fun z => absurd z (by decide)) (by decide) (by decide)
  unfold fX5_nameOf
  exact h
end SCAN
