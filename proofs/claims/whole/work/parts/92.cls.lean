/-! ===== the class reads ===== -/
theorem Rch.le {b : Nat → Nat} {len : Nat} : ∀ {i : Nat}, Rch b len i → i ≤ plF b len i
  | 0, _ => Nat.zero_le _
  | i + 1, h => by
    have h1 : i ≤ plF b len i := Rch.le (fun j hj => h j (by omega))
    have h2 := h i (by omega)
    have h3 : plF b len i < len := by
      have a1 := plF_le b len i
      have a2 := tkS_0 (b := b) (len := len) (s := plF b len i) a1
      rcases Nat.lt_or_ge (plF b len i) len with z | z
      · exact z
      · exact absurd (a2.mpr (by omega)) h2
    have h4 := (enS_rg (b := b) (plF_le b len i)).2.2 h3
    have h5 := skp_rg b (len - enS b len (plF b len i)) (enS b len (plF b len i))
    rw [plF]
    omega
theorem Rch.b {b : Nat → Nat} {len i : Nat} (hT : Tp b len) (h : Rch b len i) : i ≤ 400 := by
  have := h.le
  have := plF_le b len i
  have := hT.1
  omega
theorem Rch.nx {b : Nat → Nat} {len i : Nat} (h : Rch b len i) (h0 : tkF b len i ≠ 0) : Rch b len (i + 1) := fun j hj => by
  by_cases e : j = i
  · rw [e]; exact h0
  · exact h j (by omega)
theorem tk_lt {b : Nat → Nat} {len i : Nat} (hT : Tp b len) : tkF b len i < 2002 := by
  unfold tkF tkS
  by_cases h0 : len ≤ plF b len i
  · rw [if_pos h0]; omega
  · rw [if_neg h0]
    split
    · have := (fnd_rg (lst b (enS b len (plF b len i) - plF b len i) (plF b len i))).2; omega
    · split
      · have key : ∀ d s a, a ≤ 1001 → vlF b d s a ≤ 1001 := by
          intro d
          induction d with
          | zero => intro s a ha; exact ha
          | succ d ih => intro s a ha; rw [vlF]; exact ih _ _ (by omega)
        have := key (enS b len (plF b len i) - plF b len i) (plF b len i) 0 (by omega)
        omega
      · have := hT.2 (plF b len i) (by omega)
        omega
def CS (md : Bool) (b : Nat → Nat) (len h u p bk : Nat) (g : am_G) : Prop := am_I g 29 7 = nI h ∧ am_I g 29 6 = nI u ∧ am_I g 29 8 = nI p ∧ am_I g 29 9 = nI bk ∧ am_I g 29 10 = nI (tN (!md)) ∧ (∀ i, Rch b len i → am_I g 31 i = nI (tkF b len i)) ∧ Rch b len h
def FcP (g g' : am_G) : Prop := g'.2 = g.2 ∧ ∀ a k, a ≠ 35 → ¬ (a = 29 ∧ 6 ≤ k ∧ k ≤ 9) → am_I g' a k = am_I g a k
theorem FcP.rf (g : am_G) : FcP g g := ⟨rfl, fun _ _ _ _ => rfl⟩
theorem FcP.tr {g h i : am_G} (h1 : FcP g h) (h2 : FcP h i) : FcP g i := ⟨h2.1.trans h1.1, fun a k x y => (h2.2 a k x y).trans (h1.2 a k x y)⟩
theorem FcP.si {g h : am_G} (h1 : FcP g h) {a k : Nat} (ha : a = 35 ∨ (a = 29 ∧ 6 ≤ k ∧ k ≤ 9)) (x : Int32) : FcP g (am_si h a k x) := ⟨h1.1, fun b j y z => by rw [pI_si, if_neg (fun w => by omega)]; exact h1.2 b j y z⟩
theorem CS.cg {md : Bool} {b : Nat → Nat} {len h u p bk h' u' p' bk' : Nat} {g g' : am_G} (hs : CS md b len h u p bk g) (hf : FcP g g') (e7 : am_I g' 29 7 = nI h') (e6 : am_I g' 29 6 = nI u') (e8 : am_I g' 29 8 = nI p') (e9 : am_I g' 29 9 = nI bk') (hR : Rch b len h') : CS md b len h' u' p' bk' g' :=
  ⟨e7, e6, e8, e9, by rw [hf.2 29 10 (by decide) (by omega)]; exact hs.2.2.2.2.1, fun i hi => by rw [hf.2 31 i (by decide) (by omega)]; exact hs.2.2.2.2.2.1 i hi, hR⟩
theorem or_nI (a b : Nat) : nI a ||| nI b = nI (a ||| b) := by
  show Int32.ofUInt32 (UInt32.ofNat a ||| UInt32.ofNat b) = Int32.ofUInt32 (UInt32.ofNat (a ||| b))
  rw [UInt32.ofNat_or]
theorem shl10 : ∀ k, k < 14 → nI k <<< (nI 10 &&& nI 31) = nI (2 ^ 10 * k) := by decide +kernel
theorem st_or' {k w : Nat} (hk : k < 14) (hw : w < 1024) : (nI k <<< (nI 10 &&& nI 31)) ||| nI w = nI (1024 * k + w) := by
  rw [shl10 k hk, or_nI, ← Nat.two_pow_add_eq_or_of_lt (show w < 2 ^ 10 from hw)]
section CLA
variable {md : Bool} {b : Nat → Nat} {len h u p bk : Nat} {g : am_G}
theorem CS.tk (hs : CS md b len h u p bk g) : am_I g 31 h = nI (tkF b len h) := hs.2.2.2.2.2.1 h hs.2.2.2.2.2.2
theorem q5_passT (hT : Tp b len) (hs : CS md b len h u p bk g) {c : Nat} (hc : tkF b len h = c) (h0 : c ≠ 0) : fX5_pass (nI c) g = some (nI 1, am_si g 29 7 (nI (h + 1))) ∧ CS md b len (h + 1) u p bk (am_si g 29 7 (nI (h + 1))) := by
  have e7 := hs.1
  have et := hs.tk
  have hb := hs.2.2.2.2.2.2.b hT
  rw [hc] at et
  refine ⟨?_, hs.cg ((FcP.rf g).si (by omega) _) (pe_ieq _ _ _ _) (by rw [pe_ik (by decide)]; exact hs.2.1) (by rw [pe_ik (by decide)]; exact hs.2.2.1) (by rw [pe_ik (by decide)]; exact hs.2.2.2.1) (hs.2.2.2.2.2.2.nx (by rw [hc]; exact h0))⟩
  unfold fX5_pass
  simp (disch := first | omega | assumption | decide) only [↓pv_let, ↓pv_jn, ↓reduceIte, pv_bd, ↓pv_ocs, ↓pv_ocn, pv_gdt, pe_gd, pe_clamp, pt_eq, pf_eq, pt_le, pf_le, pt_lt, pf_lt, nI_add, nn_mul, pe_sub, pb_0, pb_1, pb_z, pe_ieq, pe_ine, pe_ik, pP_si, pS_si, pn_si, ps_si, pL_si, decide_true, ofNat_nI, pe_srI, pe_srN, pe_srS, pe_srP, not_true_eq_false, not_false_eq_true, true_and, and_true, and_self, false_and, and_false, nI_m1, nI_ms, Nat.add_sub_cancel, pl_0, pl_1, pl_2, pl_3, pl_4, pl_5, pl_6, pl_7, pl_8, pl_9, pl_10, pl_11, pl_12, pl_13, pl_14, pl_15, pl_16, pl_17, pl_18, pl_19, pl_20, pl_21, pl_22, pl_23, pl_24, pl_25, pl_26, pl_27, pl_28, pl_29, pl_30, pl_31, pl_32, pl_34, pl_36, pl_37, pl_40, pl_41, pl_42, pl_43, pl_45, pl_47, pl_48, pl_50, pl_57, pl_59, pl_60, pl_61, pl_62, pl_64, pl_70, pl_91, pl_93, pl_97, pl_98, pl_99, pl_100, pl_106, pl_122, pl_128, pl_136, pl_142, pl_165, pl_168, pl_170, pl_171, pl_173, pl_175, pl_187, pl_188, pl_189, pl_190, pl_206, pl_211, pl_219, pl_229, pl_255, pl_260, pl_400, pl_500, pl_512, pl_900, pl_999, pl_1000, pl_1001, pl_1005, pl_1020, pl_1023, pl_1024, pl_1103, pl_2000, pl_2040, pl_2176, pl_5660, pl_9999, pl_12345, pl_1000000, pl_1000003, pl_100000000, pl_1000000000, pz_0, pz_1, pz_t, e7, et]
theorem q5_passF (hT : Tp b len) (hs : CS md b len h u p bk g) {c : Nat} (hc : tkF b len h ≠ c) (hc2 : c < 3000) : fX5_pass (nI c) g = some (nI 0, g) := by
  have e7 := hs.1
  have et := hs.tk
  have hb := hs.2.2.2.2.2.2.b hT
  have hl := tk_lt (i := h) hT
  unfold fX5_pass
  simp (disch := first | omega | assumption | decide) only [↓pv_let, ↓pv_jn, ↓reduceIte, pv_bd, ↓pv_ocs, ↓pv_ocn, pv_gdt, pe_gd, pe_clamp, pt_eq, pf_eq, pt_le, pf_le, pt_lt, pf_lt, nI_add, nn_mul, pe_sub, pb_0, pb_1, pb_z, pe_ieq, pe_ine, pe_ik, pP_si, pS_si, pn_si, ps_si, pL_si, decide_true, ofNat_nI, pe_srI, pe_srN, pe_srS, pe_srP, not_true_eq_false, not_false_eq_true, true_and, and_true, and_self, false_and, and_false, nI_m1, nI_ms, Nat.add_sub_cancel, pl_0, pl_1, pl_2, pl_3, pl_4, pl_5, pl_6, pl_7, pl_8, pl_9, pl_10, pl_11, pl_12, pl_13, pl_14, pl_15, pl_16, pl_17, pl_18, pl_19, pl_20, pl_21, pl_22, pl_23, pl_24, pl_25, pl_26, pl_27, pl_28, pl_29, pl_30, pl_31, pl_32, pl_34, pl_36, pl_37, pl_40, pl_41, pl_42, pl_43, pl_45, pl_47, pl_48, pl_50, pl_57, pl_59, pl_60, pl_61, pl_62, pl_64, pl_70, pl_91, pl_93, pl_97, pl_98, pl_99, pl_100, pl_106, pl_122, pl_128, pl_136, pl_142, pl_165, pl_168, pl_170, pl_171, pl_173, pl_175, pl_187, pl_188, pl_189, pl_190, pl_206, pl_211, pl_219, pl_229, pl_255, pl_260, pl_400, pl_500, pl_512, pl_900, pl_999, pl_1000, pl_1001, pl_1005, pl_1020, pl_1023, pl_1024, pl_1103, pl_2000, pl_2040, pl_2176, pl_5660, pl_9999, pl_12345, pl_1000000, pl_1000003, pl_100000000, pl_1000000000, pz_0, pz_1, pz_t, e7, et]
theorem q5_addStep (hs : CS md b len h u p bk g) {k w : Nat} (hk : k < 14) (hw : w < 1024) (hu : u < 512) : fX5_addStep (nI k) (nI w) g = some ((), am_si (am_si g 35 u (nI (1024 * k + w))) 29 6 (nI (u + 1))) ∧ CS md b len h (u + 1) p bk (am_si (am_si g 35 u (nI (1024 * k + w))) 29 6 (nI (u + 1))) := by
  have e6 := hs.2.1
  have so := st_or' hk hw
  refine ⟨?_, hs.cg (((FcP.rf g).si (by omega) _).si (by omega) _) (by rw [pe_ik (by decide), pe_ine (by decide)]; exact hs.1) (pe_ieq _ _ _ _) (by rw [pe_ik (by decide), pe_ine (by decide)]; exact hs.2.2.1) (by rw [pe_ik (by decide), pe_ine (by decide)]; exact hs.2.2.2.1) hs.2.2.2.2.2.2⟩
  unfold fX5_addStep
  rw [show (31 : Int32) = nI 31 from rfl, show (10 : Int32) = nI 10 from rfl, so]
  simp (disch := first | omega | assumption | decide) only [↓pv_let, ↓pv_jn, ↓reduceIte, pv_bd, ↓pv_ocs, ↓pv_ocn, pv_gdt, pe_gd, pe_clamp, pt_eq, pf_eq, pt_le, pf_le, pt_lt, pf_lt, nI_add, nn_mul, pe_sub, pb_0, pb_1, pb_z, pe_ieq, pe_ine, pe_ik, pP_si, pS_si, pn_si, ps_si, pL_si, decide_true, ofNat_nI, pe_srI, pe_srN, pe_srS, pe_srP, not_true_eq_false, not_false_eq_true, true_and, and_true, and_self, false_and, and_false, nI_m1, nI_ms, Nat.add_sub_cancel, pl_0, pl_1, pl_2, pl_3, pl_4, pl_5, pl_6, pl_7, pl_8, pl_9, pl_10, pl_11, pl_12, pl_13, pl_14, pl_15, pl_16, pl_17, pl_18, pl_19, pl_20, pl_21, pl_22, pl_23, pl_24, pl_25, pl_26, pl_27, pl_28, pl_29, pl_30, pl_31, pl_32, pl_34, pl_36, pl_37, pl_40, pl_41, pl_42, pl_43, pl_45, pl_47, pl_48, pl_50, pl_57, pl_59, pl_60, pl_61, pl_62, pl_64, pl_70, pl_91, pl_93, pl_97, pl_98, pl_99, pl_100, pl_106, pl_122, pl_128, pl_136, pl_142, pl_165, pl_168, pl_170, pl_171, pl_173, pl_175, pl_187, pl_188, pl_189, pl_190, pl_206, pl_211, pl_219, pl_229, pl_255, pl_260, pl_400, pl_500, pl_512, pl_900, pl_999, pl_1000, pl_1001, pl_1005, pl_1020, pl_1023, pl_1024, pl_1103, pl_2000, pl_2040, pl_2176, pl_5660, pl_9999, pl_12345, pl_1000000, pl_1000003, pl_100000000, pl_1000000000, pz_0, pz_1, pz_t, e6]
/-- a step more, or none, behind a fault -/
theorem q5_addF (k : Int32) (hg : ∃ x, am_I g 29 6 = nI x ∧ x ≤ 512) : ∃ g', fX5_addStep k 0 g = some ((), g') ∧ FcP g g' ∧ am_I g' 29 7 = am_I g 29 7 ∧ ∃ x, am_I g' 29 6 = nI x ∧ x ≤ 512 := by
  obtain ⟨x, e6, hx⟩ := hg
  unfold fX5_addStep
  by_cases h5 : x = 512
  · refine ⟨g, ?_, FcP.rf g, rfl, x, e6, hx⟩
    simp (disch := first | omega | assumption | decide) only [↓pv_let, ↓pv_jn, ↓reduceIte, pv_bd, ↓pv_ocs, ↓pv_ocn, pv_gdt, pe_gd, pe_clamp, pt_eq, pf_eq, pt_le, pf_le, pt_lt, pf_lt, nI_add, nn_mul, pe_sub, pb_0, pb_1, pb_z, pe_ieq, pe_ine, pe_ik, pP_si, pS_si, pn_si, ps_si, pL_si, decide_true, ofNat_nI, pe_srI, pe_srN, pe_srS, pe_srP, not_true_eq_false, not_false_eq_true, true_and, and_true, and_self, false_and, and_false, nI_m1, nI_ms, Nat.add_sub_cancel, pl_0, pl_1, pl_2, pl_3, pl_4, pl_5, pl_6, pl_7, pl_8, pl_9, pl_10, pl_11, pl_12, pl_13, pl_14, pl_15, pl_16, pl_17, pl_18, pl_19, pl_20, pl_21, pl_22, pl_23, pl_24, pl_25, pl_26, pl_27, pl_28, pl_29, pl_30, pl_31, pl_32, pl_34, pl_36, pl_37, pl_40, pl_41, pl_42, pl_43, pl_45, pl_47, pl_48, pl_50, pl_57, pl_59, pl_60, pl_61, pl_62, pl_64, pl_70, pl_91, pl_93, pl_97, pl_98, pl_99, pl_100, pl_106, pl_122, pl_128, pl_136, pl_142, pl_165, pl_168, pl_170, pl_171, pl_173, pl_175, pl_187, pl_188, pl_189, pl_190, pl_206, pl_211, pl_219, pl_229, pl_255, pl_260, pl_400, pl_500, pl_512, pl_900, pl_999, pl_1000, pl_1001, pl_1005, pl_1020, pl_1023, pl_1024, pl_1103, pl_2000, pl_2040, pl_2176, pl_5660, pl_9999, pl_12345, pl_1000000, pl_1000003, pl_100000000, pl_1000000000, pz_0, pz_1, pz_t, e6]
  · refine ⟨am_si (am_si g 35 x ((k <<< ((10 : Int32) &&& 31)) ||| 0)) 29 6 (nI (x + 1)), ?_, ((FcP.rf g).si (by omega) _).si (by omega) _, by rw [pe_ik (by decide), pe_ine (by decide)], x + 1, pe_ieq _ _ _ _, by omega⟩
    rw [e6, if_neg (show ¬ (512 : Int32) ≤ nI x from nI_ge (a := x) (b := 512) (by omega) (by decide)), pe_gd (show x < 512 by omega) (by decide), pu_let, pe_clamp (show x < 2147483648 by omega), pu_let, pe_ine (by decide), e6, show (1 : Int32) = nI 1 from rfl, nI_add]
theorem q5_aim (hs : CS md b len h u p bk g) {k s : Nat} (hk : k < 14) (hw : u < 1024) (hu : s < 512) : fX5_aim (nI s) (nI k) g = some ((), am_si g 35 s (nI (1024 * k + u))) := by
  have e6 := hs.2.1
  have so := st_or' hk hw
  unfold fX5_aim
  rw [e6, show (31 : Int32) = nI 31 from rfl, show (10 : Int32) = nI 10 from rfl, so]
  simp (disch := first | omega | assumption | decide) only [↓pv_let, ↓pv_jn, ↓reduceIte, pv_bd, ↓pv_ocs, ↓pv_ocn, pv_gdt, pe_gd, pe_clamp, pt_eq, pf_eq, pt_le, pf_le, pt_lt, pf_lt, nI_add, nn_mul, pe_sub, pb_0, pb_1, pb_z, pe_ieq, pe_ine, pe_ik, pP_si, pS_si, pn_si, ps_si, pL_si, decide_true, ofNat_nI, pe_srI, pe_srN, pe_srS, pe_srP, not_true_eq_false, not_false_eq_true, true_and, and_true, and_self, false_and, and_false, nI_m1, nI_ms, Nat.add_sub_cancel, pl_0, pl_1, pl_2, pl_3, pl_4, pl_5, pl_6, pl_7, pl_8, pl_9, pl_10, pl_11, pl_12, pl_13, pl_14, pl_15, pl_16, pl_17, pl_18, pl_19, pl_20, pl_21, pl_22, pl_23, pl_24, pl_25, pl_26, pl_27, pl_28, pl_29, pl_30, pl_31, pl_32, pl_34, pl_36, pl_37, pl_40, pl_41, pl_42, pl_43, pl_45, pl_47, pl_48, pl_50, pl_57, pl_59, pl_60, pl_61, pl_62, pl_64, pl_70, pl_91, pl_93, pl_97, pl_98, pl_99, pl_100, pl_106, pl_122, pl_128, pl_136, pl_142, pl_165, pl_168, pl_170, pl_171, pl_173, pl_175, pl_187, pl_188, pl_189, pl_190, pl_206, pl_211, pl_219, pl_229, pl_255, pl_260, pl_400, pl_500, pl_512, pl_900, pl_999, pl_1000, pl_1001, pl_1005, pl_1020, pl_1023, pl_1024, pl_1103, pl_2000, pl_2040, pl_2176, pl_5660, pl_9999, pl_12345, pl_1000000, pl_1000003, pl_100000000, pl_1000000000, pz_0, pz_1, pz_t]
theorem q5_aimF (s k : Nat) (hs : s < 512) : ∃ g', fX5_aim (nI s) (nI k) g = some ((), g') ∧ FcP g g' ∧ am_I g' 29 = am_I g 29 := by
  refine ⟨am_si g 35 s ((nI k <<< ((10 : Int32) &&& 31)) ||| (am_I g 29 6)), ?_, (FcP.rf g).si (by omega) _, by rw [pI_si_ne _ _ _ (by decide)]⟩
  unfold fX5_aim
  rw [if_neg (show ¬ (512 : Int32) ≤ nI s from nI_ge (a := s) (b := 512) (by omega) (by decide)), pe_gd hs (by decide), pu_let, pe_clamp (show s < 2147483648 by omega)]
end CLA
def jnF (c : Nat) : Nat := if c = 165 then 10 else if c = 170 then 8 else if c = 171 then 6 else if c = 173 then 7 else if c = 175 then 9 else if c = 188 then 11 else if c = 189 then 13 else if c = 190 then 12 else 0
theorem q5_joinOf {c : Nat} (hc : c < 3000) (g : am_G) : fX5_joinOf (nI c) g = some (nI (jnF c), g) := by
  by_cases h1 : c = 165
  · subst h1; rfl
  by_cases h2 : c = 170
  · subst h2; rfl
  by_cases h3 : c = 171
  · subst h3; rfl
  by_cases h4 : c = 173
  · subst h4; rfl
  by_cases h5 : c = 175
  · subst h5; rfl
  by_cases h6 : c = 188
  · subst h6; rfl
  by_cases h7 : c = 189
  · subst h7; rfl
  by_cases h8 : c = 190
  · subst h8; rfl
  unfold fX5_joinOf jnF
  simp (disch := first | omega | assumption | decide) only [↓pv_let, ↓pv_jn, ↓reduceIte, pv_bd, ↓pv_ocs, ↓pv_ocn, pv_gdt, pe_gd, pe_clamp, pt_eq, pf_eq, pt_le, pf_le, pt_lt, pf_lt, nI_add, nn_mul, pe_sub, pb_0, pb_1, pb_z, pe_ieq, pe_ine, pe_ik, pP_si, pS_si, pn_si, ps_si, pL_si, decide_true, ofNat_nI, pe_srI, pe_srN, pe_srS, pe_srP, not_true_eq_false, not_false_eq_true, true_and, and_true, and_self, false_and, and_false, nI_m1, nI_ms, Nat.add_sub_cancel, pl_0, pl_1, pl_2, pl_3, pl_4, pl_5, pl_6, pl_7, pl_8, pl_9, pl_10, pl_11, pl_12, pl_13, pl_14, pl_15, pl_16, pl_17, pl_18, pl_19, pl_20, pl_21, pl_22, pl_23, pl_24, pl_25, pl_26, pl_27, pl_28, pl_29, pl_30, pl_31, pl_32, pl_34, pl_36, pl_37, pl_40, pl_41, pl_42, pl_43, pl_45, pl_47, pl_48, pl_50, pl_57, pl_59, pl_60, pl_61, pl_62, pl_64, pl_70, pl_91, pl_93, pl_97, pl_98, pl_99, pl_100, pl_106, pl_122, pl_128, pl_136, pl_142, pl_165, pl_168, pl_170, pl_171, pl_173, pl_175, pl_187, pl_188, pl_189, pl_190, pl_206, pl_211, pl_219, pl_229, pl_255, pl_260, pl_400, pl_500, pl_512, pl_900, pl_999, pl_1000, pl_1001, pl_1005, pl_1020, pl_1023, pl_1024, pl_1103, pl_2000, pl_2040, pl_2176, pl_5660, pl_9999, pl_12345, pl_1000000, pl_1000003, pl_100000000, pl_1000000000, pz_0, pz_1, pz_t, h1, h2, h3, h4, h5, h6, h7, h8]
theorem jn_ar {c o : Nat} (h : isAr c o) : jnF c + 14 = o ∧ 20 ≤ o ∧ o ≤ 24 ∧ c ≠ 0 := by
  rcases h with ⟨rfl, rfl⟩ | ⟨rfl, rfl⟩ | ⟨rfl, rfl⟩ | ⟨rfl, rfl⟩ | ⟨rfl, rfl⟩ <;> decide
theorem jn_cp {c o : Nat} (h : isCp c o) : jnF c + 14 = o ∧ 25 ≤ o ∧ o ≤ 27 ∧ c ≠ 0 := by
  rcases h with ⟨rfl, rfl⟩ | ⟨rfl, rfl⟩ | ⟨rfl, rfl⟩ <;> decide
theorem jn_inv (c : Nat) : (isAr c (jnF c + 14) ∧ 6 ≤ jnF c ∧ jnF c ≤ 10) ∨ (isCp c (jnF c + 14) ∧ 11 ≤ jnF c ∧ jnF c ≤ 13) ∨ (jnF c = 0 ∧ nAr c ∧ c ≠ 188 ∧ c ≠ 190 ∧ c ≠ 189) := by
  by_cases h1 : c = 165
  · subst h1; left; unfold isAr jnF; decide
  by_cases h2 : c = 170
  · subst h2; left; unfold isAr jnF; decide
  by_cases h3 : c = 171
  · subst h3; left; unfold isAr jnF; decide
  by_cases h4 : c = 173
  · subst h4; left; unfold isAr jnF; decide
  by_cases h5 : c = 175
  · subst h5; left; unfold isAr jnF; decide
  by_cases h6 : c = 188
  · subst h6; right; left; unfold isCp jnF; decide
  by_cases h7 : c = 189
  · subst h7; right; left; unfold isCp jnF; decide
  by_cases h8 : c = 190
  · subst h8; right; left; unfold isCp jnF; decide
  right; right
  refine ⟨?_, ⟨h3, h4, h2, h5, h1⟩, h6, h8, h7⟩
  unfold jnF
  rw [if_neg h1, if_neg h2, if_neg h3, if_neg h4, if_neg h5, if_neg h6, if_neg h7, if_neg h8]
