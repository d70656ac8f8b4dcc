/-! ===== winter, the method ===== -/
def z9 (ρ : Row) : Row := fun j => if j = 8 ∨ (10 ≤ j ∧ j < 70 ∧ (j - 10) % 10 = 9) then nI 0 else ρ j
theorem of9_z9 (ρ : Row) : of9 ρ (z9 ρ) = ρ := by
  funext j
  unfold of9 z9
  split
  · exact Int32.zero_add _
  · rfl
theorem z9_ok {ρ : Row} (h : okV ρ) : okV (z9 ρ) := by
  intro j hj hs
  unfold z9
  split
  · rename_i hh
    by_cases h8 : j = 8
    · exact okAt_free (Or.inl h8) _
    · exact absurd (by unfold stp; omega) hs
  · exact h j hj hs
theorem vr_z9 {g : am_G} (f : Nat → Int32) (hf : ∀ k, k < 6 → f k = nI 0) : vr (am_si (am_sr g 76 f) 71 6 (nI 0)) 1 71 = z9 (vr g 1 71) := by
  rw [w_ha (p := 71) (by unfold VP; omega)]
  funext j
  unfold z9
  by_cases h8 : j = 8
  · subst h8
    rw [am_up_eq, if_pos (Or.inl rfl)]
  · rw [am_up_ne h8]
    by_cases hj : j < 259
    · rw [vr_at hj]
      by_cases h9 : 10 ≤ j ∧ j < 70 ∧ (j - 10) % 10 = 9
      · rw [if_pos (Or.inr h9)]
        obtain ⟨s, hs, rfl⟩ : ∃ s, s < 6 ∧ j = 10 + 10 * s + 9 := ⟨(j - 10) / 10, by omega, by omega⟩
        rw [(va_t (v := 1) (p := 71) (vT_s s hs).2.2.2.2.2).1, (va_t (v := 1) (p := 71) (vT_s s hs).2.2.2.2.2).2, pI_sr_row]
        exact hf s hs
      · rw [if_neg (by omega), vr_at hj]
        have key : ∀ j, j < 259 → ¬ (10 ≤ j ∧ j < 70 ∧ (j - 10) % 10 = 9) → ((vT j).1 = true → (vT j).2.1 ≠ 5) := by decide +kernel
        have hk := key j hj h9
        have sm := vT_sm j hj
        have hne : vA 1 71 j ≠ 76 := by
          unfold vA
          cases hc : (vT j).1
          · have := sm.2.1 hc; simp only [if_false, Bool.false_eq_true]; omega
          · have := sm.1 hc; have := hk hc; simp only [if_true]; omega
        rw [pI_sr_ne _ _ hne]
    · rw [if_neg (by omega)]
      unfold vr
      rw [if_neg hj, if_neg hj]
theorem wR1 {a2 x19 : Int32} : ∀ (d s n : Nat) (g : am_G), s + d = 6 → d < n → ∃ f, (∀ k, fX12_winter_L63 k a2 x19 n (nI s) g = k (am_sr g 34 f)) ∧ (∀ t, s ≤ t → t < 6 → f (2 * t + 1) = -am_I g 2 (10 + 10 * t + 9)) ∧ ∀ j, (∀ t, s ≤ t → t < 6 → j ≠ 2 * t + 1) → f j = am_I g 34 j
  | 0, s, n, g, hd, hn => by
    obtain ⟨n, rfl⟩ : ∃ k, n = k + 1 := ⟨n - 1, by omega⟩
    obtain rfl : s = 6 := by omega
    refine ⟨am_I g 34, fun k => ?_, fun t h1 h2 => by omega, fun _ _ => rfl⟩
    rw [sr_self, fX12_winter_L63]
    simp (disch := first | omega | assumption | decide) only [↓pv_let, ↓pv_jn, ↓reduceIte, pv_bd, ↓pv_ocs, ↓pv_ocn, pv_gdt, pe_gd, pe_clamp, pt_eq, pf_eq, pt_le, pf_le, pt_lt, pf_lt, nI_add, nn_mul, pe_sub, pb_0, pb_1, pb_z, pe_ieq, pe_ine, pe_ik, pP_si, pS_si, pn_si, ps_si, pL_si, decide_true, ofNat_nI, pe_srI, pe_srN, pe_srS, pe_srP, not_true_eq_false, not_false_eq_true, true_and, and_true, and_self, false_and, and_false, nI_m1, nI_ms, Nat.add_sub_cancel, pl_0, pl_1, pl_2, pl_3, pl_4, pl_5, pl_6, pl_7, pl_8, pl_9, pl_10, pl_11, pl_12, pl_13, pl_14, pl_15, pl_16, pl_17, pl_18, pl_19, pl_20, pl_21, pl_22, pl_23, pl_24, pl_25, pl_26, pl_27, pl_28, pl_29, pl_30, pl_31, pl_32, pl_34, pl_36, pl_37, pl_40, pl_41, pl_42, pl_43, pl_45, pl_47, pl_48, pl_50, pl_57, pl_59, pl_60, pl_61, pl_62, pl_64, pl_70, pl_91, pl_93, pl_97, pl_98, pl_99, pl_100, pl_106, pl_122, pl_128, pl_136, pl_142, pl_165, pl_168, pl_170, pl_171, pl_173, pl_175, pl_187, pl_188, pl_189, pl_190, pl_206, pl_211, pl_219, pl_229, pl_255, pl_260, pl_400, pl_500, pl_512, pl_900, pl_999, pl_1000, pl_1001, pl_1005, pl_1020, pl_1023, pl_1024, pl_1103, pl_2000, pl_2040, pl_2176, pl_5660, pl_9999, pl_12345, pl_1000000, pl_1000003, pl_100000000, pl_1000000000, pz_0, pz_1, pz_t]
  | d + 1, s, n, g, hd, hn => by
    obtain ⟨n, rfl⟩ : ∃ k, n = k + 1 := ⟨n - 1, by omega⟩
    obtain ⟨f, e, h1, h2⟩ := wR1 (a2 := a2) (x19 := x19) d (s + 1) n (am_si g 34 (2 * s + 1) (-am_I g 2 (10 + 10 * s + 9))) (by omega) (by omega)
    refine ⟨f, fun k => ?_, fun t ht1 ht2 => ?_, fun j hj => ?_⟩
    · have e2 : am_sr (am_si g 34 (2 * s + 1) (-am_I g 2 (10 + 10 * s + 9))) 34 f = am_sr g 34 f := by
        show am_sr (am_sr g 34 _) 34 f = _
        rw [sr_sr]
      have ek := e k
      rw [e2] at ek
      rw [← ek, fX12_winter_L63]
      simp (disch := first | omega | assumption | decide) only [↓pv_let, ↓pv_jn, ↓reduceIte, pv_bd, ↓pv_ocs, ↓pv_ocn, pv_gdt, pe_gd, pe_clamp, pt_eq, pf_eq, pt_le, pf_le, pt_lt, pf_lt, nI_add, nn_mul, pe_sub, pb_0, pb_1, pb_z, pe_ieq, pe_ine, pe_ik, pP_si, pS_si, pn_si, ps_si, pL_si, decide_true, ofNat_nI, pe_srI, pe_srN, pe_srS, pe_srP, not_true_eq_false, not_false_eq_true, true_and, and_true, and_self, false_and, and_false, nI_m1, nI_ms, Nat.add_sub_cancel, pl_0, pl_1, pl_2, pl_3, pl_4, pl_5, pl_6, pl_7, pl_8, pl_9, pl_10, pl_11, pl_12, pl_13, pl_14, pl_15, pl_16, pl_17, pl_18, pl_19, pl_20, pl_21, pl_22, pl_23, pl_24, pl_25, pl_26, pl_27, pl_28, pl_29, pl_30, pl_31, pl_32, pl_34, pl_36, pl_37, pl_40, pl_41, pl_42, pl_43, pl_45, pl_47, pl_48, pl_50, pl_57, pl_59, pl_60, pl_61, pl_62, pl_64, pl_70, pl_91, pl_93, pl_97, pl_98, pl_99, pl_100, pl_106, pl_122, pl_128, pl_136, pl_142, pl_165, pl_168, pl_170, pl_171, pl_173, pl_175, pl_187, pl_188, pl_189, pl_190, pl_206, pl_211, pl_219, pl_229, pl_255, pl_260, pl_400, pl_500, pl_512, pl_900, pl_999, pl_1000, pl_1001, pl_1005, pl_1020, pl_1023, pl_1024, pl_1103, pl_2000, pl_2040, pl_2176, pl_5660, pl_9999, pl_12345, pl_1000000, pl_1000003, pl_100000000, pl_1000000000, pz_0, pz_1, pz_t, s12_ofSlope]
    · by_cases et : t = s
      · subst et
        rw [h2 _ (fun u hu1 hu2 => by omega), pe_ieq]
      · rw [h1 t (by omega) ht2, pI_si_ne _ _ _ (by decide)]
    · rw [h2 j (fun u hu1 hu2 => hj u (by omega) hu2), pe_ik (hj s (Nat.le_refl _) (by omega))]
theorem wR2 {x19 : Int32} {fin : am_G → Option (Int32 × am_G)} (hfin : ∀ n g, fX12_winter_L211 x19 (n + 1) (nI 6) g = fin g) : ∀ (d s n : Nat) (g : am_G), s + d = 6 → d < n → ∃ f, fX12_winter_L211 x19 n (nI s) g = fin (am_sr g 34 f) ∧ (∀ t, s ≤ t → t < 6 → f (2 * t) = am_I g 2 (10 + 10 * t + 0) ∧ f (2 * t + 1) = am_I g 34 (2 * t + 1) + am_I g 2 (10 + 10 * t + 9)) ∧ ∀ j, (∀ t, s ≤ t → t < 6 → j ≠ 2 * t ∧ j ≠ 2 * t + 1) → f j = am_I g 34 j
  | 0, s, n, g, hd, hn => by
    obtain ⟨n, rfl⟩ : ∃ k, n = k + 1 := ⟨n - 1, by omega⟩
    obtain rfl : s = 6 := by omega
    refine ⟨am_I g 34, ?_, fun t h1 h2 => by omega, fun _ _ => rfl⟩
    rw [sr_self]
    exact hfin n g
  | d + 1, s, n, g, hd, hn => by
    obtain ⟨n, rfl⟩ : ∃ k, n = k + 1 := ⟨n - 1, by omega⟩
    obtain ⟨f, e, h1, h2⟩ := wR2 hfin d (s + 1) n (am_si (am_si g 34 (2 * s) (am_I g 2 (10 + 10 * s + 0))) 34 (2 * s + 1) (am_I g 34 (2 * s + 1) + am_I g 2 (10 + 10 * s + 9))) (by omega) (by omega)
    have e2 : am_sr (am_si (am_si g 34 (2 * s) (am_I g 2 (10 + 10 * s + 0))) 34 (2 * s + 1) (am_I g 34 (2 * s + 1) + am_I g 2 (10 + 10 * s + 9))) 34 f = am_sr g 34 f := by
      show am_sr (am_sr (am_sr g 34 _) 34 _) 34 f = _
      rw [sr_sr, sr_sr]
    rw [e2] at e
    refine ⟨f, ?_, fun t ht1 ht2 => ?_, fun j hj => ?_⟩
    · rw [← e, fX12_winter_L211]
      simp (disch := first | omega | assumption | decide) only [↓pv_let, ↓pv_jn, ↓reduceIte, pv_bd, ↓pv_ocs, ↓pv_ocn, pv_gdt, pe_gd, pe_clamp, pt_eq, pf_eq, pt_le, pf_le, pt_lt, pf_lt, nI_add, nn_mul, pe_sub, pb_0, pb_1, pb_z, pe_ieq, pe_ine, pe_ik, pP_si, pS_si, pn_si, ps_si, pL_si, decide_true, ofNat_nI, pe_srI, pe_srN, pe_srS, pe_srP, not_true_eq_false, not_false_eq_true, true_and, and_true, and_self, false_and, and_false, nI_m1, nI_ms, Nat.add_sub_cancel, pl_0, pl_1, pl_2, pl_3, pl_4, pl_5, pl_6, pl_7, pl_8, pl_9, pl_10, pl_11, pl_12, pl_13, pl_14, pl_15, pl_16, pl_17, pl_18, pl_19, pl_20, pl_21, pl_22, pl_23, pl_24, pl_25, pl_26, pl_27, pl_28, pl_29, pl_30, pl_31, pl_32, pl_34, pl_36, pl_37, pl_40, pl_41, pl_42, pl_43, pl_45, pl_47, pl_48, pl_50, pl_57, pl_59, pl_60, pl_61, pl_62, pl_64, pl_70, pl_91, pl_93, pl_97, pl_98, pl_99, pl_100, pl_106, pl_122, pl_128, pl_136, pl_142, pl_165, pl_168, pl_170, pl_171, pl_173, pl_175, pl_187, pl_188, pl_189, pl_190, pl_206, pl_211, pl_219, pl_229, pl_255, pl_260, pl_400, pl_500, pl_512, pl_900, pl_999, pl_1000, pl_1001, pl_1005, pl_1020, pl_1023, pl_1024, pl_1103, pl_2000, pl_2040, pl_2176, pl_5660, pl_9999, pl_12345, pl_1000000, pl_1000003, pl_100000000, pl_1000000000, pz_0, pz_1, pz_t, s12_ofSlope]
    · by_cases et : t = s
      · subst et
        rw [h2 _ (fun u hu1 hu2 => by omega), h2 _ (fun u hu1 hu2 => by omega), pe_ieq, pe_ik (by omega), pe_ieq]
        exact ⟨rfl, rfl⟩
      · rw [(h1 t (by omega) ht2).1, (h1 t (by omega) ht2).2, pI_si_ne _ _ _ (show 2 ≠ 34 by decide), pI_si_ne _ _ _ (show 2 ≠ 34 by decide), pe_ik (by omega), pe_ik (by omega)]
        exact ⟨rfl, rfl⟩
    · have hs := hj s (Nat.le_refl _) (by omega)
      rw [h2 j (fun u hu1 hu2 => hj u (by omega) hu2), pe_ik hs.2, pe_ik hs.1]
theorem m_winter {t : Nat} {gc gr : am_G} (h : Rel t gc gr) (a1 a2 : Int32) : ∃ (v : Int32) (gc1 gr1 : am_G), fX11_winter a1 a2 gc = some (v, gc1) ∧ fX12_winter a1 a2 gr = some (v, gr1) ∧ Rel (t + 1) gc1 gr1 := by
  have hT := RelM.thr h
  have no : ∃ (v : Int32) (gc1 gr1 : am_G), some (-nI 1, refC 1 gc) = some (v, gc1) ∧ some (-nI 1, refR 1 (thr gr)) = some (v, gr1) ∧ Rel (t + 1) gc1 gr1 := ⟨_, _, _, rfl, rfl, Rel.nx (hT.refu (by decide))⟩
  unfold fX11_winter fX12_winter
  rw [show fX12_in a1.toInt64 (0 : Int64) (1000000 : Int64) = fX12_in a1.toInt64 (nI 0).toInt64 (nI 1000000).toInt64 from rfl, show fX12_in a2.toInt64 (1 : Int64) (100 : Int64) = fX12_in a2.toInt64 (nI 1).toInt64 (nI 100).toInt64 from rfl]
  by_cases h1 : nI 0 ≤ a1 ∧ a1 ≤ nI 1000000
  · by_cases h2 : nI 1 ≤ a2 ∧ a2 ≤ nI 100
    · obtain ⟨m, hm, rfl⟩ := nn_rng (n := 1000000) (by decide) h1
      obtain ⟨N, hN, rfl⟩ := nn_rng (n := 100) (by decide) ⟨Int32.le_trans (by decide) h2.1, h2.2⟩
      have hN1 : 1 ≤ N := (nI_leI (a := 1) (by decide) (by omega)).mp h2.1
      obtain ⟨nw, hnw, er, ec⟩ := RelM.cntw hT
      obtain ⟨q, hq, hq'⟩ := RelM.law hT
      have hO := hT.2.1.okR
      obtain ⟨hR, hI, own, hU, hG, hTp, hC, hW, -⟩ := id hT
      have hP2 := hC.2.1.2.1
      have hP71 := hC.2.2.2.1
      -- the class's start
      have c1 := q2_copyFrom (g := gc) (b := 71) (a := 2) hP71 hP2 (by omega)
      have S76 : am_S (cpk gc 71 2) 76 = (20, 6) := hP71.2.2.2.2.2.2.2.2.2.2
      have c2 := qJ_fill (fx := zc_n) (a := 76) (len := 6) (by decide) (nI 0) (g := cpk gc 71 2) S76
      have fK := cpk_fr gc 71 2
      generalize hg1 : am_si (am_sr (cpk gc 71 2) 76 (fun k => if k < 6 then nI 0 else am_I (cpk gc 71 2) 76 k)) 71 6 (nI 0) = g1
      have fc1 : Fc 71 gc g1 := by
        rw [← hg1]
        exact ((show Fc 71 gc (cpk gc 71 2) from ⟨rfl, fun a h1 _ _ => fK.2 a h1⟩).sr (by omega) _).si (by omega) _ _
      have v1 : vr g1 1 71 = z9 (rr (thr gr)) := by
        rw [← hg1, vr_z9 _ (fun k hk => if_pos hk), cpk_vr (by unfold VP; omega) (by omega), hR.row]
      -- the reference's start
      have k1 := q12_keepAll (k := 16) (by decide) (thr gr)
      generalize hr0 : am_sr (thr gr) 5 (fun j => if 136 * 16 ≤ j ∧ j < 136 * 16 + 136 then am_I (thr gr) 2 (6 + (j - 136 * 16)) else am_I (thr gr) 5 j) = r0 at k1
      generalize hr1 : am_si (am_sl r0 0 61 (nI m).toInt64) 0 63 (nI 1) = r1
      obtain ⟨f3, e3, d3, n3⟩ := wR1 (a2 := nI N) (x19 := am_I r1 2 8) 6 0 am_fu r1 rfl (by decide)
      have r12 : am_I r1 2 = am_I (thr gr) 2 := by rw [← hr1, pI_si_ne _ _ _ (by decide), rI_sl, ← hr0, pI_sr_ne _ _ (by decide)]
      have hrr : rr (am_sr r1 34 f3) = of9 (rr (thr gr)) (z9 (rr (thr gr))) := by
        rw [of9_z9]
        exact rr_cg (by rw [pI_sr_ne _ _ (by decide), r12])
      have z8 : z9 (rr (thr gr)) 8 = nI 0 := if_pos (Or.inl rfl)
      obtain ⟨g', r', ρ', h', w1, w2, w3, w4, w5, w6, w7, w8⟩ := winL (q := q) (nw := nw) (N := N) (δ := rr (thr gr)) hnw hN N 0 am_fu am_fu m 0 g1 (am_sr r1 34 f3) (z9 (rr (thr gr))) (by omega) (by have : am_fu = 1048576 := rfl; omega) (by have : am_fu = 1048576 := rfl; omega) (by omega) (Nat.le_refl _) z8 (z9_ok hO.ov) (by rw [fc1.2 12 (by omega) (by decide) (by decide)]; exact ec) (hP71.eq fc1.1) (hq.fcp (p := 71) (Or.inr (by decide)) fc1) v1 (by rw [pI_sr_ne _ _ (by decide), r12]; exact er) (by rw [pI_sr_ne _ _ (by decide), r12]; exact hq') (by rw [pI_sr_ne _ _ (by decide), ← hr1, pe_ik (by decide), rI_sl, ← hr0, pI_sr_ne _ _ (by decide)]; exact hT.ord) hrr (by show am_L r1 0 61 = _; rw [← hr1, rL_si, rLk])
      have hh : h' ≤ 11998800 := Nat.le_trans w8 (by omega)
      -- the reference's end
      have hfin : ∀ n g, fX12_winter_L211 (am_I r1 2 8) (n + 1) (nI 6) g = am_bd (fX12_putBack (nI 16) g) fun _ g80 => am_bd (fX12_tell (am_I g 2 8 - am_I r1 2 8) g80) fun v82 g83 => some (v82, g83) := by
        intro n g
        rw [fX12_winter_L211]
        simp (disch := first | omega | assumption | decide) only [↓pv_let, ↓pv_jn, ↓reduceIte, pv_bd, ↓pv_ocs, ↓pv_ocn, pv_gdt, pe_gd, pe_clamp, pt_eq, pf_eq, pt_le, pf_le, pt_lt, pf_lt, nI_add, nn_mul, pe_sub, pb_0, pb_1, pb_z, pe_ieq, pe_ine, pe_ik, pP_si, pS_si, pn_si, ps_si, pL_si, decide_true, ofNat_nI, pe_srI, pe_srN, pe_srS, pe_srP, not_true_eq_false, not_false_eq_true, true_and, and_true, and_self, false_and, and_false, nI_m1, nI_ms, Nat.add_sub_cancel, pl_0, pl_1, pl_2, pl_3, pl_4, pl_5, pl_6, pl_7, pl_8, pl_9, pl_10, pl_11, pl_12, pl_13, pl_14, pl_15, pl_16, pl_17, pl_18, pl_19, pl_20, pl_21, pl_22, pl_23, pl_24, pl_25, pl_26, pl_27, pl_28, pl_29, pl_30, pl_31, pl_32, pl_34, pl_36, pl_37, pl_40, pl_41, pl_42, pl_43, pl_45, pl_47, pl_48, pl_50, pl_57, pl_59, pl_60, pl_61, pl_62, pl_64, pl_70, pl_91, pl_93, pl_97, pl_98, pl_99, pl_100, pl_106, pl_122, pl_128, pl_136, pl_142, pl_165, pl_168, pl_170, pl_171, pl_173, pl_175, pl_187, pl_188, pl_189, pl_190, pl_206, pl_211, pl_219, pl_229, pl_255, pl_260, pl_400, pl_500, pl_512, pl_900, pl_999, pl_1000, pl_1001, pl_1005, pl_1020, pl_1023, pl_1024, pl_1103, pl_2000, pl_2040, pl_2176, pl_5660, pl_9999, pl_12345, pl_1000000, pl_1000003, pl_100000000, pl_1000000000, pz_0, pz_1, pz_t]
      obtain ⟨f5, e5, d5, n5⟩ := wR2 hfin 6 0 am_fu r' rfl (by decide)
      have pb5 := q12_putBack (k := 16) (by decide) (am_sr r' 34 f5)
      generalize hr6 : am_sr (am_sr r' 34 f5) 2 (fun j => if 6 ≤ j ∧ j < 142 then am_I (am_sr r' 34 f5) 5 (136 * 16 + (j - 6)) else am_I (am_sr r' 34 f5) 2 j) = r6 at pb5
      have at2 : ∀ j, j < 259 → am_I r' 2 j = of9 (rr (thr gr)) ρ' j := fun j hj => by rw [← w4, rr_at hj]
      have e15 : ∀ k, am_I r1 5 k = am_I r0 5 k := fun k => by rw [← hr1, pI_si_ne _ _ _ (by decide), rI_sl]
      have a62 : am_I r6 2 = am_I (thr gr) 2 := by
        rw [← hr6, pI_sr_row]
        funext j
        by_cases hj : 6 ≤ j ∧ j < 142
        · rw [if_pos hj, pI_sr_ne _ _ (by decide), w6.1 5 _ (by decide) (by decide) (by omega) (by omega), pI_sr_ne _ _ (by decide), e15, ← hr0, pI_sr_row, if_pos (by omega), show 6 + (136 * 16 + (j - 6) - 136 * 16) = j by omega]
        · rw [if_neg hj, pI_sr_ne _ _ (by decide), w6.1 2 j (by decide) (by decide) (by omega) (by unfold pkj; omega), pI_sr_ne _ _ (by decide), r12]
      have a6 : ∀ a k, a ≠ 2 → a ≠ 34 → a ≠ 21 → a ≠ 22 → ¬ (a = 0 ∧ (k = 34 ∨ k = 38)) → am_I r6 a k = am_I r1 a k := by
        intro a k h2 h34 h21 h22 h0
        rw [← hr6, pI_sr_ne _ _ h2, pI_sr_ne _ _ h34, w6.1 a k h21 h22 h0 (by omega), pI_sr_ne _ _ h34]
      have a1 : ∀ a k, ¬ (a = 0 ∧ k = 63) → ¬ (a = 5 ∧ 2176 ≤ k) → am_I r1 a k = am_I (thr gr) a k := by
        intro a k h0 h5
        rw [← hr1, pI_si, if_neg h0, rI_sl, ← hr0]
        by_cases e : a = 5
        · subst e; rw [pI_sr_row, if_neg (by omega)]
        · rw [pI_sr_ne _ _ e]
      have hx : am_I r' 2 8 - am_I r1 2 8 = nI h' := by
        rw [at2 8 (by decide), of9_y (Or.inl rfl), w7, r12, ← rr_at (g := thr gr) (by decide)]
        exact Int32.add_sub_cancel _ _
      have fcg : Fc 71 gc g' := fc1.tr w5
      have h3 : RelM (239760 * t) t (am_si gc 0 13 (nI 1)) (am_si (thr gr) 0 63 (nI 1)) :=
        hT.step (Nat.le_refl _) (Nat.le_refl _) ⟨hR.w (by decide +kernel) _, ⟨hI.1, hI.2.1, by rw [pe_ik (by decide)]; exact hI.2.2.1, by rw [pe_ik (by decide)]; exact hI.2.2.2⟩, (Qc.refl gc).si (by decide) (by decide) (by decide), (Qr.refl (thr gr)).si (by decide) (by decide), Or.inr ⟨by rw [pe_ik (by decide)], fun _ _ => rfl⟩⟩
      have hcW : FcW (am_si gc 0 13 (nI 1)) (am_si g' 0 13 (nI 1)) := by
        refine ⟨fcg.1, fun a h1 h2 => ?_⟩
        have e := fcg.2 a (by omega) (by omega) (by omega)
        funext k
        rw [pI_si, pI_si, e]
      have hrX : FrX (am_si (thr gr) 0 63 (nI 1)) r6 := by
        refine ⟨fun a k hsc => ?_, fun a h0 h18 h19 h20 => ?_, ?_⟩
        · unfold scX scR at hsc
          by_cases e2 : a = 2
          · subst e2; rw [a62, pI_si_ne _ _ _ (by decide)]
          · by_cases e0 : a = 0 ∧ k = 63
            · rw [e0.1, e0.2, a6 0 63 (by decide) (by decide) (by decide) (by decide) (by decide), pe_ieq, ← hr1, pe_ieq]
            · rw [a6 a k e2 (by omega) (by omega) (by omega) (by unfold sc0 at hsc; omega), a1 a k e0 (by omega), pI_si, if_neg e0]
        · rw [← hr6]
          show am_L r' a = am_L (thr gr) a
          rw [w6.2.1 a h0 h18 h20]
          show am_L r1 a = am_L (thr gr) a
          rw [← hr1]
          funext j
          rw [rL_si, pL_sl, if_neg (fun z => h0 z.1), ← hr0]
          rfl
        · rw [← hr6]
          show r'.2.2 = (thr gr).2.2
          rw [w6.2.2]
          show r1.2.2 = (thr gr).2.2
          rw [← hr1]
          show r0.2.2 = _
          rw [← hr0]
          rfl
      have hWin : WinR (am_si g' 0 13 (nI 1)) r6 := by
        intro s hs
        have d := d5 s (Nat.zero_le _) hs
        rw [pI_si_ne _ _ _ (show 72 ≠ 0 by decide), pI_si_ne _ _ _ (show 76 ≠ 0 by decide), ← hr6, pI_sr_ne _ _ (show 34 ≠ 2 by decide), pI_sr_row, d.1, d.2, at2 _ (by omega), at2 _ (by omega), of9_at (j := 10 + 10 * s + 0) (by unfold o9; omega), of9_y (j := 10 + 10 * s + 9) (by unfold o9; omega), show am_I g' 72 s = vr g' 1 71 (10 + 10 * s + 0) from r_sn (p := 71) hs, show am_I g' 76 s = vr g' 1 71 (10 + 10 * s + 9) from r_sl (p := 71) hs, w3]
        refine ⟨rfl, ?_⟩
        rw [w6.1 34 _ (by decide) (by decide) (by omega) (by omega), pI_sr_row, d3 s (Nat.zero_le _) hs, r12, rr_at (by omega), Int32.add_comm (ρ' (10 + 10 * s + 9)), ← Int32.add_assoc, Int32.add_left_neg, Int32.zero_add]
      have hRel := Rel.nx ((h3.scrW hcW hrX hWin).acc)
      have eh : am_I g' 71 6 = nI h' := by rw [r_ha, w3]; exact w7
      refine ⟨nI h', accC (am_si g' 0 13 (nI 1)), accR r6, ?_, ?_, hRel⟩
      · unfold finC at w1
        rw [eh] at w1
        rw [← w1, ← hg1]
        simp (disch := first | omega | assumption | decide) only [↓pv_let, ↓pv_jn, ↓reduceIte, pv_bd, ↓pv_ocs, ↓pv_ocn, pv_gdt, pe_gd, pe_clamp, pt_eq, pf_eq, pt_le, pf_le, pt_lt, pf_lt, nI_add, nn_mul, pe_sub, pb_0, pb_1, pb_z, pe_ieq, pe_ine, pe_ik, pP_si, pS_si, pn_si, ps_si, pL_si, decide_true, ofNat_nI, pe_srI, pe_srN, pe_srS, pe_srP, not_true_eq_false, not_false_eq_true, true_and, and_true, and_self, false_and, and_false, nI_m1, nI_ms, Nat.add_sub_cancel, pl_0, pl_1, pl_2, pl_3, pl_4, pl_5, pl_6, pl_7, pl_8, pl_9, pl_10, pl_11, pl_12, pl_13, pl_14, pl_15, pl_16, pl_17, pl_18, pl_19, pl_20, pl_21, pl_22, pl_23, pl_24, pl_25, pl_26, pl_27, pl_28, pl_29, pl_30, pl_31, pl_32, pl_34, pl_36, pl_37, pl_40, pl_41, pl_42, pl_43, pl_45, pl_47, pl_48, pl_50, pl_57, pl_59, pl_60, pl_61, pl_62, pl_64, pl_70, pl_91, pl_93, pl_97, pl_98, pl_99, pl_100, pl_106, pl_122, pl_128, pl_136, pl_142, pl_165, pl_168, pl_170, pl_171, pl_173, pl_175, pl_187, pl_188, pl_189, pl_190, pl_206, pl_211, pl_219, pl_229, pl_255, pl_260, pl_400, pl_500, pl_512, pl_900, pl_999, pl_1000, pl_1001, pl_1005, pl_1020, pl_1023, pl_1024, pl_1103, pl_2000, pl_2040, pl_2176, pl_5660, pl_9999, pl_12345, pl_1000000, pl_1000003, pl_100000000, pl_1000000000, pz_0, pz_1, pz_t, q11_within, h1, h2, c1, c2]
      · have e5' : ∀ x, x = am_I r1 2 8 → fX12_winter_L211 x am_fu (nI 0) r' = some (nI h', accR r6) := by
          intro x hx'
          subst hx'
          rw [e5, pb5, pu_bd, pI_sr_ne _ _ (by decide), hx, q12_tellP (by omega), pu_bd]
        have e5'' := e5' _ rfl
        have ex19 : am_I (am_sl r0 0 61 (nI m).toInt64) 2 8 = am_I r1 2 8 := by rw [← hr1, pI_si_ne _ _ _ (by decide)]
        simp (disch := first | omega | assumption | decide) only [↓pv_let, ↓pv_jn, ↓reduceIte, pv_bd, ↓pv_ocs, ↓pv_ocn, pv_gdt, pe_gd, pe_clamp, pt_eq, pf_eq, pt_le, pf_le, pt_lt, pf_lt, nI_add, nn_mul, pe_sub, pb_0, pb_1, pb_z, pe_ieq, pe_ine, pe_ik, pP_si, pS_si, pn_si, ps_si, pL_si, decide_true, ofNat_nI, pe_srI, pe_srN, pe_srS, pe_srP, not_true_eq_false, not_false_eq_true, true_and, and_true, and_self, false_and, and_false, nI_m1, nI_ms, Nat.add_sub_cancel, pl_0, pl_1, pl_2, pl_3, pl_4, pl_5, pl_6, pl_7, pl_8, pl_9, pl_10, pl_11, pl_12, pl_13, pl_14, pl_15, pl_16, pl_17, pl_18, pl_19, pl_20, pl_21, pl_22, pl_23, pl_24, pl_25, pl_26, pl_27, pl_28, pl_29, pl_30, pl_31, pl_32, pl_34, pl_36, pl_37, pl_40, pl_41, pl_42, pl_43, pl_45, pl_47, pl_48, pl_50, pl_57, pl_59, pl_60, pl_61, pl_62, pl_64, pl_70, pl_91, pl_93, pl_97, pl_98, pl_99, pl_100, pl_106, pl_122, pl_128, pl_136, pl_142, pl_165, pl_168, pl_170, pl_171, pl_173, pl_175, pl_187, pl_188, pl_189, pl_190, pl_206, pl_211, pl_219, pl_229, pl_255, pl_260, pl_400, pl_500, pl_512, pl_900, pl_999, pl_1000, pl_1001, pl_1005, pl_1020, pl_1023, pl_1024, pl_1103, pl_2000, pl_2040, pl_2176, pl_5660, pl_9999, pl_12345, pl_1000000, pl_1000003, pl_100000000, pl_1000000000, pz_0, pz_1, pz_t, thr_0, q12_in, h1, h2, k1, hr1, ex19, e3, w2, e5'']
    · obtain ⟨v, gc1, gr1, z1, z2, z3⟩ := no
      refine ⟨v, gc1, gr1, ?_, ?_, z3⟩
      · rw [← z1]; simp (disch := first | omega | assumption | decide) only [↓pv_let, ↓pv_jn, ↓reduceIte, pv_bd, ↓pv_ocs, ↓pv_ocn, pv_gdt, pe_gd, pe_clamp, pt_eq, pf_eq, pt_le, pf_le, pt_lt, pf_lt, nI_add, nn_mul, pe_sub, pb_0, pb_1, pb_z, pe_ieq, pe_ine, pe_ik, pP_si, pS_si, pn_si, ps_si, pL_si, decide_true, ofNat_nI, pe_srI, pe_srN, pe_srS, pe_srP, not_true_eq_false, not_false_eq_true, true_and, and_true, and_self, false_and, and_false, nI_m1, nI_ms, Nat.add_sub_cancel, pl_0, pl_1, pl_2, pl_3, pl_4, pl_5, pl_6, pl_7, pl_8, pl_9, pl_10, pl_11, pl_12, pl_13, pl_14, pl_15, pl_16, pl_17, pl_18, pl_19, pl_20, pl_21, pl_22, pl_23, pl_24, pl_25, pl_26, pl_27, pl_28, pl_29, pl_30, pl_31, pl_32, pl_34, pl_36, pl_37, pl_40, pl_41, pl_42, pl_43, pl_45, pl_47, pl_48, pl_50, pl_57, pl_59, pl_60, pl_61, pl_62, pl_64, pl_70, pl_91, pl_93, pl_97, pl_98, pl_99, pl_100, pl_106, pl_122, pl_128, pl_136, pl_142, pl_165, pl_168, pl_170, pl_171, pl_173, pl_175, pl_187, pl_188, pl_189, pl_190, pl_206, pl_211, pl_219, pl_229, pl_255, pl_260, pl_400, pl_500, pl_512, pl_900, pl_999, pl_1000, pl_1001, pl_1005, pl_1020, pl_1023, pl_1024, pl_1103, pl_2000, pl_2040, pl_2176, pl_5660, pl_9999, pl_12345, pl_1000000, pl_1000003, pl_100000000, pl_1000000000, pz_0, pz_1, pz_t, q11_within, h1, h2, q11_refused]
      · rw [← z2]; simp (disch := first | omega | assumption | decide) only [↓pv_let, ↓pv_jn, ↓reduceIte, pv_bd, ↓pv_ocs, ↓pv_ocn, pv_gdt, pe_gd, pe_clamp, pt_eq, pf_eq, pt_le, pf_le, pt_lt, pf_lt, nI_add, nn_mul, pe_sub, pb_0, pb_1, pb_z, pe_ieq, pe_ine, pe_ik, pP_si, pS_si, pn_si, ps_si, pL_si, decide_true, ofNat_nI, pe_srI, pe_srN, pe_srS, pe_srP, not_true_eq_false, not_false_eq_true, true_and, and_true, and_self, false_and, and_false, nI_m1, nI_ms, Nat.add_sub_cancel, pl_0, pl_1, pl_2, pl_3, pl_4, pl_5, pl_6, pl_7, pl_8, pl_9, pl_10, pl_11, pl_12, pl_13, pl_14, pl_15, pl_16, pl_17, pl_18, pl_19, pl_20, pl_21, pl_22, pl_23, pl_24, pl_25, pl_26, pl_27, pl_28, pl_29, pl_30, pl_31, pl_32, pl_34, pl_36, pl_37, pl_40, pl_41, pl_42, pl_43, pl_45, pl_47, pl_48, pl_50, pl_57, pl_59, pl_60, pl_61, pl_62, pl_64, pl_70, pl_91, pl_93, pl_97, pl_98, pl_99, pl_100, pl_106, pl_122, pl_128, pl_136, pl_142, pl_165, pl_168, pl_170, pl_171, pl_173, pl_175, pl_187, pl_188, pl_189, pl_190, pl_206, pl_211, pl_219, pl_229, pl_255, pl_260, pl_400, pl_500, pl_512, pl_900, pl_999, pl_1000, pl_1001, pl_1005, pl_1020, pl_1023, pl_1024, pl_1103, pl_2000, pl_2040, pl_2176, pl_5660, pl_9999, pl_12345, pl_1000000, pl_1000003, pl_100000000, pl_1000000000, pz_0, pz_1, pz_t, thr_0, q12_in, h1, h2, q12_tellN]
  · obtain ⟨v, gc1, gr1, z1, z2, z3⟩ := no
    refine ⟨v, gc1, gr1, ?_, ?_, z3⟩
    · rw [← z1]; simp (disch := first | omega | assumption | decide) only [↓pv_let, ↓pv_jn, ↓reduceIte, pv_bd, ↓pv_ocs, ↓pv_ocn, pv_gdt, pe_gd, pe_clamp, pt_eq, pf_eq, pt_le, pf_le, pt_lt, pf_lt, nI_add, nn_mul, pe_sub, pb_0, pb_1, pb_z, pe_ieq, pe_ine, pe_ik, pP_si, pS_si, pn_si, ps_si, pL_si, decide_true, ofNat_nI, pe_srI, pe_srN, pe_srS, pe_srP, not_true_eq_false, not_false_eq_true, true_and, and_true, and_self, false_and, and_false, nI_m1, nI_ms, Nat.add_sub_cancel, pl_0, pl_1, pl_2, pl_3, pl_4, pl_5, pl_6, pl_7, pl_8, pl_9, pl_10, pl_11, pl_12, pl_13, pl_14, pl_15, pl_16, pl_17, pl_18, pl_19, pl_20, pl_21, pl_22, pl_23, pl_24, pl_25, pl_26, pl_27, pl_28, pl_29, pl_30, pl_31, pl_32, pl_34, pl_36, pl_37, pl_40, pl_41, pl_42, pl_43, pl_45, pl_47, pl_48, pl_50, pl_57, pl_59, pl_60, pl_61, pl_62, pl_64, pl_70, pl_91, pl_93, pl_97, pl_98, pl_99, pl_100, pl_106, pl_122, pl_128, pl_136, pl_142, pl_165, pl_168, pl_170, pl_171, pl_173, pl_175, pl_187, pl_188, pl_189, pl_190, pl_206, pl_211, pl_219, pl_229, pl_255, pl_260, pl_400, pl_500, pl_512, pl_900, pl_999, pl_1000, pl_1001, pl_1005, pl_1020, pl_1023, pl_1024, pl_1103, pl_2000, pl_2040, pl_2176, pl_5660, pl_9999, pl_12345, pl_1000000, pl_1000003, pl_100000000, pl_1000000000, pz_0, pz_1, pz_t, q11_within, h1, q11_refused]
    · rw [← z2]; simp (disch := first | omega | assumption | decide) only [↓pv_let, ↓pv_jn, ↓reduceIte, pv_bd, ↓pv_ocs, ↓pv_ocn, pv_gdt, pe_gd, pe_clamp, pt_eq, pf_eq, pt_le, pf_le, pt_lt, pf_lt, nI_add, nn_mul, pe_sub, pb_0, pb_1, pb_z, pe_ieq, pe_ine, pe_ik, pP_si, pS_si, pn_si, ps_si, pL_si, decide_true, ofNat_nI, pe_srI, pe_srN, pe_srS, pe_srP, not_true_eq_false, not_false_eq_true, true_and, and_true, and_self, false_and, and_false, nI_m1, nI_ms, Nat.add_sub_cancel, pl_0, pl_1, pl_2, pl_3, pl_4, pl_5, pl_6, pl_7, pl_8, pl_9, pl_10, pl_11, pl_12, pl_13, pl_14, pl_15, pl_16, pl_17, pl_18, pl_19, pl_20, pl_21, pl_22, pl_23, pl_24, pl_25, pl_26, pl_27, pl_28, pl_29, pl_30, pl_31, pl_32, pl_34, pl_36, pl_37, pl_40, pl_41, pl_42, pl_43, pl_45, pl_47, pl_48, pl_50, pl_57, pl_59, pl_60, pl_61, pl_62, pl_64, pl_70, pl_91, pl_93, pl_97, pl_98, pl_99, pl_100, pl_106, pl_122, pl_128, pl_136, pl_142, pl_165, pl_168, pl_170, pl_171, pl_173, pl_175, pl_187, pl_188, pl_189, pl_190, pl_206, pl_211, pl_219, pl_229, pl_255, pl_260, pl_400, pl_500, pl_512, pl_900, pl_999, pl_1000, pl_1001, pl_1005, pl_1020, pl_1023, pl_1024, pl_1103, pl_2000, pl_2040, pl_2176, pl_5660, pl_9999, pl_12345, pl_1000000, pl_1000003, pl_100000000, pl_1000000000, pz_0, pz_1, pz_t, thr_0, q12_in, h1, q12_tellN]
