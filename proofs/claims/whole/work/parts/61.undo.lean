/-! ===== undo ===== -/
theorem RelM.pop {B t x k : Nat} {gc gr : am_G} (h : RelM B t gc gr) (hx : x < 16) (hk : k < 16) (ex : am_I gc 26 2 = nI x) (ek : am_I gr 0 8 = nI (k + 1)) : RelM B t (am_si (am_si gc 26 2 (nI ((x + 15) % 16))) 26 3 (nI k)) (am_si gr 0 8 (nI k)) := by
  obtain ⟨hR, hI, own, hU, hG, hT, hC, hW, nl, hnl, enl, hLw⟩ := h
  have cI : ∀ a, a ≠ 26 → am_I (am_si (am_si gc 26 2 (nI ((x + 15) % 16))) 26 3 (nI k)) a = am_I gc a := fun a ha => by rw [pI_si_ne _ _ _ ha, pI_si_ne _ _ _ ha]
  have rI : ∀ a, a ≠ 0 → am_I (am_si gr 0 8 (nI k)) a = am_I gr a := fun a ha => pI_si_ne _ _ _ ha
  have lw : ∀ {la : Nat} {ρ : Row} {n : Nat}, LwsR own gc la ρ n → LwsR own (am_si (am_si gc 26 2 (nI ((x + 15) % 16))) 26 3 (nI k)) la ρ n := fun hL => hL.tra (Nat.le_refl _) (fun _ _ => rfl) (fun a ha _ ho => ⟨ho, rfl, rfl, cI a (by omega)⟩) (fun _ _ => rfl)
  refine ⟨fun q hq => ?_, ⟨fun j hj => by rw [rI 2 (by decide)]; exact hI.1 j hj, by rw [rI 2 (by decide)]; exact hI.2.1, by rw [pe_ik (by decide)]; exact hI.2.2.1, by rw [pe_ieq, nn_toInt (by omega)]; omega⟩, own, ?_, ?_, ?_, ?_, ?_, nl, hnl, by rw [rI 2 (by decide)]; exact enl, by rw [rI 2 (by decide)]; exact lw hLw⟩
  · obtain ⟨o1, o2, o3, o4, o5, o6⟩ := om_keep q hq
    by_cases h26 : q.2.1 = 26
    · obtain ⟨z1, z2⟩ := o4 h26
      rw [h26, z1, z2, pe_ieq, pe_ieq]
    · have hne8 : ¬ (q.1.1 = 0 ∧ q.1.2 = 8) := fun z => h26 (by rw [o6 (Prod.ext z.1 z.2)])
      rw [cI _ h26, pI_si, if_neg hne8]
      exact hR q hq
  · obtain ⟨x', k', hx', hk', ex', ek', hring, hu⟩ := hU
    have e1 : x' = x := (nn_eq (by omega) (by omega)).mp (ex'.symm.trans ex)
    have e2 : k' = k + 1 := (nn_eq (by omega) (by omega)).mp (ek'.symm.trans ek)
    subst e1 e2
    refine ⟨(x' + 15) % 16, k, by omega, by omega, by rw [pe_ik (by decide), pe_ieq], pe_ieq _ _ _ _, hring, fun i hi => ?_⟩
    have er : ((x' + 15) % 16 + 16 - k + i) % 16 = (x' + 16 - (k + 1) + i) % 16 := by omega
    rw [er]
    obtain ⟨p, u1, u2, u3, u4⟩ := hu i (by omega)
    have h79 := (hring _ p (Nat.mod_lt _ (by decide)) u1).1
    refine ⟨p, u1, by rw [cI 28 (by decide), rI 6 (by decide)]; exact u2, by rw [rI 6 (by decide)]; exact u3, fun j h1 h2 => ?_⟩
    rw [rI 5 (by decide)]
    refine ⟨?_, (u4 j h1 h2).2⟩
    rw [← (u4 j h1 h2).1]
    exact congrFun (vr_cg fun a ha => cI a (by omega)) j
  · intro kk hkk
    rw [rI 4 (by decide)]
    rcases hG kk hkk with z | ⟨v, z1, z2, z3, z4, z5, z6, z7, z8, n, z9, z10, z11⟩
    · exact Or.inl z
    · have ei : imr (am_si gr 0 8 (nI k)) kk = imr gr kk := by unfold imr; rw [rI 3 (by decide)]
      refine Or.inr ⟨v, z1, z2, z3, z4, z5, z6, fun j hj => ?_, by rw [ei]; exact z8, n, z9, by rw [ei]; exact z10, by rw [ei]; exact lw z11⟩
      rw [ei]
      refine ⟨?_, (z7 j hj).2⟩
      rw [← (z7 j hj).1]
      exact congrFun (vr_cg fun a ha => cI a (by omega)) j
  · intro i hi
    rw [cI 30 (by decide), rI 9 (by decide)]
    exact hT i hi
  · obtain ⟨c1, c2⟩ := hC
    exact ⟨by rw [cI 28 (by decide)]; exact c1, c2⟩
  · intro s hs
    rw [cI 72 (by decide), cI 76 (by decide), rI 34 (by decide)]
    exact hW s hs
theorem md16b {x : Nat} (h : x < 16) : nI (x + 15) - nI (x + 15) / nI 16 * nI 16 = nI ((x + 15) % 16) := by
  have key : ∀ x, x < 16 → nI (x + 15) - nI (x + 15) / nI 16 * nI 16 = nI ((x + 15) % 16) := by decide +kernel
  exact key x h
theorem si_srn {g : am_G} {a b k : Nat} {x : Int32} {f : Nat → Int32} (h : a ≠ b) : am_sr (am_si g a k x) b f = am_si (am_sr g b f) a k x := by
  have e : am_I (am_sr (am_si g a k x) b f) = am_I (am_si (am_sr g b f) a k x) := by
    funext c
    by_cases hb : c = b
    · subst hb
      rw [pI_sr_row, pI_si_ne _ _ _ (Ne.symm h), pI_sr_row]
    · rw [pI_sr_ne _ _ hb]
      funext i
      rw [pI_si, pI_si, pI_sr_ne _ _ hb]
  exact Prod.ext e rfl
theorem m_undo {t : Nat} {gc gr : am_G} (h : Rel t gc gr) : ∃ (v : Int32) (gc1 gr1 : am_G), fX11_undo gc = some (v, gc1) ∧ fX12_undo gr = some (v, gr1) ∧ Rel (t + 1) gc1 gr1 := by
  have hT := RelM.thr h
  obtain ⟨hR, hI, own, hU, hG, hTp, hC, hW, nl, hnl, enl, hLw⟩ := id hT
  obtain ⟨x, k, hx, hk, ex, ek, hring, hu⟩ := hU
  have ec : am_I gc 26 3 = nI k := (hR.at (ra := 0) (rk := 8) (by decide +kernel)).trans ek
  have hP2 := hC.2.1.2.1
  unfold fX11_undo fX12_undo
  by_cases h0 : k = 0
  · subst h0
    refine ⟨-nI 3, refC 3 gc, refR 3 (thr gr), ?_, ?_, Rel.nx (hT.refu (by decide))⟩
    · simp (disch := first | omega | assumption | decide) only [pu_let, pu_jn, pu_bd, pu_ocs, pu_ocn, pu_gdt, pe_gd, pe_clamp, pe_eq, pe_le, pe_lt, pe_pos, pe_neg, nI_add, nn_mul, pe_sub, pb_0, pb_1, pb_z, pe_ieq, pe_ine, pe_ik, pP_si, pS_si, pn_si, ps_si, pL_si, ite_not, pe_gdd, pe_lle, decide_true, ofNat_nI, pe_srI, pe_srN, pe_srS, pe_srP, pl_0, pl_1, pl_2, pl_3, pl_4, pl_5, pl_6, pl_7, pl_8, pl_9, pl_10, pl_11, pl_12, pl_13, pl_14, pl_15, pl_16, pl_17, pl_18, pl_19, pl_20, pl_21, pl_22, pl_23, pl_24, pl_25, pl_26, pl_27, pl_28, pl_29, pl_30, pl_31, pl_32, pl_34, pl_36, pl_37, pl_40, pl_41, pl_42, pl_43, pl_45, pl_47, pl_48, pl_50, pl_57, pl_59, pl_60, pl_61, pl_62, pl_64, pl_70, pl_91, pl_93, pl_97, pl_98, pl_99, pl_100, pl_106, pl_122, pl_128, pl_136, pl_142, pl_165, pl_168, pl_170, pl_171, pl_173, pl_175, pl_187, pl_188, pl_189, pl_190, pl_206, pl_211, pl_219, pl_229, pl_255, pl_260, pl_400, pl_500, pl_512, pl_900, pl_999, pl_1000, pl_1001, pl_1005, pl_1020, pl_1023, pl_1024, pl_1103, pl_2000, pl_2040, pl_2176, pl_5660, pl_9999, pl_12345, pl_1000000, pl_1000003, pl_100000000, pl_1000000000, ec, q11_refused]
    · simp (disch := first | omega | assumption | decide) only [pu_let, pu_jn, pu_bd, pu_ocs, pu_ocn, pu_gdt, pe_gd, pe_clamp, pe_eq, pe_le, pe_lt, pe_pos, pe_neg, nI_add, nn_mul, pe_sub, pb_0, pb_1, pb_z, pe_ieq, pe_ine, pe_ik, pP_si, pS_si, pn_si, ps_si, pL_si, ite_not, pe_gdd, pe_lle, decide_true, ofNat_nI, pe_srI, pe_srN, pe_srS, pe_srP, pl_0, pl_1, pl_2, pl_3, pl_4, pl_5, pl_6, pl_7, pl_8, pl_9, pl_10, pl_11, pl_12, pl_13, pl_14, pl_15, pl_16, pl_17, pl_18, pl_19, pl_20, pl_21, pl_22, pl_23, pl_24, pl_25, pl_26, pl_27, pl_28, pl_29, pl_30, pl_31, pl_32, pl_34, pl_36, pl_37, pl_40, pl_41, pl_42, pl_43, pl_45, pl_47, pl_48, pl_50, pl_57, pl_59, pl_60, pl_61, pl_62, pl_64, pl_70, pl_91, pl_93, pl_97, pl_98, pl_99, pl_100, pl_106, pl_122, pl_128, pl_136, pl_142, pl_165, pl_168, pl_170, pl_171, pl_173, pl_175, pl_187, pl_188, pl_189, pl_190, pl_206, pl_211, pl_219, pl_229, pl_255, pl_260, pl_400, pl_500, pl_512, pl_900, pl_999, pl_1000, pl_1001, pl_1005, pl_1020, pl_1023, pl_1024, pl_1103, pl_2000, pl_2040, pl_2176, pl_5660, pl_9999, pl_12345, pl_1000000, pl_1000003, pl_100000000, pl_1000000000, thr_0, ek, q12_tellN]
  · obtain ⟨k, rfl⟩ : ∃ k', k = k' + 1 := ⟨k - 1, by omega⟩
    obtain ⟨p, u1, u2, u3, u4⟩ := hu k (by omega)
    have er : (x + 16 - (k + 1) + k) % 16 = (x + 15) % 16 := by omega
    rw [er] at u1 u2
    obtain ⟨z1, z2, z3, z4⟩ := hring _ p (by omega) u1
    have c := q2_copyFrom (g := gc) (b := 2) (a := p) hP2 z3 (by omega)
    have fc := cpk_fr gc 2 p
    -- the row
    have hFc : Fc 2 gc (cpk gc 2 p) := ⟨rfl, fun a h1 _ _ => fc.2 a h1⟩
    have hrow : ∀ j, 6 ≤ j → j < 142 → am_I (thr gr) 5 (136 * k + (j - 6)) = vr gc 1 p j := fun j h1 h2 => (u4 j h1 h2).1.symm
    have hFr : FrW (thr gr) (am_sr (thr gr) 2 (fun j => if 6 ≤ j ∧ j < 142 then am_I (thr gr) 5 (136 * k + (j - 6)) else am_I (thr gr) 2 j)) := by
      refine ⟨fun a j _ _ _ h4 => ?_, fun _ _ _ _ _ => rfl, rfl⟩
      by_cases ha : a = 2
      · subst ha
        rw [pI_sr_row]
        by_cases hj : 6 ≤ j ∧ j < 142
        · rw [if_pos hj, hrow j hj.1 hj.2]
          have hnp : ¬ pkj j := fun z => h4 ⟨rfl, z⟩
          obtain ⟨-, hv⟩ := npk_pkj j hj.1 hj.2 hnp
          have e : vA 1 p j = vA 1 2 j := by unfold vA; rw [hv]; rfl
          rw [vr_at (by omega), e]
          exact hR _ (om_vr j (by omega))
        · rw [if_neg hj]
      · rw [pI_sr_ne _ _ ha]
    have ev : vr (cpk gc 2 p) 1 2 = rr (am_sr (thr gr) 2 (fun j => if 6 ≤ j ∧ j < 142 then am_I (thr gr) 5 (136 * k + (j - 6)) else am_I (thr gr) 2 j)) := by
      rw [cpk_vr (by unfold VP; omega) (by omega)]
      funext j
      by_cases hj : j < 259
      · rw [rr_at hj, pI_sr_row]
        by_cases h6 : 6 ≤ j ∧ j < 142
        · rw [if_pos h6, hrow j h6.1 h6.2]
        · rw [if_neg h6, ← rr_at hj, ← hR.row, vr_at hj, vr_at hj]
          have key : ∀ j, j < 259 → ¬ (6 ≤ j ∧ j < 142) → (vT j).1 = false := by decide +kernel
          have hv := key j hj h6
          have e : vA 1 p j = vA 1 2 j := by unfold vA; rw [hv]; rfl
          rw [e]
      · unfold vr rr; rw [if_neg hj, if_neg hj]
    have hO : okR (239760 * t) (rr (am_sr (thr gr) 2 (fun j => if 6 ≤ j ∧ j < 142 then am_I (thr gr) 5 (136 * k + (j - 6)) else am_I (thr gr) 2 j))) := by
      intro j hj
      rw [rr_at hj, pI_sr_row]
      by_cases h6 : 6 ≤ j ∧ j < 142
      · rw [if_pos h6]; exact (u4 j h6.1 h6.2).2
      · rw [if_neg h6]; exact hI.1 j hj
    have h1 := hT.rows (Nat.le_refl _) hFc hFr ev hO
    have h2 := h1.pop hx (show k < 16 by omega) (by rw [fc.2 26 (by omega)]; exact ex) (by rw [pI_sr_ne _ _ (by decide)]; exact ek)
    have e28 : am_I gc 28 ((x + 15) % 16) = am_I (thr gr) 6 k := u2
    obtain ⟨kd, hkd, ekd⟩ : ∃ kd, kd ≤ 1 ∧ am_I (thr gr) 6 k = nI kd := by
      rcases u3 with z | z
      · exact ⟨0, by decide, z⟩
      · exact ⟨1, by decide, z⟩
    have c26 : am_I (cpk gc 2 p) 26 = am_I gc 26 := fc.2 26 (by omega)
    have c28 : am_I (cpk gc 2 p) 28 = am_I gc 28 := fc.2 28 (by omega)
    have hP0 := hP2.1
    refine ⟨nI kd, accC (am_si (am_si (cpk gc 2 p) 26 2 (nI ((x + 15) % 16))) 26 3 (nI k)), accR (am_si (am_sr (thr gr) 2 (fun j => if 6 ≤ j ∧ j < 142 then am_I (thr gr) 5 (136 * k + (j - 6)) else am_I (thr gr) 2 j)) 0 8 (nI k)), ?_, ?_, Rel.nx h2.acc⟩
    · have gb : fX8_giveBack 2 gc = some (nI kd, am_si (am_si (cpk gc 2 p) 26 2 (nI ((x + 15) % 16))) 26 3 (nI k)) := by
        unfold fX8_giveBack
        have hne : (nI (k + 1) = nI 0) = False := eq_false (fun z => by have := (nn_eq (by omega) (by decide)).mp z; omega)
        have hm : (x + 15) % 16 < 16 := by omega
        have md : nI (x + 16 - 1) - nI (x + 16 - 1) / nI 16 * nI 16 = nI ((x + 15) % 16) := md16b hx
        simp (disch := first | omega | assumption | decide) only [↓pv_let, ↓pv_jn, ↓reduceIte, pv_bd, ↓pv_ocs, ↓pv_ocn, pv_gdt, pe_gd, pe_clamp, pt_eq, pf_eq, pt_le, pf_le, pt_lt, pf_lt, nI_add, nn_mul, pe_sub, pb_0, pb_1, pb_z, pe_ieq, pe_ine, pe_ik, pP_si, pS_si, pn_si, ps_si, pL_si, decide_true, ofNat_nI, pe_srI, pe_srN, pe_srS, pe_srP, not_true_eq_false, not_false_eq_true, true_and, and_true, and_self, false_and, and_false, nI_m1, nI_ms, Nat.add_sub_cancel, pl_0, pl_1, pl_2, pl_3, pl_4, pl_5, pl_6, pl_7, pl_8, pl_9, pl_10, pl_11, pl_12, pl_13, pl_14, pl_15, pl_16, pl_17, pl_18, pl_19, pl_20, pl_21, pl_22, pl_23, pl_24, pl_25, pl_26, pl_27, pl_28, pl_29, pl_30, pl_31, pl_32, pl_34, pl_36, pl_37, pl_40, pl_41, pl_42, pl_43, pl_45, pl_47, pl_48, pl_50, pl_57, pl_59, pl_60, pl_61, pl_62, pl_64, pl_70, pl_91, pl_93, pl_97, pl_98, pl_99, pl_100, pl_106, pl_122, pl_128, pl_136, pl_142, pl_165, pl_168, pl_170, pl_171, pl_173, pl_175, pl_187, pl_188, pl_189, pl_190, pl_206, pl_211, pl_219, pl_229, pl_255, pl_260, pl_400, pl_500, pl_512, pl_900, pl_999, pl_1000, pl_1001, pl_1005, pl_1020, pl_1023, pl_1024, pl_1103, pl_2000, pl_2040, pl_2176, pl_5660, pl_9999, pl_12345, pl_1000000, pl_1000003, pl_100000000, pl_1000000000, pz_0, pz_1, pz_t, ex, ec, hne, md, u1, hP0, c, c26, c28, e28, ekd]
      simp (disch := first | omega | assumption | decide) only [pu_let, pu_jn, pu_bd, pu_ocs, pu_ocn, pu_gdt, pe_gd, pe_clamp, pe_eq, pe_le, pe_lt, pe_pos, pe_neg, nI_add, nn_mul, pe_sub, pb_0, pb_1, pb_z, pe_ieq, pe_ine, pe_ik, pP_si, pS_si, pn_si, ps_si, pL_si, ite_not, pe_gdd, pe_lle, decide_true, ofNat_nI, pe_srI, pe_srN, pe_srS, pe_srP, pl_0, pl_1, pl_2, pl_3, pl_4, pl_5, pl_6, pl_7, pl_8, pl_9, pl_10, pl_11, pl_12, pl_13, pl_14, pl_15, pl_16, pl_17, pl_18, pl_19, pl_20, pl_21, pl_22, pl_23, pl_24, pl_25, pl_26, pl_27, pl_28, pl_29, pl_30, pl_31, pl_32, pl_34, pl_36, pl_37, pl_40, pl_41, pl_42, pl_43, pl_45, pl_47, pl_48, pl_50, pl_57, pl_59, pl_60, pl_61, pl_62, pl_64, pl_70, pl_91, pl_93, pl_97, pl_98, pl_99, pl_100, pl_106, pl_122, pl_128, pl_136, pl_142, pl_165, pl_168, pl_170, pl_171, pl_173, pl_175, pl_187, pl_188, pl_189, pl_190, pl_206, pl_211, pl_219, pl_229, pl_255, pl_260, pl_400, pl_500, pl_512, pl_900, pl_999, pl_1000, pl_1001, pl_1005, pl_1020, pl_1023, pl_1024, pl_1103, pl_2000, pl_2040, pl_2176, pl_5660, pl_9999, pl_12345, pl_1000000, pl_1000003, pl_100000000, pl_1000000000, ec, gb, s11_accepted]
    · have e5 : am_I (am_si (thr gr) 0 8 (nI k)) 5 = am_I (thr gr) 5 := pI_si_ne _ _ _ (by decide)
      have e2 : am_I (am_si (thr gr) 0 8 (nI k)) 2 = am_I (thr gr) 2 := pI_si_ne _ _ _ (by decide)
      have pbk := q12_putBack (k := k) (by omega) (am_si (thr gr) 0 8 (nI k))
      rw [e5, e2, si_srn (by decide)] at pbk
      have e6 : am_I (am_si (am_sr (thr gr) 2 (fun j => if 6 ≤ j ∧ j < 142 then am_I (thr gr) 5 (136 * k + (j - 6)) else am_I (thr gr) 2 j)) 0 8 (nI k)) 6 k = nI kd := by rw [pI_si_ne _ _ _ (by decide), pI_sr_ne _ _ (by decide)]; exact ekd
      have hk16 : k < 16 := by omega
      simp (disch := first | omega | assumption | decide) only [pu_let, pu_jn, pu_bd, pu_ocs, pu_ocn, pu_gdt, pe_gd, pe_clamp, pe_eq, pe_le, pe_lt, pe_pos, pe_neg, nI_add, nn_mul, pe_sub, pb_0, pb_1, pb_z, pe_ieq, pe_ine, pe_ik, pP_si, pS_si, pn_si, ps_si, pL_si, ite_not, pe_gdd, pe_lle, decide_true, ofNat_nI, pe_srI, pe_srN, pe_srS, pe_srP, pl_0, pl_1, pl_2, pl_3, pl_4, pl_5, pl_6, pl_7, pl_8, pl_9, pl_10, pl_11, pl_12, pl_13, pl_14, pl_15, pl_16, pl_17, pl_18, pl_19, pl_20, pl_21, pl_22, pl_23, pl_24, pl_25, pl_26, pl_27, pl_28, pl_29, pl_30, pl_31, pl_32, pl_34, pl_36, pl_37, pl_40, pl_41, pl_42, pl_43, pl_45, pl_47, pl_48, pl_50, pl_57, pl_59, pl_60, pl_61, pl_62, pl_64, pl_70, pl_91, pl_93, pl_97, pl_98, pl_99, pl_100, pl_106, pl_122, pl_128, pl_136, pl_142, pl_165, pl_168, pl_170, pl_171, pl_173, pl_175, pl_187, pl_188, pl_189, pl_190, pl_206, pl_211, pl_219, pl_229, pl_255, pl_260, pl_400, pl_500, pl_512, pl_900, pl_999, pl_1000, pl_1001, pl_1005, pl_1020, pl_1023, pl_1024, pl_1103, pl_2000, pl_2040, pl_2176, pl_5660, pl_9999, pl_12345, pl_1000000, pl_1000003, pl_100000000, pl_1000000000, thr_0, ek, pbk, e6, q12_tellP, Nat.add_sub_cancel]
