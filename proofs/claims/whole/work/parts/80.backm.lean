theorem om_bk : ∀ q ∈ om, (q.1.1 = 2 → q.1.2 < 259 ∧ q.2 = (vA 1 2 q.1.2, vS q.1.2)) ∧ (q.1.1 ≠ 2 → ¬ (1 ≤ q.2.1 ∧ q.2.1 ≤ 23) ∧ q.1.1 < 2 ∧ (q.2 = (26, 3) → q.1 = (0, 8)) ∧ (q.1 = (0, 8) → q.2 = (26, 3))) := by decide +kernel
theorem RelM.backv {B t k v : Nat} {gc gr : am_G} (h : RelM B t gc gr) (hk : k < 2) (hv : am_P gc 25 k = some v) : RelM B t (am_si (cpV gc 1 v) 26 3 (nI 0)) (am_si (am_sr gr 2 (fun j => if 0 ≤ j ∧ j < 5660 then am_I gr 3 (5660 * k + j) else am_I gr 2 j)) 0 8 (nI 0)) := by
  obtain ⟨hR, hI, own, hU, hG, hT, hC, hW, nl, hnl, enl, hLw⟩ := h
  rcases hG k hk with ⟨z1, z2⟩ | ⟨v', z1, z2, z3, z4, z5, z6, z7, z8, n, z9, z10, z11⟩
  · rw [hv] at z1; exact absurd z1 (by simp)
  rw [hv] at z1
  obtain rfl := Option.some.inj z1
  have cI : ∀ a, ¬ (1 ≤ a ∧ a ≤ 23) → a ≠ 26 → am_I (am_si (cpV gc 1 v) 26 3 (nI 0)) a = am_I gc a := fun a h1 h2 => by rw [pI_si_ne _ _ _ h2, cpV_ne (by omega)]
  have eP : ∀ c, c ≠ 24 → am_P (am_si (cpV gc 1 v) 26 3 (nI 0)) c = am_P gc c := fun c hc => by
    show am_up (am_P gc) (1 + 23) _ c = am_P gc c
    rw [am_up_ne hc]
  have eP24 : ∀ l, l < 6 → am_P (am_si (cpV gc 1 v) 26 3 (nI 0)) 24 l = am_P gc (v + 23) l := fun l hl => by
    show am_up (am_P gc) (1 + 23) (fun l => if l < 6 then am_P gc (v + 23) l else am_P gc (1 + 23) l) (1 + 23) l = _
    rw [am_up_eq, if_pos hl]
  have eS : am_S (am_si (cpV gc 1 v) 26 3 (nI 0)) = am_S gc := rfl
  have en : am_n (am_si (cpV gc 1 v) 26 3 (nI 0)) = am_n gc := rfl
  have es : am_s (am_si (cpV gc 1 v) 26 3 (nI 0)) = am_s gc := rfl
  have ev : vr (am_si (cpV gc 1 v) 26 3 (nI 0)) 1 2 = vr gc v (v + 1) := by
    rw [← cpV_vr (g := gc) (b := 1) (a := v) (by omega)]
    exact vr_cg fun a ha => by rw [pI_si_ne _ _ _ (by omega)]
  have e26 : ∀ j, j ≠ 3 → am_I (am_si (cpV gc 1 v) 26 3 (nI 0)) 26 j = am_I gc 26 j := fun j hj => by rw [pe_ik hj, cpV_ne (by omega)]
  have e263 : am_I (am_si (cpV gc 1 v) 26 3 (nI 0)) 26 3 = nI 0 := pe_ieq _ _ _ _
  generalize am_si (cpV gc 1 v) 26 3 (nI 0) = g1 at *
  have rI : ∀ a, a ≠ 0 → a ≠ 2 → am_I (am_si (am_sr gr 2 (fun j => if 0 ≤ j ∧ j < 5660 then am_I gr 3 (5660 * k + j) else am_I gr 2 j)) 0 8 (nI 0)) a = am_I gr a := fun a h0 h2 => by rw [pI_si_ne _ _ _ h0, pI_sr_ne _ _ h2]
  have r0 : ∀ j, j ≠ 8 → am_I (am_si (am_sr gr 2 (fun j => if 0 ≤ j ∧ j < 5660 then am_I gr 3 (5660 * k + j) else am_I gr 2 j)) 0 8 (nI 0)) 0 j = am_I gr 0 j := fun j hj => by rw [pe_ik hj, pI_sr_ne _ _ (by decide)]
  have r2 : ∀ j, j < 5660 → am_I (am_si (am_sr gr 2 (fun j => if 0 ≤ j ∧ j < 5660 then am_I gr 3 (5660 * k + j) else am_I gr 2 j)) 0 8 (nI 0)) 2 j = imr gr k j := fun j hj => by
    rw [pI_si_ne _ _ _ (by decide), pI_sr_row, if_pos ⟨Nat.zero_le _, hj⟩]
    rfl
  have r08 : am_I (am_si (am_sr gr 2 (fun j => if 0 ≤ j ∧ j < 5660 then am_I gr 3 (5660 * k + j) else am_I gr 2 j)) 0 8 (nI 0)) 0 8 = nI 0 := pe_ieq _ _ _ _
  have r22 : (am_si (am_sr gr 2 (fun j => if 0 ≤ j ∧ j < 5660 then am_I gr 3 (5660 * k + j) else am_I gr 2 j)) 0 8 (nI 0)).2 = gr.2 := rfl
  generalize am_si (am_sr gr 2 (fun j => if 0 ≤ j ∧ j < 5660 then am_I gr 3 (5660 * k + j) else am_I gr 2 j)) 0 8 (nI 0) = gr1 at *
  have pk : ∀ p, PkS gc p → p ≠ 24 → PkS g1 p := fun p hp h24 => hp.tra (fun a _ _ => by rw [eS]) (eP p h24)
  have im : ∀ w, ImS gc w → ¬ (w ≤ 24 ∧ 24 < w + 23) → ImS g1 w := by
    intro w hw hne
    obtain ⟨c1, c2, c3, c4, c5, c6, c7, c8, c9, c10, c11, c12⟩ := hw
    refine ⟨by rw [eS]; exact c1, pk _ c2 (by omega), by rw [eS]; exact c3, by rw [eS]; exact c4, by rw [eS]; exact c5, by rw [eS]; exact c6, by rw [eS]; exact c7, fun c hc => ⟨by rw [eP _ (by omega)]; exact (c8 c hc).1, by rw [eS]; exact (c8 c hc).2⟩, by rw [eS]; exact c9, by rw [eS]; exact c10, by rw [eS]; exact c11, ?_⟩
    rw [eP w (by omega)]
    exact c12
  have lw : ∀ {la : Nat} {ρ : Row} {m : Nat}, la ≠ 24 → LwsR own gc la ρ m → LwsR own g1 la ρ m := fun hla hL => hL.tra (by rw [en]; exact Nat.le_refl _) (fun l _ => by rw [eP _ hla]) (fun a ha _ ho => ⟨ho, by rw [eS], eP a (by omega), cI a (by omega) (by omega)⟩) (fun _ _ => rfl)
  refine ⟨fun q hq => ?_, ⟨fun j hj => by rw [r2 j (by omega)]; exact (z7 j hj).2, by rw [r2 5 (by decide), r2 4 (by decide)]; exact z8, by rw [r0 13 (by decide)]; exact hI.2.2.1, by rw [r08]; decide⟩, own, ?_, ?_, ?_, ?_, ?_, n, z9, by rw [r2 4 (by decide)]; exact z10, ?_⟩
  · obtain ⟨o1, o2⟩ := om_bk q hq
    by_cases h2 : q.1.1 = 2
    · obtain ⟨y1, y2⟩ := o1 h2
      have := congrFun ev q.1.2
      rw [vr_at y1, (z7 _ y1).1] at this
      rw [h2, y2, r2 _ (by omega)]
      exact this
    · obtain ⟨y1, y2, y3, y4⟩ := o2 h2
      by_cases h26 : q.2.1 = 26 ∧ q.2.2 = 3
      · rw [y3 (Prod.ext h26.1 h26.2), h26.1, h26.2, e263, r08]
      · have hne8 : ¬ (q.1.1 = 0 ∧ q.1.2 = 8) := fun z => h26 (by rw [y4 (Prod.ext z.1 z.2)]; exact ⟨rfl, rfl⟩)
        have hc : am_I g1 q.2.1 q.2.2 = am_I gc q.2.1 q.2.2 := by
          by_cases h26' : q.2.1 = 26
          · rw [h26']; exact e26 _ (fun z => h26 ⟨h26', z⟩)
          · rw [cI _ y1 h26']
        have hr : am_I gr1 q.1.1 q.1.2 = am_I gr q.1.1 q.1.2 := by
          by_cases h0 : q.1.1 = 0
          · rw [h0]; exact r0 _ (fun z => hne8 ⟨h0, z⟩)
          · rw [rI _ h0 h2]
        rw [hc, hr]
        exact hR q hq
  · obtain ⟨x, kk, hx, hkk, ex, ek, hring, hu⟩ := hU
    refine ⟨x, 0, hx, by omega, by rw [e26 2 (by decide)]; exact ex, r08, fun j p hj hjp => ?_, fun i hi => absurd hi (by omega)⟩
    rw [eP 27 (by decide)] at hjp
    obtain ⟨y1, y2, y3, y4⟩ := hring j p hj hjp
    exact ⟨y1, by rw [en]; exact y2, pk p y3 (by omega), y4⟩
  · intro kk hkk
    rw [rI 4 (by decide) (by decide), eP 25 (by decide)]
    rcases hG kk hkk with y | ⟨w, y1, y2, y3, y4, y5, y6, y7, y8, m, y9, y10, y11⟩
    · exact Or.inl y
    · have ei : imr gr1 kk = imr gr kk := by unfold imr; rw [rI 3 (by decide) (by decide)]
      refine Or.inr ⟨w, y1, y2, y3, by rw [en]; exact y4, im w y5 (by omega), y6, fun j hj => ?_, by rw [ei]; exact y8, m, y9, by rw [ei]; exact y10, by rw [ei]; exact lw (by omega) y11⟩
      rw [ei]
      refine ⟨?_, (y7 j hj).2⟩
      rw [← (y7 j hj).1]
      exact congrFun (vr_cg fun a ha => cI a (by omega) (by omega)) j
  · intro i hi
    rw [cI 30 (by omega) (by decide), rI 9 (by decide) (by decide)]
    exact hT i hi
  · obtain ⟨c1, c2, c3, c4, c5, c6, c7, c8, c9, c10, c11, c12⟩ := hC
    have eL : am_L gr1 = am_L gr := congrArg (fun z => z.1) r22
    have enr : am_n gr1 = am_n gr := congrArg (fun z => z.2.2.2.1) r22
    have esr : am_s gr1 = am_s gr := congrArg (fun z => z.2.2.2.2) r22
    exact ⟨by rw [cI 28 (by omega) (by decide)]; exact c1, im 1 c2 (by omega), pk 65 c3 (by decide), pk 71 c4 (by decide), by rw [en]; exact c5, by rw [enr]; exact c6, by rw [esr]; exact c7, by rw [en, eP 27 (by decide)]; exact c8, by rw [es, eP 27 (by decide)]; exact c9, by rw [eL]; exact c10, by rw [eL]; exact c11, by rw [eL]; exact c12.1, c12.2.tra (fun a _ => by rw [eS]) (eP 33 (by decide))⟩
  · intro s hs
    rw [cI 72 (by omega) (by decide), cI 76 (by omega) (by decide), rI 34 (by decide) (by decide)]
    exact hW s hs
  · have h1 : LwsR own g1 24 (imr gr k) n := z11.tra (by rw [en]; exact Nat.le_refl _) (fun l hl => eP24 l (by omega)) (fun a ha _ ho => ⟨ho, by rw [eS], eP a (by omega), cI a (by omega) (by omega)⟩) (fun _ _ => rfl)
    exact h1.cgB z9 (fun j _ hj => r2 j hj)
theorem m_back {t : Nat} {gc gr : am_G} (h : Rel t gc gr) (a1 : Int32) : ∃ (v : Int32) (gc1 gr1 : am_G), fX11_back a1 gc = some (v, gc1) ∧ fX12_back a1 gr = some (v, gr1) ∧ Rel (t + 1) gc1 gr1 := by
  have hT := RelM.thr h
  unfold fX11_back fX12_back
  rw [show (0 : Int64) = (nI 0).toInt64 from rfl, show (1 : Int64) = (nI 1).toInt64 from rfl]
  by_cases h1 : nI 0 ≤ a1 ∧ a1 ≤ nI 1
  · obtain ⟨k, hk, rfl⟩ := nn_rng (n := 1) (by decide) h1
    have hk2 : k < 2 := by omega
    obtain ⟨hR, hI, own, hU, hG, hTp, hC, hW, nl, hnl, enl, hLw⟩ := id hT
    rcases hG k hk2 with ⟨z1, z2⟩ | ⟨v, z1, z2, z3, z4, z5, z6, z7, z8, n, z9, z10, z11⟩
    · refine ⟨-nI 2, refC 2 gc, refR 2 (thr gr), ?_, ?_, Rel.nx (hT.refu (by decide))⟩
      · simp (disch := first | omega | assumption | decide) only [↓pv_let, ↓pv_jn, ↓reduceIte, pv_bd, ↓pv_ocs, ↓pv_ocn, pv_gdt, pe_gd, pe_clamp, pt_eq, pf_eq, pt_le, pf_le, pt_lt, pf_lt, nI_add, nn_mul, pe_sub, pb_0, pb_1, pb_z, pe_ieq, pe_ine, pe_ik, pP_si, pS_si, pn_si, ps_si, pL_si, decide_true, ofNat_nI, pe_srI, pe_srN, pe_srS, pe_srP, not_true_eq_false, not_false_eq_true, true_and, and_true, and_self, false_and, and_false, nI_m1, nI_ms, Nat.add_sub_cancel, pl_0, pl_1, pl_2, pl_3, pl_4, pl_5, pl_6, pl_7, pl_8, pl_9, pl_10, pl_11, pl_12, pl_13, pl_14, pl_15, pl_16, pl_17, pl_18, pl_19, pl_20, pl_21, pl_22, pl_23, pl_24, pl_25, pl_26, pl_27, pl_28, pl_29, pl_30, pl_31, pl_32, pl_34, pl_36, pl_37, pl_40, pl_41, pl_42, pl_43, pl_45, pl_47, pl_48, pl_50, pl_57, pl_59, pl_60, pl_61, pl_62, pl_64, pl_70, pl_91, pl_93, pl_97, pl_98, pl_99, pl_100, pl_106, pl_122, pl_128, pl_136, pl_142, pl_165, pl_168, pl_170, pl_171, pl_173, pl_175, pl_187, pl_188, pl_189, pl_190, pl_206, pl_211, pl_219, pl_229, pl_255, pl_260, pl_400, pl_500, pl_512, pl_900, pl_999, pl_1000, pl_1001, pl_1005, pl_1020, pl_1023, pl_1024, pl_1103, pl_2000, pl_2040, pl_2176, pl_5660, pl_9999, pl_12345, pl_1000000, pl_1000003, pl_100000000, pl_1000000000, pz_0, pz_1, pz_t, q11_within, z1, q11_refused]
      · simp (disch := first | omega | assumption | decide) only [↓pv_let, ↓pv_jn, ↓reduceIte, pv_bd, ↓pv_ocs, ↓pv_ocn, pv_gdt, pe_gd, pe_clamp, pt_eq, pf_eq, pt_le, pf_le, pt_lt, pf_lt, nI_add, nn_mul, pe_sub, pb_0, pb_1, pb_z, pe_ieq, pe_ine, pe_ik, pP_si, pS_si, pn_si, ps_si, pL_si, decide_true, ofNat_nI, pe_srI, pe_srN, pe_srS, pe_srP, not_true_eq_false, not_false_eq_true, true_and, and_true, and_self, false_and, and_false, nI_m1, nI_ms, Nat.add_sub_cancel, pl_0, pl_1, pl_2, pl_3, pl_4, pl_5, pl_6, pl_7, pl_8, pl_9, pl_10, pl_11, pl_12, pl_13, pl_14, pl_15, pl_16, pl_17, pl_18, pl_19, pl_20, pl_21, pl_22, pl_23, pl_24, pl_25, pl_26, pl_27, pl_28, pl_29, pl_30, pl_31, pl_32, pl_34, pl_36, pl_37, pl_40, pl_41, pl_42, pl_43, pl_45, pl_47, pl_48, pl_50, pl_57, pl_59, pl_60, pl_61, pl_62, pl_64, pl_70, pl_91, pl_93, pl_97, pl_98, pl_99, pl_100, pl_106, pl_122, pl_128, pl_136, pl_142, pl_165, pl_168, pl_170, pl_171, pl_173, pl_175, pl_187, pl_188, pl_189, pl_190, pl_206, pl_211, pl_219, pl_229, pl_255, pl_260, pl_400, pl_500, pl_512, pl_900, pl_999, pl_1000, pl_1001, pl_1005, pl_1020, pl_1023, pl_1024, pl_1103, pl_2000, pl_2040, pl_2176, pl_5660, pl_9999, pl_12345, pl_1000000, pl_1000003, pl_100000000, pl_1000000000, pz_0, pz_1, pz_t, thr_0, q12_in, z2, q12_tellN]
    · have cf := q9_copyFrom (g := gc) (b := 1) (a := v) hC.2.1 z5 (by omega) (Or.inr rfl) (fun l p hl hp => (z11.2 l p hl hp).2.2.2)
      have bl := backL (k := k) hk2 5660 0 am_fu (thr gr) rfl (by decide)
      refine ⟨nI 0, accC (am_si (cpV gc 1 v) 26 3 (nI 0)), accR (am_si (am_sr (thr gr) 2 (fun j => if 0 ≤ j ∧ j < 5660 then am_I (thr gr) 3 (5660 * k + j) else am_I (thr gr) 2 j)) 0 8 (nI 0)), ?_, ?_, Rel.nx (hT.backv hk2 z1).acc⟩
      · simp (disch := first | omega | assumption | decide) only [↓pv_let, ↓pv_jn, ↓reduceIte, pv_bd, ↓pv_ocs, ↓pv_ocn, pv_gdt, pe_gd, pe_clamp, pt_eq, pf_eq, pt_le, pf_le, pt_lt, pf_lt, nI_add, nn_mul, pe_sub, pb_0, pb_1, pb_z, pe_ieq, pe_ine, pe_ik, pP_si, pS_si, pn_si, ps_si, pL_si, decide_true, ofNat_nI, pe_srI, pe_srN, pe_srS, pe_srP, not_true_eq_false, not_false_eq_true, true_and, and_true, and_self, false_and, and_false, nI_m1, nI_ms, Nat.add_sub_cancel, pl_0, pl_1, pl_2, pl_3, pl_4, pl_5, pl_6, pl_7, pl_8, pl_9, pl_10, pl_11, pl_12, pl_13, pl_14, pl_15, pl_16, pl_17, pl_18, pl_19, pl_20, pl_21, pl_22, pl_23, pl_24, pl_25, pl_26, pl_27, pl_28, pl_29, pl_30, pl_31, pl_32, pl_34, pl_36, pl_37, pl_40, pl_41, pl_42, pl_43, pl_45, pl_47, pl_48, pl_50, pl_57, pl_59, pl_60, pl_61, pl_62, pl_64, pl_70, pl_91, pl_93, pl_97, pl_98, pl_99, pl_100, pl_106, pl_122, pl_128, pl_136, pl_142, pl_165, pl_168, pl_170, pl_171, pl_173, pl_175, pl_187, pl_188, pl_189, pl_190, pl_206, pl_211, pl_219, pl_229, pl_255, pl_260, pl_400, pl_500, pl_512, pl_900, pl_999, pl_1000, pl_1001, pl_1005, pl_1020, pl_1023, pl_1024, pl_1103, pl_2000, pl_2040, pl_2176, pl_5660, pl_9999, pl_12345, pl_1000000, pl_1000003, pl_100000000, pl_1000000000, pz_0, pz_1, pz_t, q11_within, z1, cf, q8_clear, s11_accepted]
      · rw [← bl]
        simp (disch := first | omega | assumption | decide) only [↓pv_let, ↓pv_jn, ↓reduceIte, pv_bd, ↓pv_ocs, ↓pv_ocn, pv_gdt, pe_gd, pe_clamp, pt_eq, pf_eq, pt_le, pf_le, pt_lt, pf_lt, nI_add, nn_mul, pe_sub, pb_0, pb_1, pb_z, pe_ieq, pe_ine, pe_ik, pP_si, pS_si, pn_si, ps_si, pL_si, decide_true, ofNat_nI, pe_srI, pe_srN, pe_srS, pe_srP, not_true_eq_false, not_false_eq_true, true_and, and_true, and_self, false_and, and_false, nI_m1, nI_ms, Nat.add_sub_cancel, pl_0, pl_1, pl_2, pl_3, pl_4, pl_5, pl_6, pl_7, pl_8, pl_9, pl_10, pl_11, pl_12, pl_13, pl_14, pl_15, pl_16, pl_17, pl_18, pl_19, pl_20, pl_21, pl_22, pl_23, pl_24, pl_25, pl_26, pl_27, pl_28, pl_29, pl_30, pl_31, pl_32, pl_34, pl_36, pl_37, pl_40, pl_41, pl_42, pl_43, pl_45, pl_47, pl_48, pl_50, pl_57, pl_59, pl_60, pl_61, pl_62, pl_64, pl_70, pl_91, pl_93, pl_97, pl_98, pl_99, pl_100, pl_106, pl_122, pl_128, pl_136, pl_142, pl_165, pl_168, pl_170, pl_171, pl_173, pl_175, pl_187, pl_188, pl_189, pl_190, pl_206, pl_211, pl_219, pl_229, pl_255, pl_260, pl_400, pl_500, pl_512, pl_900, pl_999, pl_1000, pl_1001, pl_1005, pl_1020, pl_1023, pl_1024, pl_1103, pl_2000, pl_2040, pl_2176, pl_5660, pl_9999, pl_12345, pl_1000000, pl_1000003, pl_100000000, pl_1000000000, pz_0, pz_1, pz_t, thr_0, q12_in, z2]
  · refine ⟨-nI 1, refC 1 gc, refR 1 (thr gr), ?_, ?_, Rel.nx (hT.refu (by decide))⟩
    · simp (disch := first | omega | assumption | decide) only [↓pv_let, ↓pv_jn, ↓reduceIte, pv_bd, ↓pv_ocs, ↓pv_ocn, pv_gdt, pe_gd, pe_clamp, pt_eq, pf_eq, pt_le, pf_le, pt_lt, pf_lt, nI_add, nn_mul, pe_sub, pb_0, pb_1, pb_z, pe_ieq, pe_ine, pe_ik, pP_si, pS_si, pn_si, ps_si, pL_si, decide_true, ofNat_nI, pe_srI, pe_srN, pe_srS, pe_srP, not_true_eq_false, not_false_eq_true, true_and, and_true, and_self, false_and, and_false, nI_m1, nI_ms, Nat.add_sub_cancel, pl_0, pl_1, pl_2, pl_3, pl_4, pl_5, pl_6, pl_7, pl_8, pl_9, pl_10, pl_11, pl_12, pl_13, pl_14, pl_15, pl_16, pl_17, pl_18, pl_19, pl_20, pl_21, pl_22, pl_23, pl_24, pl_25, pl_26, pl_27, pl_28, pl_29, pl_30, pl_31, pl_32, pl_34, pl_36, pl_37, pl_40, pl_41, pl_42, pl_43, pl_45, pl_47, pl_48, pl_50, pl_57, pl_59, pl_60, pl_61, pl_62, pl_64, pl_70, pl_91, pl_93, pl_97, pl_98, pl_99, pl_100, pl_106, pl_122, pl_128, pl_136, pl_142, pl_165, pl_168, pl_170, pl_171, pl_173, pl_175, pl_187, pl_188, pl_189, pl_190, pl_206, pl_211, pl_219, pl_229, pl_255, pl_260, pl_400, pl_500, pl_512, pl_900, pl_999, pl_1000, pl_1001, pl_1005, pl_1020, pl_1023, pl_1024, pl_1103, pl_2000, pl_2040, pl_2176, pl_5660, pl_9999, pl_12345, pl_1000000, pl_1000003, pl_100000000, pl_1000000000, pz_0, pz_1, pz_t, q11_within, h1, q11_refused]
    · simp (disch := first | omega | assumption | decide) only [↓pv_let, ↓pv_jn, ↓reduceIte, pv_bd, ↓pv_ocs, ↓pv_ocn, pv_gdt, pe_gd, pe_clamp, pt_eq, pf_eq, pt_le, pf_le, pt_lt, pf_lt, nI_add, nn_mul, pe_sub, pb_0, pb_1, pb_z, pe_ieq, pe_ine, pe_ik, pP_si, pS_si, pn_si, ps_si, pL_si, decide_true, ofNat_nI, pe_srI, pe_srN, pe_srS, pe_srP, not_true_eq_false, not_false_eq_true, true_and, and_true, and_self, false_and, and_false, nI_m1, nI_ms, Nat.add_sub_cancel, pl_0, pl_1, pl_2, pl_3, pl_4, pl_5, pl_6, pl_7, pl_8, pl_9, pl_10, pl_11, pl_12, pl_13, pl_14, pl_15, pl_16, pl_17, pl_18, pl_19, pl_20, pl_21, pl_22, pl_23, pl_24, pl_25, pl_26, pl_27, pl_28, pl_29, pl_30, pl_31, pl_32, pl_34, pl_36, pl_37, pl_40, pl_41, pl_42, pl_43, pl_45, pl_47, pl_48, pl_50, pl_57, pl_59, pl_60, pl_61, pl_62, pl_64, pl_70, pl_91, pl_93, pl_97, pl_98, pl_99, pl_100, pl_106, pl_122, pl_128, pl_136, pl_142, pl_165, pl_168, pl_170, pl_171, pl_173, pl_175, pl_187, pl_188, pl_189, pl_190, pl_206, pl_211, pl_219, pl_229, pl_255, pl_260, pl_400, pl_500, pl_512, pl_900, pl_999, pl_1000, pl_1001, pl_1005, pl_1020, pl_1023, pl_1024, pl_1103, pl_2000, pl_2040, pl_2176, pl_5660, pl_9999, pl_12345, pl_1000000, pl_1000003, pl_100000000, pl_1000000000, pz_0, pz_1, pz_t, thr_0, q12_in, h1, q12_tellN]
