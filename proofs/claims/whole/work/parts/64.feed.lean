/-! ===== bytes; feed ===== -/
theorem byte_and (y : Int32) : y &&& nI 255 = nI (y.toBitVec.toNat % 256) := by
  apply Int32.toBitVec.inj
  apply BitVec.eq_of_toNat_eq
  show (y.toBitVec &&& (nI 255).toBitVec).toNat = (BitVec.ofNat 32 (y.toBitVec.toNat % 256)).toNat
  rw [BitVec.toNat_and, show (nI 255).toBitVec.toNat = 2 ^ 8 - 1 from rfl, Nat.and_two_pow_sub_one_eq_mod, BitVec.toNat_ofNat, Nat.mod_eq_of_lt (show y.toBitVec.toNat % 256 < 2 ^ 32 by omega)]
theorem byte_sg (y : Int32) : y.toInt8.toInt32 = (if y.toBitVec.toNat % 256 < 128 then nI (y.toBitVec.toNat % 256) else nI (y.toBitVec.toNat % 256) - nI 256) := by
  have hm : y.toBitVec.toNat % 256 < 256 := Nat.mod_lt _ (by decide)
  have e : y.toInt8.toInt32.toInt = (y.toBitVec.toNat : Int).bmod 256 := by
    rw [Int8.toInt_toInt32, Int32.toInt_toInt8]
    show (y.toBitVec.toInt).bmod (2 ^ 8) = _
    rw [BitVec.toInt_eq_toNat_bmod]
    exact Int.bmod_bmod_of_dvd (by decide)
  have e2 : (y.toBitVec.toNat : Int).bmod 256 = if y.toBitVec.toNat % 256 < 128 then ((y.toBitVec.toNat % 256 : Nat) : Int) else ((y.toBitVec.toNat % 256 : Nat) : Int) - 256 := by
    rw [Int.bmod_def]
    split
    · rw [if_pos (by omega)]; omega
    · rw [if_neg (by omega)]; omega
  apply Int32.toInt_inj.mp
  rw [e, e2]
  split
  · rw [nn_toInt (by omega)]
  · have key : ∀ m, m < 256 → 128 ≤ m → (nI m - nI 256).toInt = (m : Int) - 256 := by decide +kernel
    rw [key _ hm (by omega)]
theorem byte_c : ∀ m, m < 256 → (if m < 128 then nI m else nI m - nI 256) &&& nI 255 = nI m := by decide +kernel
theorem nar_b (y : Int32) : vp_nar .byte (y.toInt8.toInt32) = y.toInt8.toInt32 := by
  show (y.toInt8.toInt32).toInt8.toInt32 = y.toInt8.toInt32
  rw [Int8.toInt8_toInt32]
theorem om_tape : ∀ q ∈ om, q.2.1 ≠ 30 ∧ q.1.1 ≠ 9 ∧ (q.2 = (29, 4) → q.1 = (0, 13)) ∧ (q.1 = (0, 13) → q.2 = (29, 4)) := by decide +kernel
theorem RelM.tape {B t len : Nat} {gc gr : am_G} (h : RelM B t gc gr) (hl : len < 400) (y : Int32) : RelM B t (am_si (am_si gc 30 len (y.toInt8.toInt32)) 29 4 (nI (len + 1))) (am_si (am_si gr 9 len (y &&& nI 255)) 0 13 (nI (len + 1))) := by
  obtain ⟨hR, hI, own, hU, hG, hT, hC, hW, nl, hnl, enl, hLw⟩ := h
  have cI : ∀ a, a ≠ 29 → a ≠ 30 → am_I (am_si (am_si gc 30 len (y.toInt8.toInt32)) 29 4 (nI (len + 1))) a = am_I gc a := fun a h1 h2 => by rw [pI_si_ne _ _ _ h1, pI_si_ne _ _ _ h2]
  have rI : ∀ a, a ≠ 0 → a ≠ 9 → am_I (am_si (am_si gr 9 len (y &&& nI 255)) 0 13 (nI (len + 1))) a = am_I gr a := fun a h1 h2 => by rw [pI_si_ne _ _ _ h1, pI_si_ne _ _ _ h2]
  have r0 : ∀ k, k ≠ 13 → am_I (am_si (am_si gr 9 len (y &&& nI 255)) 0 13 (nI (len + 1))) 0 k = am_I gr 0 k := fun k hk => by rw [pe_ik hk, pI_si_ne _ _ _ (by decide)]
  have lw : ∀ {la : Nat} {ρ : Row} {n : Nat}, LwsR own gc la ρ n → LwsR own (am_si (am_si gc 30 len (y.toInt8.toInt32)) 29 4 (nI (len + 1))) la ρ n := fun hL => hL.tra (Nat.le_refl _) (fun _ _ => rfl) (fun a ha _ ho => ⟨ho, rfl, rfl, cI a (by omega) (by omega)⟩) (fun _ _ => rfl)
  refine ⟨fun q hq => ?_, ⟨fun j hj => by rw [rI 2 (by decide) (by decide)]; exact hI.1 j hj, by rw [rI 2 (by decide) (by decide)]; exact hI.2.1, by rw [pe_ieq, nn_toInt (by omega)]; omega, by rw [r0 8 (by decide)]; exact hI.2.2.2⟩, own, ?_, ?_, ?_, ?_, ?_, nl, hnl, by rw [rI 2 (by decide) (by decide)]; exact enl, by rw [rI 2 (by decide) (by decide)]; exact lw hLw⟩
  · obtain ⟨o1, o2, o3, o4⟩ := om_tape q hq
    by_cases h29 : q.2.1 = 29 ∧ q.2.2 = 4
    · have z := o3 (Prod.ext h29.1 h29.2)
      rw [h29.1, h29.2, z, pe_ieq, pe_ieq]
    · have hne : ¬ (q.1.1 = 0 ∧ q.1.2 = 13) := fun z => h29 (by rw [o4 (Prod.ext z.1 z.2)]; exact ⟨rfl, rfl⟩)
      rw [pI_si, if_neg h29, pI_si_ne _ _ _ o1, pI_si, if_neg hne, pI_si_ne _ _ _ o2]
      exact hR q hq
  · obtain ⟨x, k, hx, hk, ex, ek, hring, hu⟩ := hU
    refine ⟨x, k, hx, hk, by rw [cI 26 (by decide) (by decide)]; exact ex, by rw [r0 8 (by decide)]; exact ek, hring, fun i hi => ?_⟩
    obtain ⟨p, u1, u2, u3, u4⟩ := hu i hi
    have h79 := (hring _ p (Nat.mod_lt _ (by decide)) u1).1
    refine ⟨p, u1, by rw [cI 28 (by decide) (by decide), rI 6 (by decide) (by decide)]; exact u2, by rw [rI 6 (by decide) (by decide)]; exact u3, fun j h1 h2 => ?_⟩
    rw [rI 5 (by decide) (by decide)]
    refine ⟨?_, (u4 j h1 h2).2⟩
    rw [← (u4 j h1 h2).1]
    exact congrFun (vr_cg fun a ha => cI a (by omega) (by omega)) j
  · intro kk hkk
    rw [rI 4 (by decide) (by decide)]
    rcases hG kk hkk with z | ⟨v, z1, z2, z3, z4, z5, z6, z7, z8, n, z9, z10, z11⟩
    · exact Or.inl z
    · have ei : imr (am_si (am_si gr 9 len (y &&& nI 255)) 0 13 (nI (len + 1))) kk = imr gr kk := by unfold imr; rw [rI 3 (by decide) (by decide)]
      refine Or.inr ⟨v, z1, z2, z3, z4, z5, z6, fun j hj => ?_, by rw [ei]; exact z8, n, z9, by rw [ei]; exact z10, by rw [ei]; exact lw z11⟩
      rw [ei]
      refine ⟨?_, (z7 j hj).2⟩
      rw [← (z7 j hj).1]
      exact congrFun (vr_cg fun a ha => cI a (by omega) (by omega)) j
  · intro i hi
    rw [pI_si_ne _ _ _ (show 30 ≠ 29 by decide), pI_si_ne _ _ _ (show 9 ≠ 0 by decide)]
    by_cases e : i = len
    · subst e
      rw [pe_ieq, pe_ieq, byte_sg y, byte_and y]
      exact ⟨byte_c _ (Nat.mod_lt _ (by decide)), _, Nat.mod_lt _ (by decide), rfl, rfl⟩
    · rw [pe_ik e, pe_ik e]
      exact hT i hi
  · obtain ⟨c1, c2⟩ := hC
    exact ⟨by rw [cI 28 (by decide) (by decide)]; exact c1, c2⟩
  · intro s hs
    rw [cI 72 (by decide) (by decide), cI 76 (by decide) (by decide), rI 34 (by decide) (by decide)]
    exact hW s hs
/-- a byte -/
theorem RelM.byte {B t len k : Nat} {gc gr : am_G} (h : RelM B t gc gr) (hl : len < 400) (ec : am_I gc 29 4 = nI len) (er : am_I gr 0 13 = nI len) (a : Int32) (hk : k ≤ 24) (n : Nat) : ∃ gc1 gr1, fX5_append_L3 a (n + 1) (nI k) gc = fX5_append_L3 a n (nI k + -8) gc1 ∧ fX12_four_L3 a (n + 1) (nI k) gr = fX12_four_L3 a n (nI k + -8) gr1 ∧ RelM B t gc1 gr1 ∧ am_I gc1 29 4 = nI (len + 1) ∧ am_I gr1 0 13 = nI (len + 1) := by
  refine ⟨_, _, ?_, ?_, h.tape hl (a >>> (nI k &&& 31)), pe_ieq _ _ _ _, pe_ieq _ _ _ _⟩
  · rw [fX5_append_L3]
    simp (disch := first | omega | assumption | decide) only [↓pv_let, ↓pv_jn, ↓reduceIte, pv_bd, ↓pv_ocs, ↓pv_ocn, pv_gdt, pe_gd, pe_clamp, pt_eq, pf_eq, pt_le, pf_le, pt_lt, pf_lt, nI_add, nn_mul, pe_sub, pb_0, pb_1, pb_z, pe_ieq, pe_ine, pe_ik, pP_si, pS_si, pn_si, ps_si, pL_si, decide_true, ofNat_nI, pe_srI, pe_srN, pe_srS, pe_srP, not_true_eq_false, not_false_eq_true, true_and, and_true, and_self, false_and, and_false, nI_m1, nI_ms, Nat.add_sub_cancel, pl_0, pl_1, pl_2, pl_3, pl_4, pl_5, pl_6, pl_7, pl_8, pl_9, pl_10, pl_11, pl_12, pl_13, pl_14, pl_15, pl_16, pl_17, pl_18, pl_19, pl_20, pl_21, pl_22, pl_23, pl_24, pl_25, pl_26, pl_27, pl_28, pl_29, pl_30, pl_31, pl_32, pl_34, pl_36, pl_37, pl_40, pl_41, pl_42, pl_43, pl_45, pl_47, pl_48, pl_50, pl_57, pl_59, pl_60, pl_61, pl_62, pl_64, pl_70, pl_91, pl_93, pl_97, pl_98, pl_99, pl_100, pl_106, pl_122, pl_128, pl_136, pl_142, pl_165, pl_168, pl_170, pl_171, pl_173, pl_175, pl_187, pl_188, pl_189, pl_190, pl_206, pl_211, pl_219, pl_229, pl_255, pl_260, pl_400, pl_500, pl_512, pl_900, pl_999, pl_1000, pl_1001, pl_1005, pl_1020, pl_1023, pl_1024, pl_1103, pl_2000, pl_2040, pl_2176, pl_5660, pl_9999, pl_12345, pl_1000000, pl_1000003, pl_100000000, pl_1000000000, pz_0, pz_1, pz_t, ec, nar_b]
  · rw [fX12_four_L3]
    simp (disch := first | omega | assumption | decide) only [↓pv_let, ↓pv_jn, ↓reduceIte, pv_bd, ↓pv_ocs, ↓pv_ocn, pv_gdt, pe_gd, pe_clamp, pt_eq, pf_eq, pt_le, pf_le, pt_lt, pf_lt, nI_add, nn_mul, pe_sub, pb_0, pb_1, pb_z, pe_ieq, pe_ine, pe_ik, pP_si, pS_si, pn_si, ps_si, pL_si, decide_true, ofNat_nI, pe_srI, pe_srN, pe_srS, pe_srP, not_true_eq_false, not_false_eq_true, true_and, and_true, and_self, false_and, and_false, nI_m1, nI_ms, Nat.add_sub_cancel, pl_0, pl_1, pl_2, pl_3, pl_4, pl_5, pl_6, pl_7, pl_8, pl_9, pl_10, pl_11, pl_12, pl_13, pl_14, pl_15, pl_16, pl_17, pl_18, pl_19, pl_20, pl_21, pl_22, pl_23, pl_24, pl_25, pl_26, pl_27, pl_28, pl_29, pl_30, pl_31, pl_32, pl_34, pl_36, pl_37, pl_40, pl_41, pl_42, pl_43, pl_45, pl_47, pl_48, pl_50, pl_57, pl_59, pl_60, pl_61, pl_62, pl_64, pl_70, pl_91, pl_93, pl_97, pl_98, pl_99, pl_100, pl_106, pl_122, pl_128, pl_136, pl_142, pl_165, pl_168, pl_170, pl_171, pl_173, pl_175, pl_187, pl_188, pl_189, pl_190, pl_206, pl_211, pl_219, pl_229, pl_255, pl_260, pl_400, pl_500, pl_512, pl_900, pl_999, pl_1000, pl_1001, pl_1005, pl_1020, pl_1023, pl_1024, pl_1103, pl_2000, pl_2040, pl_2176, pl_5660, pl_9999, pl_12345, pl_1000000, pl_1000003, pl_100000000, pl_1000000000, pz_0, pz_1, pz_t, er]
/-- four bytes -/
theorem RelM.four {B t len : Nat} {gc gr : am_G} (h : RelM B t gc gr) (hl : len + 4 ≤ 400) (ec : am_I gc 29 4 = nI len) (er : am_I gr 0 13 = nI len) (a : Int32) : ∃ gc1 gr1, fX5_append a gc = some ((), gc1) ∧ fX12_four a gr = some ((), gr1) ∧ RelM B t gc1 gr1 ∧ am_I gc1 29 4 = nI (len + 4) ∧ am_I gr1 0 13 = nI (len + 4) := by
  have hfu : am_fu = 1048571 + 1 + 1 + 1 + 1 + 1 := rfl
  have e1 : nI 24 + -8 = nI 16 := by decide
  have e2 : nI 16 + -8 = nI 8 := by decide
  have e3 : nI 8 + -8 = nI 0 := by decide
  obtain ⟨c1, r1, p1, q1, h1, ec1, er1⟩ := h.byte (by omega) ec er a (k := 24) (by decide) (1048571 + 1 + 1 + 1 + 1)
  obtain ⟨c2, r2, p2, q2, h2, ec2, er2⟩ := h1.byte (by omega) ec1 er1 a (k := 16) (by decide) (1048571 + 1 + 1 + 1)
  obtain ⟨c3, r3, p3, q3, h3, ec3, er3⟩ := h2.byte (by omega) ec2 er2 a (k := 8) (by decide) (1048571 + 1 + 1)
  obtain ⟨c4, r4, p4, q4, h4, ec4, er4⟩ := h3.byte (by omega) ec3 er3 a (k := 0) (by decide) (1048571 + 1)
  refine ⟨c4, r4, ?_, ?_, h4, ec4, er4⟩
  · unfold fX5_append
    rw [hfu, show (24 : Int32) = nI 24 from rfl, p1, e1, p2, e2, p3, e3, p4, fX5_append_L3, if_pos (by decide)]
  · unfold fX12_four
    rw [hfu, show (24 : Int32) = nI 24 from rfl, q1, e1, q2, e2, q3, e3, q4, fX12_four_L3, if_pos (by decide)]
theorem m_feed {t : Nat} {gc gr : am_G} (h : Rel t gc gr) (a1 a2 a3 a4 a5 : Int32) : ∃ (v : Int32) (gc1 gr1 : am_G), fX11_feed a1 a2 a3 a4 a5 gc = some (v, gc1) ∧ fX12_feed a1 a2 a3 a4 a5 gr = some (v, gr1) ∧ Rel (t + 1) gc1 gr1 := by
  have hT := RelM.thr h
  have h13 := hT.2.1.2.2.1
  have h0 : (0 : Int32) ≤ am_I (thr gr) 0 13 := Int32.le_iff_toInt_le.mpr (by have : (0 : Int32).toInt = 0 := rfl; omega)
  obtain ⟨e1, e2⟩ := nn_of h0
  have e3 : (am_I (thr gr) 0 13).toNatClampNeg = (am_I (thr gr) 0 13).toInt.toNat := rfl
  obtain ⟨len, hlen, er⟩ : ∃ len, len ≤ 400 ∧ am_I (thr gr) 0 13 = nI len := ⟨_, by omega, e1⟩
  have ec : am_I gc 29 4 = nI len := (hT.1.at (ra := 0) (rk := 13) (by decide +kernel)).trans er
  unfold fX11_feed fX12_feed
  by_cases hl : len + 20 ≤ 400
  · obtain ⟨c1, r1, p1, q1, h1, ec1, er1⟩ := hT.four (by omega) ec er a1
    obtain ⟨c2, r2, p2, q2, h2, ec2, er2⟩ := h1.four (by omega) ec1 er1 a2
    obtain ⟨c3, r3, p3, q3, h3, ec3, er3⟩ := h2.four (by omega) ec2 er2 a3
    obtain ⟨c4, r4, p4, q4, h4, ec4, er4⟩ := h3.four (by omega) ec3 er3 a4
    obtain ⟨c5, r5, p5, q5, h5, ec5, er5⟩ := h4.four (by omega) ec4 er4 a5
    refine ⟨nI (len + 4 + 4 + 4 + 4 + 4), c5, r5, ?_, ?_, Rel.nx h5⟩
    · simp (disch := first | omega | assumption | decide) only [↓pv_let, ↓pv_jn, ↓reduceIte, pv_bd, ↓pv_ocs, ↓pv_ocn, pv_gdt, pe_gd, pe_clamp, pt_eq, pf_eq, pt_le, pf_le, pt_lt, pf_lt, nI_add, nn_mul, pe_sub, pb_0, pb_1, pb_z, pe_ieq, pe_ine, pe_ik, pP_si, pS_si, pn_si, ps_si, pL_si, decide_true, ofNat_nI, pe_srI, pe_srN, pe_srS, pe_srP, not_true_eq_false, not_false_eq_true, true_and, and_true, and_self, false_and, and_false, nI_m1, nI_ms, Nat.add_sub_cancel, pl_0, pl_1, pl_2, pl_3, pl_4, pl_5, pl_6, pl_7, pl_8, pl_9, pl_10, pl_11, pl_12, pl_13, pl_14, pl_15, pl_16, pl_17, pl_18, pl_19, pl_20, pl_21, pl_22, pl_23, pl_24, pl_25, pl_26, pl_27, pl_28, pl_29, pl_30, pl_31, pl_32, pl_34, pl_36, pl_37, pl_40, pl_41, pl_42, pl_43, pl_45, pl_47, pl_48, pl_50, pl_57, pl_59, pl_60, pl_61, pl_62, pl_64, pl_70, pl_91, pl_93, pl_97, pl_98, pl_99, pl_100, pl_106, pl_122, pl_128, pl_136, pl_142, pl_165, pl_168, pl_170, pl_171, pl_173, pl_175, pl_187, pl_188, pl_189, pl_190, pl_206, pl_211, pl_219, pl_229, pl_255, pl_260, pl_400, pl_500, pl_512, pl_900, pl_999, pl_1000, pl_1001, pl_1005, pl_1020, pl_1023, pl_1024, pl_1103, pl_2000, pl_2040, pl_2176, pl_5660, pl_9999, pl_12345, pl_1000000, pl_1000003, pl_100000000, pl_1000000000, pz_0, pz_1, pz_t, ec, p1, p2, p3, p4, p5, ec5]
    · simp (disch := first | omega | assumption | decide) only [↓pv_let, ↓pv_jn, ↓reduceIte, pv_bd, ↓pv_ocs, ↓pv_ocn, pv_gdt, pe_gd, pe_clamp, pt_eq, pf_eq, pt_le, pf_le, pt_lt, pf_lt, nI_add, nn_mul, pe_sub, pb_0, pb_1, pb_z, pe_ieq, pe_ine, pe_ik, pP_si, pS_si, pn_si, ps_si, pL_si, decide_true, ofNat_nI, pe_srI, pe_srN, pe_srS, pe_srP, not_true_eq_false, not_false_eq_true, true_and, and_true, and_self, false_and, and_false, nI_m1, nI_ms, Nat.add_sub_cancel, pl_0, pl_1, pl_2, pl_3, pl_4, pl_5, pl_6, pl_7, pl_8, pl_9, pl_10, pl_11, pl_12, pl_13, pl_14, pl_15, pl_16, pl_17, pl_18, pl_19, pl_20, pl_21, pl_22, pl_23, pl_24, pl_25, pl_26, pl_27, pl_28, pl_29, pl_30, pl_31, pl_32, pl_34, pl_36, pl_37, pl_40, pl_41, pl_42, pl_43, pl_45, pl_47, pl_48, pl_50, pl_57, pl_59, pl_60, pl_61, pl_62, pl_64, pl_70, pl_91, pl_93, pl_97, pl_98, pl_99, pl_100, pl_106, pl_122, pl_128, pl_136, pl_142, pl_165, pl_168, pl_170, pl_171, pl_173, pl_175, pl_187, pl_188, pl_189, pl_190, pl_206, pl_211, pl_219, pl_229, pl_255, pl_260, pl_400, pl_500, pl_512, pl_900, pl_999, pl_1000, pl_1001, pl_1005, pl_1020, pl_1023, pl_1024, pl_1103, pl_2000, pl_2040, pl_2176, pl_5660, pl_9999, pl_12345, pl_1000000, pl_1000003, pl_100000000, pl_1000000000, pz_0, pz_1, pz_t, thr_0, er, q1, q2, q3, q4, q5, er5]
  · refine ⟨-nI 1, gc, thr gr, ?_, ?_, Rel.nx hT⟩
    · simp (disch := first | omega | assumption | decide) only [↓pv_let, ↓pv_jn, ↓reduceIte, pv_bd, ↓pv_ocs, ↓pv_ocn, pv_gdt, pe_gd, pe_clamp, pt_eq, pf_eq, pt_le, pf_le, pt_lt, pf_lt, nI_add, nn_mul, pe_sub, pb_0, pb_1, pb_z, pe_ieq, pe_ine, pe_ik, pP_si, pS_si, pn_si, ps_si, pL_si, decide_true, ofNat_nI, pe_srI, pe_srN, pe_srS, pe_srP, not_true_eq_false, not_false_eq_true, true_and, and_true, and_self, false_and, and_false, nI_m1, nI_ms, Nat.add_sub_cancel, pl_0, pl_1, pl_2, pl_3, pl_4, pl_5, pl_6, pl_7, pl_8, pl_9, pl_10, pl_11, pl_12, pl_13, pl_14, pl_15, pl_16, pl_17, pl_18, pl_19, pl_20, pl_21, pl_22, pl_23, pl_24, pl_25, pl_26, pl_27, pl_28, pl_29, pl_30, pl_31, pl_32, pl_34, pl_36, pl_37, pl_40, pl_41, pl_42, pl_43, pl_45, pl_47, pl_48, pl_50, pl_57, pl_59, pl_60, pl_61, pl_62, pl_64, pl_70, pl_91, pl_93, pl_97, pl_98, pl_99, pl_100, pl_106, pl_122, pl_128, pl_136, pl_142, pl_165, pl_168, pl_170, pl_171, pl_173, pl_175, pl_187, pl_188, pl_189, pl_190, pl_206, pl_211, pl_219, pl_229, pl_255, pl_260, pl_400, pl_500, pl_512, pl_900, pl_999, pl_1000, pl_1001, pl_1005, pl_1020, pl_1023, pl_1024, pl_1103, pl_2000, pl_2040, pl_2176, pl_5660, pl_9999, pl_12345, pl_1000000, pl_1000003, pl_100000000, pl_1000000000, pz_0, pz_1, pz_t, ec]
    · simp (disch := first | omega | assumption | decide) only [↓pv_let, ↓pv_jn, ↓reduceIte, pv_bd, ↓pv_ocs, ↓pv_ocn, pv_gdt, pe_gd, pe_clamp, pt_eq, pf_eq, pt_le, pf_le, pt_lt, pf_lt, nI_add, nn_mul, pe_sub, pb_0, pb_1, pb_z, pe_ieq, pe_ine, pe_ik, pP_si, pS_si, pn_si, ps_si, pL_si, decide_true, ofNat_nI, pe_srI, pe_srN, pe_srS, pe_srP, not_true_eq_false, not_false_eq_true, true_and, and_true, and_self, false_and, and_false, nI_m1, nI_ms, Nat.add_sub_cancel, pl_0, pl_1, pl_2, pl_3, pl_4, pl_5, pl_6, pl_7, pl_8, pl_9, pl_10, pl_11, pl_12, pl_13, pl_14, pl_15, pl_16, pl_17, pl_18, pl_19, pl_20, pl_21, pl_22, pl_23, pl_24, pl_25, pl_26, pl_27, pl_28, pl_29, pl_30, pl_31, pl_32, pl_34, pl_36, pl_37, pl_40, pl_41, pl_42, pl_43, pl_45, pl_47, pl_48, pl_50, pl_57, pl_59, pl_60, pl_61, pl_62, pl_64, pl_70, pl_91, pl_93, pl_97, pl_98, pl_99, pl_100, pl_106, pl_122, pl_128, pl_136, pl_142, pl_165, pl_168, pl_170, pl_171, pl_173, pl_175, pl_187, pl_188, pl_189, pl_190, pl_206, pl_211, pl_219, pl_229, pl_255, pl_260, pl_400, pl_500, pl_512, pl_900, pl_999, pl_1000, pl_1001, pl_1005, pl_1020, pl_1023, pl_1024, pl_1103, pl_2000, pl_2040, pl_2176, pl_5660, pl_9999, pl_12345, pl_1000000, pl_1000003, pl_100000000, pl_1000000000, pz_0, pz_1, pz_t, thr_0, er]
