/-! ===== winter ===== -/
def FcW (g g' : am_G) : Prop := g'.2 = g.2 ∧ ∀ a, ¬ (31 ≤ a ∧ a ≤ 76) → a ≠ 78 → am_I g' a = am_I g a
def scX (a k : Nat) : Prop := scR a k ∨ a = 34
def FrX (g g' : am_G) : Prop := (∀ a k, ¬ scX a k → am_I g' a k = am_I g a k) ∧ (∀ a, a ≠ 0 → a ≠ 18 → a ≠ 19 → a ≠ 20 → am_L g' a = am_L g a) ∧ g'.2.2 = g.2.2
theorem om_scw : ∀ q ∈ om, ¬ (31 ≤ q.2.1 ∧ q.2.1 ≤ 76) ∧ q.2.1 ≠ 78 ∧ (q.1.1 = 0 → q.1.2 = 1 ∨ q.1.2 = 8 ∨ q.1.2 = 11 ∨ q.1.2 = 13 ∨ q.1.2 = 18 ∨ q.1.2 = 20 ∨ q.1.2 = 59 ∨ q.1.2 = 63) ∧ (q.1.1 = 0 ∨ q.1.1 = 1 ∨ q.1.1 = 2) := by decide +kernel
theorem RelM.scrW {B t : Nat} {gc gr gc1 gr1 : am_G} (h : RelM B t gc gr) (hc : FcW gc gc1) (hr : FrX gr gr1) (hW' : WinR gc1 gr1) : RelM B t gc1 gr1 := by
  obtain ⟨hR, hI, own, hU, hG, hT, hC, hW, nl, hnl, enl, hLw⟩ := h
  have eP : am_P gc1 = am_P gc := congrArg (fun z => z.2.1) hc.1
  have eS : am_S gc1 = am_S gc := congrArg (fun z => z.2.2.1) hc.1
  have en : am_n gc1 = am_n gc := congrArg (fun z => z.2.2.2.1) hc.1
  have es : am_s gc1 = am_s gc := congrArg (fun z => z.2.2.2.2) hc.1
  have enr : am_n gr1 = am_n gr := congrArg (fun z => z.2.2.1) hr.2.2
  have esr : am_s gr1 = am_s gr := congrArg (fun z => z.2.2.2) hr.2.2
  have cI : ∀ a, ¬ (31 ≤ a ∧ a ≤ 76) → a ≠ 78 → am_I gc1 a = am_I gc a := hc.2
  have r2 : am_I gr1 2 = am_I gr 2 := funext fun k => hr.1 2 k (by unfold scX scR; omega)
  have r3 : am_I gr1 3 = am_I gr 3 := funext fun k => hr.1 3 k (by unfold scX scR; omega)
  have r4 : am_I gr1 4 = am_I gr 4 := funext fun k => hr.1 4 k (by unfold scX scR; omega)
  have r5 : ∀ k, k < 2176 → am_I gr1 5 k = am_I gr 5 k := fun k hk => hr.1 5 k (by unfold scX scR; omega)
  have r6 : am_I gr1 6 = am_I gr 6 := funext fun k => hr.1 6 k (by unfold scX scR; omega)
  have r9 : am_I gr1 9 = am_I gr 9 := funext fun k => hr.1 9 k (by unfold scX scR; omega)
  have lw : ∀ {la : Nat} {ρ : Row} {n : Nat}, LwsR own gc la ρ n → LwsR own gc1 la ρ n := fun hL => hL.tra (by rw [en]; exact Nat.le_refl _) (fun _ _ => by rw [eP]) (fun a ha _ ho => ⟨ho, by rw [eS], by rw [eP], cI a (by omega) (by omega)⟩) (fun _ _ => rfl)
  refine ⟨fun q hq => ?_, ⟨fun j hj => by rw [r2]; exact hI.1 j hj, by rw [r2]; exact hI.2.1, by rw [hr.1 0 13 (by unfold scX scR sc0; omega)]; exact hI.2.2.1, by rw [hr.1 0 8 (by unfold scX scR sc0; omega)]; exact hI.2.2.2⟩, own, ?_, ?_, ?_, ?_, ?_, nl, hnl, by rw [r2]; exact enl, by rw [r2]; exact lw hLw⟩
  · obtain ⟨o1, o2, o3, o4⟩ := om_scw q hq
    rw [cI _ o1 o2, hr.1 _ _ (by unfold scX scR sc0; omega)]
    exact hR q hq
  · obtain ⟨x, k, hx, hk, ex, ek, hring, hu⟩ := hU
    refine ⟨x, k, hx, hk, by rw [cI 26 (by decide) (by decide)]; exact ex, by rw [hr.1 0 8 (by unfold scX scR sc0; omega)]; exact ek, fun j p hj hjp => ?_, fun i hi => ?_⟩
    · rw [eP] at hjp
      obtain ⟨z1, z2, z3, z4⟩ := hring j p hj hjp
      exact ⟨z1, by rw [en]; exact z2, z3.eq2 eP eS, z4⟩
    · obtain ⟨p, u1, u2, u3, u4⟩ := hu i hi
      have h79 := (hring _ p (Nat.mod_lt _ (by decide)) u1).1
      refine ⟨p, by rw [eP]; exact u1, by rw [cI 28 (by decide) (by decide), r6]; exact u2, by rw [r6]; exact u3, fun j h1 h2 => ?_⟩
      rw [r5 _ (by omega)]
      refine ⟨?_, (u4 j h1 h2).2⟩
      rw [← (u4 j h1 h2).1]
      exact congrFun (vr_cg fun a ha => cI a (by omega) (by omega)) j
  · intro kk hkk
    rw [r4]
    rcases hG kk hkk with ⟨z1, z2⟩ | ⟨v, z1, z2, z3, z4, z5, z6, z7, z8, n, z9, z10, z11⟩
    · exact Or.inl ⟨by rw [eP]; exact z1, z2⟩
    · have ei : imr gr1 kk = imr gr kk := by unfold imr; rw [r3]
      refine Or.inr ⟨v, by rw [eP]; exact z1, z2, z3, by rw [en]; exact z4, z5.eq eP eS, z6, fun j hj => ?_, by rw [ei]; exact z8, n, z9, by rw [ei]; exact z10, by rw [ei]; exact lw z11⟩
      rw [ei]
      refine ⟨?_, (z7 j hj).2⟩
      rw [← (z7 j hj).1]
      exact congrFun (vr_cg fun a ha => cI a (by omega) (by omega)) j
  · intro i hi
    rw [cI 30 (by decide) (by decide), r9]
    exact hT i hi
  · obtain ⟨c1, c2, c3, c4, c5, c6, c7, c8, c9, c10, c11, c12⟩ := hC
    exact ⟨by rw [cI 28 (by decide) (by decide)]; exact c1, c2.eq eP eS, c3.eq2 eP eS, c4.eq2 eP eS, by rw [en]; exact c5, by rw [enr]; exact c6, by rw [esr]; exact c7, by rw [en, eP]; exact c8, by rw [es, eP]; exact c9, by rw [hr.2.1 15 (by decide) (by decide) (by decide) (by decide)]; exact c10, by rw [hr.2.1 16 (by decide) (by decide) (by decide) (by decide)]; exact c11, by rw [hr.2.1 17 (by decide) (by decide) (by decide) (by decide)]; exact c12.1, c12.2.eq eP eS⟩
  · exact hW'
/-- the row runs on, draws are drawn -/
def FrV (g g' : am_G) : Prop := (∀ a k, a ≠ 21 → a ≠ 22 → ¬ (a = 0 ∧ (k = 34 ∨ k = 38)) → ¬ (a = 2 ∧ pkj k) → am_I g' a k = am_I g a k) ∧ (∀ a, a ≠ 0 → a ≠ 18 → a ≠ 20 → am_L g' a = am_L g a) ∧ g'.2.2 = g.2.2
theorem FrV.rf (g : am_G) : FrV g g := ⟨fun _ _ _ _ _ _ => rfl, fun _ _ _ _ => rfl, rfl⟩
theorem FrV.tr {g h i : am_G} (h1 : FrV g h) (h2 : FrV h i) : FrV g i := ⟨fun a k x y z w => (h2.1 a k x y z w).trans (h1.1 a k x y z w), fun a x y z => (h2.2.1 a x y z).trans (h1.2.1 a x y z), h2.2.2.trans h1.2.2⟩
theorem FrW.V {g h : am_G} (h1 : FrW g h) : FrV g h := ⟨h1.1, fun a x y z => funext fun k => h1.2.1 a k z y (by omega), h1.2.2⟩
theorem FrV.sl {g h : am_G} (h1 : FrV g h) (k : Nat) (x : Int64) : FrV g (am_sl h 0 k x) := ⟨fun a j x y z w => by rw [rI_sl]; exact h1.1 a j x y z w, fun a x y z => funext fun j => by rw [pL_sl, if_neg (fun e => x e.1)]; exact congrFun (h1.2.1 a x y z) j, h1.2.2⟩
theorem LawR.fv {g g' : am_G} {q : Option pLw} (h : LawR (am_I g 2) q) (f : FrV g g') : LawR (am_I g' 2) q := h.cg fun k hk => f.1 2 k (by decide) (by decide) (by omega) (by unfold pkj; omega)
/-- one talk of a winter, in the class -/
theorem q11_wtalk {g : am_G} {q : Option pLw} {ρ : Row} {nw m : Nat} (h0 : 0 < nw) (hnw : nw ≤ 16) (hm : m ≤ 1000002) (ec : am_I g 12 4 = nI nw) (hP : PkS g 71) (hq : LawC g q) (hr : vr g 1 71 = ρ) (hV : okV ρ) : ∃ g', fX11_winterTalk 71 (nI m) g = some (nI (nxd (nxd (nxd m))), g') ∧ Fc 71 g g' ∧ vr g' 1 71 = (if brd q ρ (nxd m % nw) (nxd (nxd m) % 4) (nxd (nxd (nxd m)) % 3 + 1) then ρ else (sayP q ρ 0 (nxd m % nw) (nxd (nxd m) % 4) (nxd (nxd (nxd m)) % 3 + 1)).2) := by
  have n1 := nxd_le m
  have n2 := nxd_le (nxd m)
  have n3 := nxd_le (nxd (nxd m))
  have b1 := Nat.mod_lt (nxd m) h0
  have b2 := Nat.mod_lt (nxd (nxd m)) (show 0 < 4 by decide)
  have b3 := Nat.mod_lt (nxd (nxd (nxd m))) (show 0 < 3 by decide)
  have emx : am_max (nI 1) (nI nw) = nI nw := by rw [mx_n (by decide) (by omega), Nat.max_eq_right (by omega)]
  have d1 := fun g0 => q11_nextDraw (m := m) hm g0
  have d2 := fun g0 => q11_nextDraw (m := nxd m) n1 g0
  have d3 := fun g0 => q11_nextDraw (m := nxd (nxd m)) n2 g0
  obtain ⟨g1, e1, f1, S1⟩ := q11_isBarred (g := g) (p := 71) (w := nxd m % nw) (pl := nxd (nxd m) % 4) (l := nxd (nxd (nxd m)) % 3 + 1) (Or.inr (by decide)) (by omega) b2 (by omega) hP hq hr hV
  generalize nxd (nxd (nxd m)) = y3 at *
  generalize nxd (nxd m) = y2 at *
  generalize nxd m = y1 at *
  by_cases hb : brd q ρ (y1 % nw) (y2 % 4) (y3 % 3 + 1) = true
  · refine ⟨g1, ?_, f1.Fc, ?_⟩
    · rw [pb_t hb] at e1
      unfold fX11_winterTalk
      simp (disch := first | omega | assumption | decide) only [↓pv_let, ↓pv_jn, ↓reduceIte, pv_bd, ↓pv_ocs, ↓pv_ocn, pv_gdt, pe_gd, pe_clamp, pt_eq, pf_eq, pt_le, pf_le, pt_lt, pf_lt, nI_add, nn_mul, pe_sub, pb_0, pb_1, pb_z, pe_ieq, pe_ine, pe_ik, pP_si, pS_si, pn_si, ps_si, pL_si, decide_true, ofNat_nI, pe_srI, pe_srN, pe_srS, pe_srP, not_true_eq_false, not_false_eq_true, true_and, and_true, and_self, false_and, and_false, nI_m1, nI_ms, Nat.add_sub_cancel, pl_0, pl_1, pl_2, pl_3, pl_4, pl_5, pl_6, pl_7, pl_8, pl_9, pl_10, pl_11, pl_12, pl_13, pl_14, pl_15, pl_16, pl_17, pl_18, pl_19, pl_20, pl_21, pl_22, pl_23, pl_24, pl_25, pl_26, pl_27, pl_28, pl_29, pl_30, pl_31, pl_32, pl_34, pl_36, pl_37, pl_40, pl_41, pl_42, pl_43, pl_45, pl_47, pl_48, pl_50, pl_57, pl_59, pl_60, pl_61, pl_62, pl_64, pl_70, pl_91, pl_93, pl_97, pl_98, pl_99, pl_100, pl_106, pl_122, pl_128, pl_136, pl_142, pl_165, pl_168, pl_170, pl_171, pl_173, pl_175, pl_187, pl_188, pl_189, pl_190, pl_206, pl_211, pl_219, pl_229, pl_255, pl_260, pl_400, pl_500, pl_512, pl_900, pl_999, pl_1000, pl_1001, pl_1005, pl_1020, pl_1023, pl_1024, pl_1103, pl_2000, pl_2040, pl_2176, pl_5660, pl_9999, pl_12345, pl_1000000, pl_1000003, pl_100000000, pl_1000000000, pz_0, pz_1, pz_t, ec, emx, d1, d2, d3, gdF, prem, e1]
    · rw [if_pos hb, (show okP 71 from Or.inr (by decide)).fa f1]; exact hr
  · rw [pb_f hb] at e1
    obtain ⟨g2, e2, r2, f2⟩ := q11_utter (g := g1) (p := 71) (i := 0) (w := y1 % nw) (pl := y2 % 4) (l := y3 % 3 + 1) (Or.inr (by decide)) (by decide) (by omega) b2 (by omega) (hP.eq f1.1) (hq.fc f1) (((show okP 71 from Or.inr (by decide)).fa f1).trans hr) hV
    refine ⟨g2, ?_, f1.Fc.tr f2, by rw [if_neg hb]; exact r2⟩
    unfold fX11_winterTalk
    simp (disch := first | omega | assumption | decide) only [↓pv_let, ↓pv_jn, ↓reduceIte, pv_bd, ↓pv_ocs, ↓pv_ocn, pv_gdt, pe_gd, pe_clamp, pt_eq, pf_eq, pt_le, pf_le, pt_lt, pf_lt, nI_add, nn_mul, pe_sub, pb_0, pb_1, pb_z, pe_ieq, pe_ine, pe_ik, pP_si, pS_si, pn_si, ps_si, pL_si, decide_true, ofNat_nI, pe_srI, pe_srN, pe_srS, pe_srP, not_true_eq_false, not_false_eq_true, true_and, and_true, and_self, false_and, and_false, nI_m1, nI_ms, Nat.add_sub_cancel, pl_0, pl_1, pl_2, pl_3, pl_4, pl_5, pl_6, pl_7, pl_8, pl_9, pl_10, pl_11, pl_12, pl_13, pl_14, pl_15, pl_16, pl_17, pl_18, pl_19, pl_20, pl_21, pl_22, pl_23, pl_24, pl_25, pl_26, pl_27, pl_28, pl_29, pl_30, pl_31, pl_32, pl_34, pl_36, pl_37, pl_40, pl_41, pl_42, pl_43, pl_45, pl_47, pl_48, pl_50, pl_57, pl_59, pl_60, pl_61, pl_62, pl_64, pl_70, pl_91, pl_93, pl_97, pl_98, pl_99, pl_100, pl_106, pl_122, pl_128, pl_136, pl_142, pl_165, pl_168, pl_170, pl_171, pl_173, pl_175, pl_187, pl_188, pl_189, pl_190, pl_206, pl_211, pl_219, pl_229, pl_255, pl_260, pl_400, pl_500, pl_512, pl_900, pl_999, pl_1000, pl_1001, pl_1005, pl_1020, pl_1023, pl_1024, pl_1103, pl_2000, pl_2040, pl_2176, pl_5660, pl_9999, pl_12345, pl_1000000, pl_1000003, pl_100000000, pl_1000000000, pz_0, pz_1, pz_t, ec, emx, d1, d2, d3, gdF, prem, e1, e2]
