/-! ===== what is told is done, or cannot be ===== -/
def FrU (g g' : am_G) : Prop := (∀ a k, a ≠ 21 → a ≠ 22 → ¬ (a = 6 ∧ k < 16) → ¬ (a = 5 ∧ k < 2176) → ¬ (a = 2 ∧ 6 ≤ k ∧ k < 142) → ¬ (a = 0 ∧ (k = 8 ∨ k = 34 ∨ k = 38 ∨ k = 56 ∨ k = 57 ∨ k = 60)) → am_I g' a k = am_I g a k) ∧ (∀ a, a ≠ 0 → a ≠ 18 → a ≠ 19 → a ≠ 20 → am_L g' a = am_L g a) ∧ g'.2.2 = g.2.2
theorem FrU.rf (g : am_G) : FrU g g := ⟨fun _ _ _ _ _ _ _ _ => rfl, fun _ _ _ _ _ => rfl, rfl⟩
theorem FrU.tr {g h i : am_G} (h1 : FrU g h) (h2 : FrU h i) : FrU g i := ⟨fun a k x1 x2 x3 x4 x5 x6 => (h2.1 a k x1 x2 x3 x4 x5 x6).trans (h1.1 a k x1 x2 x3 x4 x5 x6), fun a x y z w => (h2.2.1 a x y z w).trans (h1.2.1 a x y z w), h2.2.2.trans h1.2.2⟩
theorem FrJ.U {g h : am_G} (h1 : FrJ g h) (h20 : am_I h 0 20 = am_I g 0 20) : FrU g h := ⟨fun a k _ _ _ _ _ x => by
    by_cases e : a = 0 ∧ k = 20
    · rw [e.1, e.2]; exact h20
    · exact h1.1 a k (by omega), fun a x y z w => funext fun k => h1.2.1 a k z w (by omega), h1.2.2⟩
theorem FrJ.T {g h : am_G} (h1 : FrJ g h) (h20 : am_I h 0 20 = am_I g 0 20) : FrT g h := ⟨fun a k x => by
    by_cases e : a = 0 ∧ k = 20
    · rw [e.1, e.2]; exact h20
    · exact h1.1 a k (fun z => x (by unfold scR sc0; omega)), fun a x y z w => funext fun k => h1.2.1 a k z w (by omega), h1.2.2⟩
theorem FrW.U {g h : am_G} (h1 : FrW g h) : FrU g h := ⟨fun a k x1 x2 _ _ x5 x6 => h1.1 a k x1 x2 (by omega) (fun z => x5 ⟨z.1, by unfold pkj at z; omega⟩), fun a x y z w => funext fun k => h1.2.1 a k w y (by omega), h1.2.2⟩
theorem FrU.si {g h : am_G} (h1 : FrU g h) {k : Nat} (hk : k = 8 ∨ k = 34 ∨ k = 38 ∨ k = 56 ∨ k = 57 ∨ k = 60) (x : Int32) : FrU g (am_si h 0 k x) := ⟨fun b j x1 x2 x3 x4 x5 x6 => by rw [pI_si, if_neg (fun q => x6 ⟨q.1, by omega⟩)]; exact h1.1 b j x1 x2 x3 x4 x5 x6, h1.2.1, h1.2.2⟩
theorem rem5 {g g' : am_G} {k kd : Nat} (hk : k ≤ 16) (ek : am_I g 0 8 = nI k) (h : fX12_remember (nI kd) g = some ((), g')) : (∀ j, 2176 ≤ j → am_I g' 5 j = am_I g 5 j) ∧ ∀ j, 16 ≤ j → am_I g' 6 j = am_I g 6 j := by
  by_cases h16 : k = 16
  · subst h16
    have h15 : nI 16 - nI 1 = nI 15 := by decide
    have run : fX12_remember (nI kd) g = some ((), am_si (am_si (am_sr (am_si (am_sr (am_sr g 5 (fun j => if 0 ≤ j ∧ j < 2040 then am_I g 5 (j + 136) else am_I g 5 j)) 6 (fun j => if 0 ≤ j ∧ j < 15 then am_I g 6 (j + 1) else am_I g 6 j)) 0 8 (nI 15)) 5 (fun j => if 2040 ≤ j ∧ j < 2176 then am_I g 2 (6 + (j - 2040)) else (if 0 ≤ j ∧ j < 2040 then am_I g 5 (j + 136) else am_I g 5 j))) 6 15 (nI kd)) 0 8 (nI 16)) := by
      unfold fX12_remember
      have r1 := fun kk => remL1 (kk := kk) (a1 := nI kd) 2040 0 am_fu g rfl (by decide)
      have r2 := fun kk => remL2 (kk := kk) (a1 := nI kd) 15 0 am_fu (am_sr g 5 (fun j => if 0 ≤ j ∧ j < 2040 then am_I g 5 (j + 136) else am_I g 5 j)) rfl (by decide)
      simp (disch := first | omega | assumption | decide) only [↓pv_let, ↓pv_jn, ↓reduceIte, pv_bd, ↓pv_ocs, ↓pv_ocn, pv_gdt, pe_gd, pe_clamp, pt_eq, pf_eq, pt_le, pf_le, pt_lt, pf_lt, nI_add, nn_mul, pe_sub, pb_0, pb_1, pb_z, pe_ieq, pe_ine, pe_ik, pP_si, pS_si, pn_si, ps_si, pL_si, decide_true, ofNat_nI, pe_srI, pe_srN, pe_srS, pe_srP, not_true_eq_false, not_false_eq_true, true_and, and_true, and_self, false_and, and_false, nI_m1, nI_ms, Nat.add_sub_cancel, pl_0, pl_1, pl_2, pl_3, pl_4, pl_5, pl_6, pl_7, pl_8, pl_9, pl_10, pl_11, pl_12, pl_13, pl_14, pl_15, pl_16, pl_17, pl_18, pl_19, pl_20, pl_21, pl_22, pl_23, pl_24, pl_25, pl_26, pl_27, pl_28, pl_29, pl_30, pl_31, pl_32, pl_34, pl_36, pl_37, pl_40, pl_41, pl_42, pl_43, pl_45, pl_47, pl_48, pl_50, pl_57, pl_59, pl_60, pl_61, pl_62, pl_64, pl_70, pl_91, pl_93, pl_97, pl_98, pl_99, pl_100, pl_106, pl_122, pl_128, pl_136, pl_142, pl_165, pl_168, pl_170, pl_171, pl_173, pl_175, pl_187, pl_188, pl_189, pl_190, pl_206, pl_211, pl_219, pl_229, pl_255, pl_260, pl_400, pl_500, pl_512, pl_900, pl_999, pl_1000, pl_1001, pl_1005, pl_1020, pl_1023, pl_1024, pl_1103, pl_2000, pl_2040, pl_2176, pl_5660, pl_9999, pl_12345, pl_1000000, pl_1000003, pl_100000000, pl_1000000000, pz_0, pz_1, pz_t, ek, r1, r2, h15, q12_keepAll]
    rw [run] at h
    have e := congrArg (fun z => z.2) (Option.some.inj h)
    dsimp only at e
    refine ⟨fun j hj => ?_, fun j hj => ?_⟩
    · rw [← e, pI_si_ne _ _ _ (by decide), pI_si_ne _ _ _ (by decide), pI_sr_row, if_neg (by omega), if_neg (by omega)]
    · rw [← e, pI_si_ne _ _ _ (by decide), pI_si, if_neg (by omega), pI_sr_ne _ _ (by decide), pI_si_ne _ _ _ (by decide), pI_sr_row, if_neg (by omega)]
  · have hne : (nI k = nI 16) = False := eq_false (fun z => h16 ((nn_eq (by omega) (by decide)).mp z))
    have run : fX12_remember (nI kd) g = some ((), am_si (am_si (am_sr g 5 (fun j => if 136 * k ≤ j ∧ j < 136 * k + 136 then am_I g 2 (6 + (j - 136 * k)) else am_I g 5 j)) 6 k (nI kd)) 0 8 (nI (k + 1))) := by
      have hk' : k < 16 := by omega
      unfold fX12_remember
      simp (disch := first | omega | assumption | decide) only [↓pv_let, ↓pv_jn, ↓reduceIte, pv_bd, ↓pv_ocs, ↓pv_ocn, pv_gdt, pe_gd, pe_clamp, pt_eq, pf_eq, pt_le, pf_le, pt_lt, pf_lt, nI_add, nn_mul, pe_sub, pb_0, pb_1, pb_z, pe_ieq, pe_ine, pe_ik, pP_si, pS_si, pn_si, ps_si, pL_si, decide_true, ofNat_nI, pe_srI, pe_srN, pe_srS, pe_srP, not_true_eq_false, not_false_eq_true, true_and, and_true, and_self, false_and, and_false, nI_m1, nI_ms, Nat.add_sub_cancel, pl_0, pl_1, pl_2, pl_3, pl_4, pl_5, pl_6, pl_7, pl_8, pl_9, pl_10, pl_11, pl_12, pl_13, pl_14, pl_15, pl_16, pl_17, pl_18, pl_19, pl_20, pl_21, pl_22, pl_23, pl_24, pl_25, pl_26, pl_27, pl_28, pl_29, pl_30, pl_31, pl_32, pl_34, pl_36, pl_37, pl_40, pl_41, pl_42, pl_43, pl_45, pl_47, pl_48, pl_50, pl_57, pl_59, pl_60, pl_61, pl_62, pl_64, pl_70, pl_91, pl_93, pl_97, pl_98, pl_99, pl_100, pl_106, pl_122, pl_128, pl_136, pl_142, pl_165, pl_168, pl_170, pl_171, pl_173, pl_175, pl_187, pl_188, pl_189, pl_190, pl_206, pl_211, pl_219, pl_229, pl_255, pl_260, pl_400, pl_500, pl_512, pl_900, pl_999, pl_1000, pl_1001, pl_1005, pl_1020, pl_1023, pl_1024, pl_1103, pl_2000, pl_2040, pl_2176, pl_5660, pl_9999, pl_12345, pl_1000000, pl_1000003, pl_100000000, pl_1000000000, pz_0, pz_1, pz_t, ek, hne, q12_keepAll]
    rw [run] at h
    have e := congrArg (fun z => z.2) (Option.some.inj h)
    dsimp only at e
    refine ⟨fun j hj => ?_, fun j hj => ?_⟩
    · rw [← e, pI_si_ne _ _ _ (by decide), pI_si_ne _ _ _ (by decide), pI_sr_row, if_neg (by omega)]
    · rw [← e, pI_si_ne _ _ _ (by decide), pI_si, if_neg (by omega), pI_sr_ne _ _ (by decide)]
/-- remembering, the reference alone -/
theorem rem_U {g : am_G} {k kd : Nat} (hk : k ≤ 16) (ek : am_I g 0 8 = nI k) : ∃ g', fX12_remember (nI kd) g = some ((), g') ∧ FrU g g' ∧ am_I g' 0 8 = nI (min 16 (k + 1)) ∧ am_I g' 2 = am_I g 2 := by
  obtain ⟨g', e1, e2, e3, e4, -, -⟩ := q12_remember (kd := kd) hk ek
  have r5 := rem5 hk ek e1
  refine ⟨g', e1, ⟨fun a j x1 x2 x3 x4 x5 x6 => ?_, fun a _ _ _ _ => by rw [show am_L g' = am_L g from congrArg (fun z => z.1) e2], congrArg (fun z => z.2) e2⟩, e4, funext fun j => e3 2 (by decide) (by decide) j (by omega)⟩
  by_cases h5 : a = 5
  · subst h5
    exact r5.1 j (by omega)
  · by_cases h6 : a = 6
    · subst h6
      exact r5.2 j (by omega)
    · exact e3 a h5 h6 j (by omega)
theorem bd_eta {R : Option (Int32 × am_G)} : am_bd R (fun v g => some (v, g)) = R := by
  cases R with
  | none => rfl
  | some q => rfl
theorem bd_etaU {R : Option (Unit × am_G)} {f : am_G → Option (Int32 × am_G)} : am_bd R (fun _ g => am_bd (f g) (fun v g => some (v, g))) = am_bd R (fun _ g => f g) := by
  cases R with
  | none => rfl
  | some q => rw [pu_bd, pu_bd, bd_eta]
/-- a saying that is told -/
theorem actS {p nW : Nat} {q : Option pLw} {gc gr : am_G} (hp : okP p) (hP : PkS gc p) (hr : vr gc 1 p = rr gr) (hV : okV (rr gr)) (hq : LawC gc q) (hq' : LawR (am_I gr 2) q) (h20 : am_I gr 0 20 = nI 0) (hn : nW ≤ 16) (e1 : am_I gr 2 0 = nI nW) (e2 : am_I gc 12 4 = nI nW) (a3 V0 V1 V2 : Int32) : (∃ gc' gr' v, TOs p a3 V0 V1 V2 gc = some (-3, gc') ∧ fX12_sayNow 0 V0 V1 V2 gr = some (-nI v, gr') ∧ 1 ≤ v ∧ v ≤ 3 ∧ FcA gc gc' ∧ FrS gr gr') ∨ (∃ w pl l gc' gr', w < 16 ∧ pl < 4 ∧ l ≤ 3 ∧ ¬ (V0 = pBR ∨ V1 = pBR ∨ V2 = pBR) ∧ FcA gc gc' ∧ KN gc gc' ∧ FrS gr gr' ∧ TOs p a3 V0 V1 V2 gc = (if a3 = 0 then fX11_utter p (nI 0) (nI w) (nI pl) (nI l) gc' else am_bd (fX8_keep p (nI 0) gc') fun _ g => fX11_utter p (nI 0) (nI w) (nI pl) (nI l) g) ∧ (∀ gr1 gr2 m, fX12_remember (nI 0) gr' = some ((), gr1) → fX12_sayIt (nI 0) (nI w) (nI pl) (nI l) gr1 = some (nI m, gr2) → fX12_sayNow 0 V0 V1 V2 gr = some (nI m, gr2))) := by
  have h1 : nI 0 ≤ (0 : Int32) ∧ (0 : Int32) ≤ nI 5 := by decide
  unfold TOs
  rw [q11_isPlace, pu_bd]
  by_cases h2 : nI 0 ≤ V1 ∧ V1 ≤ nI 3
  · rw [pb_t h2, if_neg (show ¬ nI 1 = (0 : Int32) by decide), q11_isLoud, pu_bd]
    by_cases h3 : nI 1 ≤ V2 ∧ V2 ≤ nI 3
    · rw [pb_t h3, if_neg (show ¬ nI 1 = (0 : Int32) by decide), q10_has hn _ e2, pu_bd]
      by_cases hw : pW nW V0
      · rw [pb_t hw, if_neg (show ¬ nI 1 = (0 : Int32) by decide)]
        obtain ⟨w, hw', rfl⟩ := pW_of hw
        obtain ⟨pl, hpl, rfl⟩ := nn_rng (n := 3) (by decide) h2
        obtain ⟨l, hl1, hl2, rfl⟩ := loud_rng h3
        obtain ⟨g1, b1, f1, S1⟩ := q11_isBarred (p := p) (ρ := rr gr) hp (show w < 16 by omega) (show pl < 4 by omega) hl2 hP hq hr hV
        obtain ⟨k1, b2, f2⟩ := q12_isBarred (g := gr) (w := w) (p := pl) (l := l) hq' h20 (show w < 16 by omega)
        rw [brd_cg (ag_rr rfl) pl l (by omega)] at b2
        rw [b1, pu_bd]
        by_cases hb : brd q (rr gr) w pl l = true
        · rw [pb_t hb] at b2
          rw [pb_t hb, if_neg (show ¬ nI 1 = (0 : Int32) by decide)]
          exact Or.inl ⟨g1, k1, 3, rfl, sayNow3 hn e1 h1 h2 h3 hw b2, by decide, by decide, f1, f2⟩
        · rw [pb_f hb] at b2
          rw [pb_f hb, if_pos (show nI 0 = (0 : Int32) from rfl)]
          refine Or.inr ⟨w, pl, l, g1, k1, by omega, by omega, hl2, ?_, f1, k_11_isBarred ⟨hp, hP⟩ _ _ b1, f2, ?_, fun gr1 gr2 m r1 r2 => sayNow4 hn e1 h1 h2 h3 hw b2 r1 r2⟩
          · rintro (z | z | z)
            · exact pBd_ne (pBd_n (by omega) rfl) z
            · exact pBd_ne (pBd_n (by omega) rfl) z
            · exact pBd_ne (pBd_n (by omega) rfl) z
          · rw [bd_eta, bd_etaU]
            rfl
      · rw [pb_f hw, if_pos (show nI 0 = (0 : Int32) from rfl)]
        exact Or.inl ⟨gc, gr, 2, rfl, sayNow2 hn e1 h1 h2 h3 hw, by decide, by decide, FcA.rf gc, FrS.rf gr⟩
    · rw [pb_f h3, if_pos (show nI 0 = (0 : Int32) from rfl)]
      exact Or.inl ⟨gc, gr, 1, rfl, sayNow1 (fun z => h3 z.2.2), by decide, by decide, FcA.rf gc, FrS.rf gr⟩
  · rw [pb_f h2, if_pos (show nI 0 = (0 : Int32) from rfl)]
    exact Or.inl ⟨gc, gr, 1, rfl, sayNow1 (fun z => h2 z.2.1), by decide, by decide, FcA.rf gc, FrS.rf gr⟩
