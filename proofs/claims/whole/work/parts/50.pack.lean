/-! ===== saying and dawn in the class, on any pack ===== -/
def PkS (g : am_G) (p : Nat) : Prop := am_S g p = (2, 8) ∧ am_P g p 0 = some (p + 1) ∧ am_P g p 1 = some (p + 2) ∧ am_P g p 2 = some (p + 3) ∧ am_P g p 3 = some (p + 4) ∧ am_P g p 4 = some (p + 5) ∧ am_S g (p + 1) = (20, 6) ∧ am_S g (p + 2) = (20, 6) ∧ am_S g (p + 3) = (20, 36) ∧ am_S g (p + 4) = (20, 36) ∧ am_S g (p + 5) = (20, 6)
theorem PkS.eq {g g' : am_G} {p : Nat} (h : PkS g p) (e : g'.2 = g.2) : PkS g' p := by
  have e1 : am_P g' = am_P g := congrArg (fun x => x.2.1) e
  have e2 : am_S g' = am_S g := congrArg (fun x => x.2.2.1) e
  unfold PkS
  rw [e1, e2]
  exact h
def Fc (p : Nat) (g g' : am_G) : Prop := g'.2 = g.2 ∧ ∀ a, ¬ (p ≤ a ∧ a ≤ p + 5) → a ≠ 37 → a ≠ 38 → am_I g' a = am_I g a
theorem Fc.rf (p : Nat) (g : am_G) : Fc p g g := ⟨rfl, fun _ _ _ _ => rfl⟩
theorem Fc.tr {p : Nat} {g h i : am_G} (h1 : Fc p g h) (h2 : Fc p h i) : Fc p g i := ⟨h2.1.trans h1.1, fun a x y z => (h2.2 a x y z).trans (h1.2 a x y z)⟩
theorem Fc.si {p : Nat} {g h : am_G} (h1 : Fc p g h) {a : Nat} (ha : p ≤ a ∧ a ≤ p + 5) (k : Nat) (x : Int32) : Fc p g (am_si h a k x) := ⟨h1.1, fun b y z w => by rw [pI_si_ne _ _ _ (show b ≠ a by omega)]; exact h1.2 b y z w⟩
theorem Fc.sr {p : Nat} {g h : am_G} (h1 : Fc p g h) {a : Nat} (ha : p ≤ a ∧ a ≤ p + 5) (f : Nat → Int32) : Fc p g (am_sr h a f) := ⟨h1.1, fun b y z w => by rw [pI_sr_ne _ _ (show b ≠ a by omega)]; exact h1.2 b y z w⟩
theorem FcA.Fc {p : Nat} {g h : am_G} (h1 : FcA g h) : Fc p g h := ⟨h1.1, fun a _ y z => h1.2 a y z⟩
def okP (p : Nat) : Prop := p = 2 ∨ (39 ≤ p ∧ p + 5 < 79)
theorem okP.vp {p : Nat} (h : okP p) : VP 1 p := by unfold VP; unfold okP at h; omega
theorem okP.fa {p : Nat} (h : okP p) {g g' : am_G} (hf : FcA g g') : vr g' 1 p = vr g 1 p := vr_cg fun a ha => hf.2 a (by unfold okP at h; omega) (by unfold okP at h; omega)
theorem TxtC.gen {g h : am_G} {p : Nat} {L : pLw} (hT : TxtC g p L) (h1 : h.2 = g.2) (h2 : ∀ a, 79 ≤ a → am_I h a = am_I g a) : TxtC h p L := by
  have eP : am_P h = am_P g := congrArg (fun x => x.2.1) h1
  have eS : am_S h = am_S g := congrArg (fun x => x.2.2.1) h1
  obtain ⟨t1, t2, t3, t4, pr, ps, ns, t5, t6, t7, t8, t9, t10, t11⟩ := hT
  refine ⟨by rw [eS]; exact t1, t2, by rw [h2 p t4]; exact t3, t4, pr, ps, ns, by rw [eP]; exact t5, by rw [eP]; exact t6, t7, t8, by rw [eS]; exact t9, by rw [eS]; exact t10, ?_⟩
  rw [h2 pr t7, h2 ps t8]
  exact t11
theorem LawC.gen {g h : am_G} {q : Option pLw} (hq : LawC g q) (h1 : h.2 = g.2) (h0 : am_I h 1 = am_I g 1) (h2 : ∀ a, 79 ≤ a → am_I h a = am_I g a) : LawC h q := by
  have eP : am_P h = am_P g := congrArg (fun x => x.2.1) h1
  rcases hq with ⟨a, rfl⟩ | ⟨f, L, p, a, b, c, d, rfl⟩
  · exact Or.inl ⟨by rw [h0]; exact a, rfl⟩
  · exact Or.inr ⟨f, L, p, a, by rw [h0]; exact b, by rw [eP]; exact c, d.gen h1 h2, rfl⟩
theorem LawC.fcp {g h : am_G} {q : Option pLw} {p : Nat} (hq : LawC g q) (hp : okP p) (h1 : Fc p g h) : LawC h q := by
  unfold okP at hp
  exact hq.gen h1.1 (h1.2 1 (by omega) (by decide) (by decide)) (fun a ha => h1.2 a (by omega) (by omega) (by omega))
/-! reading and writing a pack's places -/
theorem w_sn {g : am_G} {p s : Nat} (hp : VP 1 p) (hs : s < 6) (x : Int32) : vr (am_si g (p + 1) s x) 1 p = am_up (vr g 1 p) (10 + 10 * s + 0) x := vr_tu hp (by omega) (vT_s s hs).1 x
theorem w_st {g : am_G} {p s : Nat} (hp : VP 1 p) (hs : s < 6) (x : Int32) : vr (am_si g (p + 2) s x) 1 p = am_up (vr g 1 p) (10 + 10 * s + 8) x := vr_tu hp (by omega) (vT_s s hs).2.2.2.2.1 x
theorem w_sl {g : am_G} {p s : Nat} (hp : VP 1 p) (hs : s < 6) (x : Int32) : vr (am_si g (p + 5) s x) 1 p = am_up (vr g 1 p) (10 + 10 * s + 9) x := vr_tu hp (by omega) (vT_s s hs).2.2.2.2.2 x
theorem w_pa {g : am_G} {p s i : Nat} (hp : VP 1 p) (hs : s < 6) (hi : i < 6) (x : Int32) : vr (am_si g (p + 3) (s * 6 + i) x) 1 p = am_up (vr g 1 p) (70 + 6 * s + i) x := vr_tu hp (by omega) (vT_p s hs i hi).1 x
theorem w_la {g : am_G} {p s i : Nat} (hp : VP 1 p) (hs : s < 6) (hi : i < 6) (x : Int32) : vr (am_si g (p + 4) (s * 6 + i) x) 1 p = am_up (vr g 1 p) (106 + 6 * s + i) x := vr_tu hp (by omega) (vT_p s hs i hi).2 x
theorem w_da {g : am_G} {p : Nat} (hp : VP 1 p) (x : Int32) : vr (am_si g p 5 x) 1 p = am_up (vr g 1 p) 6 x := vr_tu (b := 0) hp (by omega) rfl x
theorem w_ha {g : am_G} {p : Nat} (hp : VP 1 p) (x : Int32) : vr (am_si g p 6 x) 1 p = am_up (vr g 1 p) 8 x := vr_tu (b := 0) hp (by omega) rfl x
theorem w_do {g : am_G} {p : Nat} (hp : VP 1 p) (x : Int32) : vr (am_si g p 7 x) 1 p = am_up (vr g 1 p) 9 x := vr_tu (b := 0) hp (by omega) rfl x
theorem r_sn {g : am_G} {p s : Nat} (hs : s < 6) : am_I g (p + 1) s = vr g 1 p (10 + 10 * s + 0) := vr_t (by omega) (vT_s s hs).1
theorem r_st {g : am_G} {p s : Nat} (hs : s < 6) : am_I g (p + 2) s = vr g 1 p (10 + 10 * s + 8) := vr_t (by omega) (vT_s s hs).2.2.2.2.1
theorem r_sl {g : am_G} {p s : Nat} (hs : s < 6) : am_I g (p + 5) s = vr g 1 p (10 + 10 * s + 9) := vr_t (by omega) (vT_s s hs).2.2.2.2.2
theorem r_pa {g : am_G} {p s i : Nat} (hs : s < 6) (hi : i < 6) : am_I g (p + 3) (s * 6 + i) = vr g 1 p (70 + 6 * s + i) := vr_t (by omega) (vT_p s hs i hi).1
theorem r_la {g : am_G} {p s i : Nat} (hs : s < 6) (hi : i < 6) : am_I g (p + 4) (s * 6 + i) = vr g 1 p (106 + 6 * s + i) := vr_t (by omega) (vT_p s hs i hi).2
theorem r_da {g : am_G} {p : Nat} : am_I g p 5 = vr g 1 p 6 := vr_t (b := 0) (by omega) rfl
theorem r_ha {g : am_G} {p : Nat} : am_I g p 6 = vr g 1 p 8 := vr_t (b := 0) (by omega) rfl
theorem r_do {g : am_G} {p : Nat} : am_I g p 7 = vr g 1 p 9 := vr_t (b := 0) (by omega) rfl
theorem r_ho {g : am_G} {p s : Nat} (hs : s < 6) : am_I g 8 s = vr g 1 p (10 + 10 * s + 1) := vr_f (v := 1) (by omega) (vT_s s hs).2.1
theorem r_be {g : am_G} {p s : Nat} (hs : s < 6) : am_I g 9 s = vr g 1 p (10 + 10 * s + 2) := vr_f (v := 1) (by omega) (vT_s s hs).2.2.1
theorem r_go {g : am_G} {p s : Nat} (hs : s < 6) : am_I g 10 s = vr g 1 p (10 + 10 * s + 3) := vr_f (v := 1) (by omega) (vT_s s hs).2.2.2.1
theorem r_fa {g : am_G} {p s pl : Nat} (hs : s < 6) (hl : pl < 4) : am_I g 11 (s * 4 + pl) = vr g 1 p (10 + 10 * s + (4 + pl)) := vr_f (v := 1) (by omega) (vT_f s hs pl hl)
theorem r_wd {g : am_G} {p w c : Nat} (hw : w < 16) (hc : c < 4) : am_I g (13 + c) w = vr g 1 p (142 + 4 * w + c) := by
  have := vr_f (g := g) (v := 1) (p := p) (by omega) (vT_w w hw c hc)
  rw [← this]
  congr 1
  omega
theorem r_mo {g : am_G} {p : Nat} : am_I g 1 19 = vr g 1 p 7 := vr_f (v := 1) (b := 0) (by omega) rfl
/-! press -/
theorem q2_press {g : am_G} {p s i : Nat} (hP : PkS g p) (hs : s < 6) (hi : i < 6) (x : Int32) : fX2_press p (nI s) (nI i) x g = some ((), am_si (am_si g (p + 2) s (am_I g (p + 2) s + x)) (p + 3) (s * 6 + i) (am_I g (p + 3) (s * 6 + i) + x)) := by
  obtain ⟨h0, h1, h2, h3, h4, h5, s1, s2, s3, s4, s5⟩ := hP
  unfold fX2_press
  simp (disch := first | omega | assumption | decide) only [↓pv_let, ↓pv_jn, ↓reduceIte, pv_bd, ↓pv_ocs, ↓pv_ocn, pv_gdt, pe_gd, pe_clamp, pt_eq, pf_eq, pt_le, pf_le, pt_lt, pf_lt, nI_add, nn_mul, pe_sub, pb_0, pb_1, pb_z, pe_ieq, pe_ine, pe_ik, pP_si, pS_si, pn_si, ps_si, pL_si, decide_true, ofNat_nI, pe_srI, pe_srN, pe_srS, pe_srP, not_true_eq_false, not_false_eq_true, true_and, and_true, and_self, false_and, and_false, nI_m1, nI_ms, Nat.add_sub_cancel, pl_0, pl_1, pl_2, pl_3, pl_4, pl_5, pl_6, pl_7, pl_8, pl_9, pl_10, pl_11, pl_12, pl_13, pl_14, pl_15, pl_16, pl_17, pl_18, pl_19, pl_20, pl_21, pl_22, pl_23, pl_24, pl_25, pl_26, pl_27, pl_28, pl_29, pl_30, pl_31, pl_32, pl_34, pl_36, pl_37, pl_40, pl_41, pl_42, pl_43, pl_45, pl_47, pl_48, pl_50, pl_57, pl_59, pl_60, pl_61, pl_62, pl_64, pl_70, pl_91, pl_93, pl_97, pl_98, pl_99, pl_100, pl_106, pl_122, pl_128, pl_136, pl_142, pl_165, pl_168, pl_170, pl_171, pl_173, pl_175, pl_187, pl_188, pl_189, pl_190, pl_206, pl_211, pl_219, pl_229, pl_255, pl_260, pl_400, pl_500, pl_512, pl_900, pl_999, pl_1000, pl_1001, pl_1005, pl_1020, pl_1023, pl_1024, pl_1103, pl_2000, pl_2040, pl_2176, pl_5660, pl_9999, pl_12345, pl_1000000, pl_1000003, pl_100000000, pl_1000000000, pz_0, pz_1, pz_t, h0, h2, h3, s2, s3]
/-! slides -/
theorem mvp_ag {ρ : Row} {s : Nat} (hs : s < 6) : ∀ n, n ≤ 6 → agV (mvp ρ s n) ρ
  | 0, _ => agV.rf ρ
  | n + 1, hn => ((mvp_ag hs n (by omega)).up (by unfold stp; omega) _).up (by unfold stp; omega) _
theorem slideL {p s : Nat} (hp : VP 1 p) (hs : s < 6) (ρ : Row) : ∀ (d i n : Nat) (g : am_G), i + d = 6 → d < n → PkS g p → vr g 1 p = mvp ρ s i → ∃ g', fX2_slideOne_L115 p (nI s) n (nI (s * 6 + i)) g = some ((), g') ∧ vr g' 1 p = mvp ρ s 6 ∧ Fc p g g'
  | 0, i, n, g, hd, hn, hP, hr => by
    obtain ⟨n, rfl⟩ : ∃ n', n = n' + 1 := ⟨n - 1, by omega⟩
    obtain rfl : i = 6 := by omega
    refine ⟨g, ?_, hr, Fc.rf p g⟩
    rw [fX2_slideOne_L115]
    simp (disch := first | omega | assumption | decide) only [↓pv_let, ↓pv_jn, ↓reduceIte, pv_bd, ↓pv_ocs, ↓pv_ocn, pv_gdt, pe_gd, pe_clamp, pt_eq, pf_eq, pt_le, pf_le, pt_lt, pf_lt, nI_add, nn_mul, pe_sub, pb_0, pb_1, pb_z, pe_ieq, pe_ine, pe_ik, pP_si, pS_si, pn_si, ps_si, pL_si, decide_true, ofNat_nI, pe_srI, pe_srN, pe_srS, pe_srP, not_true_eq_false, not_false_eq_true, true_and, and_true, and_self, false_and, and_false, nI_m1, nI_ms, Nat.add_sub_cancel, pl_0, pl_1, pl_2, pl_3, pl_4, pl_5, pl_6, pl_7, pl_8, pl_9, pl_10, pl_11, pl_12, pl_13, pl_14, pl_15, pl_16, pl_17, pl_18, pl_19, pl_20, pl_21, pl_22, pl_23, pl_24, pl_25, pl_26, pl_27, pl_28, pl_29, pl_30, pl_31, pl_32, pl_34, pl_36, pl_37, pl_40, pl_41, pl_42, pl_43, pl_45, pl_47, pl_48, pl_50, pl_57, pl_59, pl_60, pl_61, pl_62, pl_64, pl_70, pl_91, pl_93, pl_97, pl_98, pl_99, pl_100, pl_106, pl_122, pl_128, pl_136, pl_142, pl_165, pl_168, pl_170, pl_171, pl_173, pl_175, pl_187, pl_188, pl_189, pl_190, pl_206, pl_211, pl_219, pl_229, pl_255, pl_260, pl_400, pl_500, pl_512, pl_900, pl_999, pl_1000, pl_1001, pl_1005, pl_1020, pl_1023, pl_1024, pl_1103, pl_2000, pl_2040, pl_2176, pl_5660, pl_9999, pl_12345, pl_1000000, pl_1000003, pl_100000000, pl_1000000000, pz_0, pz_1, pz_t]
  | d + 1, i, n, g, hd, hn, hP, hr => by
    obtain ⟨n, rfl⟩ : ∃ n', n = n' + 1 := ⟨n - 1, by omega⟩
    obtain ⟨h0, h1, h2, h3, h4, h5, s1, s2, s3, s4, s5⟩ := hP
    obtain ⟨g', e, r', f'⟩ := slideL hp hs ρ d (i + 1) n (am_si (am_si g (p + 4) (s * 6 + i) (am_I g (p + 3) (s * 6 + i))) (p + 3) (s * 6 + i) (nI 0)) (by omega) (by omega) ⟨h0, h1, h2, h3, h4, h5, s1, s2, s3, s4, s5⟩ (by
      rw [w_pa hp hs (by omega), w_la hp hs (by omega), r_pa hs (by omega), hr]
      rfl)
    refine ⟨g', ?_, r', (((Fc.rf p g).si (by omega) _ _).si (by omega) _ _).tr f'⟩
    rw [← e, fX2_slideOne_L115]
    simp (disch := first | omega | assumption | decide) only [↓pv_let, ↓pv_jn, ↓reduceIte, pv_bd, ↓pv_ocs, ↓pv_ocn, pv_gdt, pe_gd, pe_clamp, pt_eq, pf_eq, pt_le, pf_le, pt_lt, pf_lt, nI_add, nn_mul, pe_sub, pb_0, pb_1, pb_z, pe_ieq, pe_ine, pe_ik, pP_si, pS_si, pn_si, ps_si, pL_si, decide_true, ofNat_nI, pe_srI, pe_srN, pe_srS, pe_srP, not_true_eq_false, not_false_eq_true, true_and, and_true, and_self, false_and, and_false, nI_m1, nI_ms, Nat.add_sub_cancel, pl_0, pl_1, pl_2, pl_3, pl_4, pl_5, pl_6, pl_7, pl_8, pl_9, pl_10, pl_11, pl_12, pl_13, pl_14, pl_15, pl_16, pl_17, pl_18, pl_19, pl_20, pl_21, pl_22, pl_23, pl_24, pl_25, pl_26, pl_27, pl_28, pl_29, pl_30, pl_31, pl_32, pl_34, pl_36, pl_37, pl_40, pl_41, pl_42, pl_43, pl_45, pl_47, pl_48, pl_50, pl_57, pl_59, pl_60, pl_61, pl_62, pl_64, pl_70, pl_91, pl_93, pl_97, pl_98, pl_99, pl_100, pl_106, pl_122, pl_128, pl_136, pl_142, pl_165, pl_168, pl_170, pl_171, pl_173, pl_175, pl_187, pl_188, pl_189, pl_190, pl_206, pl_211, pl_219, pl_229, pl_255, pl_260, pl_400, pl_500, pl_512, pl_900, pl_999, pl_1000, pl_1001, pl_1005, pl_1020, pl_1023, pl_1024, pl_1103, pl_2000, pl_2040, pl_2176, pl_5660, pl_9999, pl_12345, pl_1000000, pl_1000003, pl_100000000, pl_1000000000, pz_0, pz_1, pz_t, h0, h3, h4, s3, s4, Nat.add_assoc]
theorem okAt_free {t j : Nat} (h : j = 8 ∨ j = 9) (x : Int32) : okAt t j x := by
  refine ⟨?_, fun z => ?_⟩
  · rcases h with z | z
    · exact Or.inl z
    · exact Or.inr (Or.inl z)
  · omega
theorem okV.up {ρ : Row} (h : okV ρ) {j : Nat} {x : Int32} (hx : okAt 0 j x) : okV (am_up ρ j x) := by
  intro i hi hs
  by_cases e : i = j
  · subst e; rw [am_up_eq]; exact hx
  · rw [am_up_ne e]; exact h i hi hs
theorem okV.ups {ρ : Row} (h : okV ρ) {j : Nat} {x : Int32} (hx : stp j) : okV (am_up ρ j x) := by
  intro i hi hs
  rw [am_up_ne (show i ≠ j from fun e => hs (by rw [e]; exact hx))]
  exact h i hi hs
theorem lo_b : ∀ s, s < 6 → okLo (10 + 10 * s + 2) = -1 ∧ okHi 0 (10 + 10 * s + 2) = 5 := by decide +kernel
theorem okV.below {ρ : Row} (h : okV ρ) {s : Nat} (hs : s < 6) : ρ (10 + 10 * s + 2) = -1 ∨ ∃ b, s < b ∧ b < 6 ∧ ρ (10 + 10 * s + 2) = nI b := by
  obtain ⟨h1, h2⟩ := h (10 + 10 * s + 2) (by omega) (by unfold stp; omega)
  rcases h2 (by omega) with z | z
  · exact Or.inl z
  · right
    rcases h1 with w | w | w | w
    · omega
    · omega
    · omega
    · rw [(lo_b s hs).1, (lo_b s hs).2] at w
      have e : (10 + 10 * s + 2 - 10) / 10 = s := by omega
      rw [e] at z
      have h0 : (0 : Int32) ≤ ρ (10 + 10 * s + 2) := Int32.le_iff_toInt_le.mpr (by have : (0 : Int32).toInt = 0 := rfl; omega)
      obtain ⟨e1, e2⟩ := nn_of h0
      have e3 : (ρ (10 + 10 * s + 2)).toNatClampNeg = (ρ (10 + 10 * s + 2)).toInt.toNat := rfl
      exact ⟨_, by omega, by omega, e1⟩
theorem okAt_sn {s m : Nat} (hs : s < 6) (hm : m ≤ 9999) : okAt 0 (10 + 10 * s + 0) (nI m) := okAt_of (n := 9999) (by omega) (lo_s s hs).1 (lo_s s hs).2 hm (by decide)
theorem min9 {a b : Nat} (ha : a ≤ 9999) (hb : b ≤ 9999) : ∃ m, m ≤ 9999 ∧ am_min (nI 9999) (nI a + nI b) = nI m := by
  rw [nI_add]
  by_cases h : nI (a + b) < nI 9999
  · exact ⟨a + b, by have := (nI_ltI (by omega) (by decide)).mp h; omega, if_pos h⟩
  · exact ⟨9999, Nat.le_refl _, if_neg h⟩
theorem sldA_ok {ρ : Row} (h : okV ρ) {s : Nat} (hs : s < 6) : okV (sldA ρ s) := by
  unfold sldA
  rcases h.below hs with e | ⟨b, hb1, hb2, e⟩
  · rw [if_pos e]
    split
    · exact h.up (okAt_free (Or.inr rfl) _)
    · exact h.up (okAt_free (Or.inl rfl) _)
  · have hn1 : ¬ nI b = -1 := nI_m1ne (by omega)
    rw [e, if_neg hn1, pe_clamp (by omega)]
    obtain ⟨m1, q1, e1⟩ := h.snow hb2
    obtain ⟨m2, q2, e2⟩ := h.snow hs
    rw [e1, e2]
    obtain ⟨m, q3, e3⟩ := min9 q1 q2
    rw [e3]
    exact h.up (okAt_sn hb2 q3)
theorem sldB_ok {ρ : Row} (h : okV ρ) {s : Nat} (hs : s < 6) : okV (sldB ρ s) := by
  unfold sldB
  refine ((h.up (okAt_sn (m := 0) hs (by decide))).ups (by unfold stp; omega)).ups (by unfold stp; omega)
theorem sld1_ok {ρ : Row} (h : okV ρ) {s : Nat} (hs : s < 6) : okV (sld1 ρ s) := (sldB_ok (sldA_ok h hs) hs).cg (mvp_ag hs 6 (Nat.le_refl _))
theorem q2_slideOne {g : am_G} {p s : Nat} {ρ : Row} (hp : VP 1 p) (hs : s < 6) (hP : PkS g p) (hr : vr g 1 p = ρ) (hV : okV ρ) : ∃ g', fX2_slideOne p (nI s) g = some ((), g') ∧ vr g' 1 p = sld1 ρ s ∧ Fc p g g' := by
  have hP0 := hP
  obtain ⟨h0, h1, h2, h3, h4, h5, s1, s2, s3, s4, s5⟩ := hP
  have eb := r_be (g := g) (p := p) hs
  have eg := r_go (g := g) (p := p) hs
  have es := r_sn (g := g) (p := p) hs
  rw [hr] at eb eg es
  -- the tail, from any heap
  have tail : ∀ g7 : am_G, Fc p g g7 → vr g7 1 p = sldA ρ s → ∃ g', fX2_slideOne_L115 p (nI s) am_fu (nI (s * 6)) (am_si (am_si (am_si g7 (p + 1) s (nI 0)) (p + 2) s (nI 0)) (p + 5) s (am_I g7 (p + 5) s + nI 1)) = some ((), g') ∧ vr g' 1 p = sld1 ρ s ∧ Fc p g g' := by
    intro g7 f7 r7
    have f8 : Fc p g (am_si (am_si (am_si g7 (p + 1) s (nI 0)) (p + 2) s (nI 0)) (p + 5) s (am_I g7 (p + 5) s + nI 1)) := ((f7.si (by omega) _ _).si (by omega) _ _).si (by omega) _ _
    obtain ⟨g', e, r', f'⟩ := slideL hp hs (sldB (sldA ρ s) s) 6 0 am_fu _ rfl (by decide) (hP0.eq f8.1) (by
      rw [w_sl hp hs, w_st hp hs, w_sn hp hs, r_sl hs, r7]
      rfl)
    exact ⟨g', e, r', f8.tr f'⟩
  unfold fX2_slideOne
  rcases hV.below hs with e | ⟨b, hb1, hb2, e⟩
  · have eb' : am_I g 9 s = -1 := eb.trans e
    by_cases hg : ρ (10 + 10 * s + 3) = nI 1
    · have eg' : am_I g 10 s = nI 1 := eg.trans hg
      obtain ⟨g', e', r', f'⟩ := tail (am_si g p 7 (am_I g p 7 + am_I g (p + 1) s)) ((Fc.rf p g).si (by omega) _ _) (by
        rw [w_do hp, r_do, es, hr]
        unfold sldA
        rw [if_pos e, if_pos hg])
      refine ⟨g', ?_, r', f'⟩
      rw [← e']
      simp (disch := first | omega | assumption | decide) only [↓pv_let, ↓pv_jn, ↓reduceIte, pv_bd, ↓pv_ocs, ↓pv_ocn, pv_gdt, pe_gd, pe_clamp, pt_eq, pf_eq, pt_le, pf_le, pt_lt, pf_lt, nI_add, nn_mul, pe_sub, pb_0, pb_1, pb_z, pe_ieq, pe_ine, pe_ik, pP_si, pS_si, pn_si, ps_si, pL_si, decide_true, ofNat_nI, pe_srI, pe_srN, pe_srS, pe_srP, not_true_eq_false, not_false_eq_true, true_and, and_true, and_self, false_and, and_false, nI_m1, nI_ms, Nat.add_sub_cancel, pl_0, pl_1, pl_2, pl_3, pl_4, pl_5, pl_6, pl_7, pl_8, pl_9, pl_10, pl_11, pl_12, pl_13, pl_14, pl_15, pl_16, pl_17, pl_18, pl_19, pl_20, pl_21, pl_22, pl_23, pl_24, pl_25, pl_26, pl_27, pl_28, pl_29, pl_30, pl_31, pl_32, pl_34, pl_36, pl_37, pl_40, pl_41, pl_42, pl_43, pl_45, pl_47, pl_48, pl_50, pl_57, pl_59, pl_60, pl_61, pl_62, pl_64, pl_70, pl_91, pl_93, pl_97, pl_98, pl_99, pl_100, pl_106, pl_122, pl_128, pl_136, pl_142, pl_165, pl_168, pl_170, pl_171, pl_173, pl_175, pl_187, pl_188, pl_189, pl_190, pl_206, pl_211, pl_219, pl_229, pl_255, pl_260, pl_400, pl_500, pl_512, pl_900, pl_999, pl_1000, pl_1001, pl_1005, pl_1020, pl_1023, pl_1024, pl_1103, pl_2000, pl_2040, pl_2176, pl_5660, pl_9999, pl_12345, pl_1000000, pl_1000003, pl_100000000, pl_1000000000, pz_0, pz_1, pz_t, q11_isSlope, eb', eg', m1_le, h0, h1, h2, h5, s1, s2, s5]
    · have eg' : (am_I g 10 s = nI 1) = False := eq_false (fun z => hg (eg.symm.trans z))
      obtain ⟨g', e', r', f'⟩ := tail (am_si g p 6 (am_I g p 6 + am_I g (p + 1) s)) ((Fc.rf p g).si (by omega) _ _) (by
        rw [w_ha hp, r_ha, es, hr]
        unfold sldA
        rw [if_pos e, if_neg hg])
      refine ⟨g', ?_, r', f'⟩
      rw [← e']
      simp (disch := first | omega | assumption | decide) only [↓pv_let, ↓pv_jn, ↓reduceIte, pv_bd, ↓pv_ocs, ↓pv_ocn, pv_gdt, pe_gd, pe_clamp, pt_eq, pf_eq, pt_le, pf_le, pt_lt, pf_lt, nI_add, nn_mul, pe_sub, pb_0, pb_1, pb_z, pe_ieq, pe_ine, pe_ik, pP_si, pS_si, pn_si, ps_si, pL_si, decide_true, ofNat_nI, pe_srI, pe_srN, pe_srS, pe_srP, not_true_eq_false, not_false_eq_true, true_and, and_true, and_self, false_and, and_false, nI_m1, nI_ms, Nat.add_sub_cancel, pl_0, pl_1, pl_2, pl_3, pl_4, pl_5, pl_6, pl_7, pl_8, pl_9, pl_10, pl_11, pl_12, pl_13, pl_14, pl_15, pl_16, pl_17, pl_18, pl_19, pl_20, pl_21, pl_22, pl_23, pl_24, pl_25, pl_26, pl_27, pl_28, pl_29, pl_30, pl_31, pl_32, pl_34, pl_36, pl_37, pl_40, pl_41, pl_42, pl_43, pl_45, pl_47, pl_48, pl_50, pl_57, pl_59, pl_60, pl_61, pl_62, pl_64, pl_70, pl_91, pl_93, pl_97, pl_98, pl_99, pl_100, pl_106, pl_122, pl_128, pl_136, pl_142, pl_165, pl_168, pl_170, pl_171, pl_173, pl_175, pl_187, pl_188, pl_189, pl_190, pl_206, pl_211, pl_219, pl_229, pl_255, pl_260, pl_400, pl_500, pl_512, pl_900, pl_999, pl_1000, pl_1001, pl_1005, pl_1020, pl_1023, pl_1024, pl_1103, pl_2000, pl_2040, pl_2176, pl_5660, pl_9999, pl_12345, pl_1000000, pl_1000003, pl_100000000, pl_1000000000, pz_0, pz_1, pz_t, q11_isSlope, eb', eg', m1_le, h0, h1, h2, h5, s1, s2, s5]
  · have eb' : am_I g 9 s = nI b := eb.trans e
    obtain ⟨g', e', r', f'⟩ := tail (am_si g (p + 1) b (am_min (nI 9999) (am_I g (p + 1) b + am_I g (p + 1) s))) ((Fc.rf p g).si (by omega) _ _) (by
      rw [w_sn hp hb2, r_sn hb2, es, hr]
      unfold sldA
      rw [e, if_neg (nI_m1ne (by omega)), pe_clamp (by omega)])
    refine ⟨g', ?_, r', f'⟩
    rw [← e']
    simp (disch := first | omega | assumption | decide) only [↓pv_let, ↓pv_jn, ↓reduceIte, pv_bd, ↓pv_ocs, ↓pv_ocn, pv_gdt, pe_gd, pe_clamp, pt_eq, pf_eq, pt_le, pf_le, pt_lt, pf_lt, nI_add, nn_mul, pe_sub, pb_0, pb_1, pb_z, pe_ieq, pe_ine, pe_ik, pP_si, pS_si, pn_si, ps_si, pL_si, decide_true, ofNat_nI, pe_srI, pe_srN, pe_srS, pe_srP, not_true_eq_false, not_false_eq_true, true_and, and_true, and_self, false_and, and_false, nI_m1, nI_ms, Nat.add_sub_cancel, pl_0, pl_1, pl_2, pl_3, pl_4, pl_5, pl_6, pl_7, pl_8, pl_9, pl_10, pl_11, pl_12, pl_13, pl_14, pl_15, pl_16, pl_17, pl_18, pl_19, pl_20, pl_21, pl_22, pl_23, pl_24, pl_25, pl_26, pl_27, pl_28, pl_29, pl_30, pl_31, pl_32, pl_34, pl_36, pl_37, pl_40, pl_41, pl_42, pl_43, pl_45, pl_47, pl_48, pl_50, pl_57, pl_59, pl_60, pl_61, pl_62, pl_64, pl_70, pl_91, pl_93, pl_97, pl_98, pl_99, pl_100, pl_106, pl_122, pl_128, pl_136, pl_142, pl_165, pl_168, pl_170, pl_171, pl_173, pl_175, pl_187, pl_188, pl_189, pl_190, pl_206, pl_211, pl_219, pl_229, pl_255, pl_260, pl_400, pl_500, pl_512, pl_900, pl_999, pl_1000, pl_1001, pl_1005, pl_1020, pl_1023, pl_1024, pl_1103, pl_2000, pl_2040, pl_2176, pl_5660, pl_9999, pl_12345, pl_1000000, pl_1000003, pl_100000000, pl_1000000000, pz_0, pz_1, pz_t, q11_isSlope, eb', h0, h1, h2, h5, s1, s2, s5]
theorem slideAllL {p : Nat} (hp : VP 1 p) : ∀ (d s n c : Nat) (g : am_G) (ρ : Row), s + d = 6 → d < n → c ≤ s → PkS g p → vr g 1 p = ρ → okV ρ → ∃ g', fX2_slideAll_L4 p n (nI c) (nI s) g = some (nI (c + (sldU d s ρ).1), g') ∧ vr g' 1 p = (sldU d s ρ).2 ∧ Fc p g g'
  | 0, s, n, c, g, ρ, hd, hn, hc, hP, hr, hV => by
    obtain ⟨n, rfl⟩ : ∃ n', n = n' + 1 := ⟨n - 1, by omega⟩
    obtain rfl : s = 6 := by omega
    refine ⟨g, ?_, hr, Fc.rf p g⟩
    rw [fX2_slideAll_L4]
    simp (disch := first | omega | assumption | decide) only [↓pv_let, ↓pv_jn, ↓reduceIte, pv_bd, ↓pv_ocs, ↓pv_ocn, pv_gdt, pe_gd, pe_clamp, pt_eq, pf_eq, pt_le, pf_le, pt_lt, pf_lt, nI_add, nn_mul, pe_sub, pb_0, pb_1, pb_z, pe_ieq, pe_ine, pe_ik, pP_si, pS_si, pn_si, ps_si, pL_si, decide_true, ofNat_nI, pe_srI, pe_srN, pe_srS, pe_srP, not_true_eq_false, not_false_eq_true, true_and, and_true, and_self, false_and, and_false, nI_m1, nI_ms, Nat.add_sub_cancel, pl_0, pl_1, pl_2, pl_3, pl_4, pl_5, pl_6, pl_7, pl_8, pl_9, pl_10, pl_11, pl_12, pl_13, pl_14, pl_15, pl_16, pl_17, pl_18, pl_19, pl_20, pl_21, pl_22, pl_23, pl_24, pl_25, pl_26, pl_27, pl_28, pl_29, pl_30, pl_31, pl_32, pl_34, pl_36, pl_37, pl_40, pl_41, pl_42, pl_43, pl_45, pl_47, pl_48, pl_50, pl_57, pl_59, pl_60, pl_61, pl_62, pl_64, pl_70, pl_91, pl_93, pl_97, pl_98, pl_99, pl_100, pl_106, pl_122, pl_128, pl_136, pl_142, pl_165, pl_168, pl_170, pl_171, pl_173, pl_175, pl_187, pl_188, pl_189, pl_190, pl_206, pl_211, pl_219, pl_229, pl_255, pl_260, pl_400, pl_500, pl_512, pl_900, pl_999, pl_1000, pl_1001, pl_1005, pl_1020, pl_1023, pl_1024, pl_1103, pl_2000, pl_2040, pl_2176, pl_5660, pl_9999, pl_12345, pl_1000000, pl_1000003, pl_100000000, pl_1000000000, pz_0, pz_1, pz_t]
    rfl
  | d + 1, s, n, c, g, ρ, hd, hn, hc, hP, hr, hV => by
    obtain ⟨n, rfl⟩ : ∃ n', n = n' + 1 := ⟨n - 1, by omega⟩
    have hP0 := hP
    have hs : s < 6 := by omega
    obtain ⟨h0, h1, h2, h3, h4, h5, s1, s2, s3, s4, s5⟩ := hP
    have es := r_sn (g := g) (p := p) hs
    have et := r_st (g := g) (p := p) hs
    have eh := r_ho (g := g) (p := p) hs
    rw [hr] at es et eh
    rw [fX2_slideAll_L4, sldU]
    by_cases hu : unst ρ s = true
    · rw [if_pos hu]
      unfold unst at hu
      rw [Bool.and_eq_true, decide_eq_true_eq, decide_eq_true_eq] at hu
      have n1 : (ρ (10 + 10 * s + 0) ≤ nI 0) = False := eq_false (Int32.not_le.mpr hu.1)
      have n2 : (ρ (10 + 10 * s + 0) + ρ (10 + 10 * s + 8) ≤ ρ (10 + 10 * s + 1)) = False := eq_false (Int32.not_le.mpr hu.2)
      obtain ⟨g1, e1, r1, f1⟩ := q2_slideOne hp hs hP0 hr hV
      obtain ⟨g', e', r', f'⟩ := slideAllL hp d (s + 1) n (c + 1) g1 (sld1 ρ s) (by omega) (by omega) (by omega) (hP0.eq f1.1) r1 (sld1_ok hV hs)
      refine ⟨g', ?_, r', f1.tr f'⟩
      rw [show c + ((sldU d (s + 1) (sld1 ρ s)).1 + 1) = c + 1 + (sldU d (s + 1) (sld1 ρ s)).1 by omega, ← e']
      simp (disch := first | omega | assumption | decide) only [↓pv_let, ↓pv_jn, ↓reduceIte, pv_bd, ↓pv_ocs, ↓pv_ocn, pv_gdt, pe_gd, pe_clamp, pt_eq, pf_eq, pt_le, pf_le, pt_lt, pf_lt, nI_add, nn_mul, pe_sub, pb_0, pb_1, pb_z, pe_ieq, pe_ine, pe_ik, pP_si, pS_si, pn_si, ps_si, pL_si, decide_true, ofNat_nI, pe_srI, pe_srN, pe_srS, pe_srP, not_true_eq_false, not_false_eq_true, true_and, and_true, and_self, false_and, and_false, nI_m1, nI_ms, Nat.add_sub_cancel, pl_0, pl_1, pl_2, pl_3, pl_4, pl_5, pl_6, pl_7, pl_8, pl_9, pl_10, pl_11, pl_12, pl_13, pl_14, pl_15, pl_16, pl_17, pl_18, pl_19, pl_20, pl_21, pl_22, pl_23, pl_24, pl_25, pl_26, pl_27, pl_28, pl_29, pl_30, pl_31, pl_32, pl_34, pl_36, pl_37, pl_40, pl_41, pl_42, pl_43, pl_45, pl_47, pl_48, pl_50, pl_57, pl_59, pl_60, pl_61, pl_62, pl_64, pl_70, pl_91, pl_93, pl_97, pl_98, pl_99, pl_100, pl_106, pl_122, pl_128, pl_136, pl_142, pl_165, pl_168, pl_170, pl_171, pl_173, pl_175, pl_187, pl_188, pl_189, pl_190, pl_206, pl_211, pl_219, pl_229, pl_255, pl_260, pl_400, pl_500, pl_512, pl_900, pl_999, pl_1000, pl_1001, pl_1005, pl_1020, pl_1023, pl_1024, pl_1103, pl_2000, pl_2040, pl_2176, pl_5660, pl_9999, pl_12345, pl_1000000, pl_1000003, pl_100000000, pl_1000000000, pz_0, pz_1, pz_t, h0, h1, h2, s1, s2, es, et, eh, n1, n2, e1]
    · rw [if_neg hu]
      unfold unst at hu
      obtain ⟨g', e', r', f'⟩ := slideAllL hp d (s + 1) n c g ρ (by omega) (by omega) (by omega) hP0 hr hV
      refine ⟨g', ?_, r', f'⟩
      rw [← e']
      by_cases n1 : ρ (10 + 10 * s + 0) ≤ nI 0
      · simp (disch := first | omega | assumption | decide) only [↓pv_let, ↓pv_jn, ↓reduceIte, pv_bd, ↓pv_ocs, ↓pv_ocn, pv_gdt, pe_gd, pe_clamp, pt_eq, pf_eq, pt_le, pf_le, pt_lt, pf_lt, nI_add, nn_mul, pe_sub, pb_0, pb_1, pb_z, pe_ieq, pe_ine, pe_ik, pP_si, pS_si, pn_si, ps_si, pL_si, decide_true, ofNat_nI, pe_srI, pe_srN, pe_srS, pe_srP, not_true_eq_false, not_false_eq_true, true_and, and_true, and_self, false_and, and_false, nI_m1, nI_ms, Nat.add_sub_cancel, pl_0, pl_1, pl_2, pl_3, pl_4, pl_5, pl_6, pl_7, pl_8, pl_9, pl_10, pl_11, pl_12, pl_13, pl_14, pl_15, pl_16, pl_17, pl_18, pl_19, pl_20, pl_21, pl_22, pl_23, pl_24, pl_25, pl_26, pl_27, pl_28, pl_29, pl_30, pl_31, pl_32, pl_34, pl_36, pl_37, pl_40, pl_41, pl_42, pl_43, pl_45, pl_47, pl_48, pl_50, pl_57, pl_59, pl_60, pl_61, pl_62, pl_64, pl_70, pl_91, pl_93, pl_97, pl_98, pl_99, pl_100, pl_106, pl_122, pl_128, pl_136, pl_142, pl_165, pl_168, pl_170, pl_171, pl_173, pl_175, pl_187, pl_188, pl_189, pl_190, pl_206, pl_211, pl_219, pl_229, pl_255, pl_260, pl_400, pl_500, pl_512, pl_900, pl_999, pl_1000, pl_1001, pl_1005, pl_1020, pl_1023, pl_1024, pl_1103, pl_2000, pl_2040, pl_2176, pl_5660, pl_9999, pl_12345, pl_1000000, pl_1000003, pl_100000000, pl_1000000000, pz_0, pz_1, pz_t, h0, h1, h2, s1, s2, es, et, eh, n1]
      · have n2 : ρ (10 + 10 * s + 0) + ρ (10 + 10 * s + 8) ≤ ρ (10 + 10 * s + 1) := by
          refine Int32.not_lt.mp fun z => hu ?_
          rw [Bool.and_eq_true, decide_eq_true_eq, decide_eq_true_eq]
          exact ⟨Int32.not_le.mp n1, z⟩
        simp (disch := first | omega | assumption | decide) only [↓pv_let, ↓pv_jn, ↓reduceIte, pv_bd, ↓pv_ocs, ↓pv_ocn, pv_gdt, pe_gd, pe_clamp, pt_eq, pf_eq, pt_le, pf_le, pt_lt, pf_lt, nI_add, nn_mul, pe_sub, pb_0, pb_1, pb_z, pe_ieq, pe_ine, pe_ik, pP_si, pS_si, pn_si, ps_si, pL_si, decide_true, ofNat_nI, pe_srI, pe_srN, pe_srS, pe_srP, not_true_eq_false, not_false_eq_true, true_and, and_true, and_self, false_and, and_false, nI_m1, nI_ms, Nat.add_sub_cancel, pl_0, pl_1, pl_2, pl_3, pl_4, pl_5, pl_6, pl_7, pl_8, pl_9, pl_10, pl_11, pl_12, pl_13, pl_14, pl_15, pl_16, pl_17, pl_18, pl_19, pl_20, pl_21, pl_22, pl_23, pl_24, pl_25, pl_26, pl_27, pl_28, pl_29, pl_30, pl_31, pl_32, pl_34, pl_36, pl_37, pl_40, pl_41, pl_42, pl_43, pl_45, pl_47, pl_48, pl_50, pl_57, pl_59, pl_60, pl_61, pl_62, pl_64, pl_70, pl_91, pl_93, pl_97, pl_98, pl_99, pl_100, pl_106, pl_122, pl_128, pl_136, pl_142, pl_165, pl_168, pl_170, pl_171, pl_173, pl_175, pl_187, pl_188, pl_189, pl_190, pl_206, pl_211, pl_219, pl_229, pl_255, pl_260, pl_400, pl_500, pl_512, pl_900, pl_999, pl_1000, pl_1001, pl_1005, pl_1020, pl_1023, pl_1024, pl_1103, pl_2000, pl_2040, pl_2176, pl_5660, pl_9999, pl_12345, pl_1000000, pl_1000003, pl_100000000, pl_1000000000, pz_0, pz_1, pz_t, h0, h1, h2, s1, s2, es, et, eh, n1, n2]
theorem q2_slideAll {g : am_G} {p : Nat} {ρ : Row} (hp : VP 1 p) (hP : PkS g p) (hr : vr g 1 p = ρ) (hV : okV ρ) : ∃ g', fX2_slideAll p g = some (nI (sldU 6 0 ρ).1, g') ∧ vr g' 1 p = (sldU 6 0 ρ).2 ∧ Fc p g g' := by
  obtain ⟨g', e, r, f⟩ := slideAllL hp 6 0 am_fu 0 g ρ rfl (by decide) (Nat.le_refl _) hP hr hV
  rw [Nat.zero_add] at e
  exact ⟨g', e, r, f⟩
