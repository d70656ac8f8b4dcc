/-! ===== a whole sum, a whole test ===== -/
def rst (g : am_G) : am_G := am_si (am_si g 0 29 (nI 0)) 0 30 (nI 0)
/-- the reference reads, whatever lies on the pile -/
def RQ (md : Bool) (b : Nat → Nat) (len h : Nat) (X : Cd) (nl : Nat) (g : am_G) : Prop := RS md b len h X nl 0 [] (rst g)
theorem RS.q {md : Bool} {b : Nat → Nat} {len h nl op : Nat} {X : Cd} {pi : List (Nat × Nat)} {g : am_G} (hr : RS md b len h X nl op pi g) : RQ md b len h X nl g := by
  unfold RQ rst
  obtain ⟨s1, s2, s3, s4, s5, s6, s7, s8⟩ := hr
  obtain ⟨t1, t2, t3, t4, t5, t6, t7⟩ := s2
  refine ⟨s1.cg (fun k _ _ => by rw [pe_ik (by omega), pe_ik (by omega)]) (fun k => by rw [pe_ine (by decide), pe_ine (by decide)]) rfl, ⟨by rw [pe_ik (by decide), pe_ik (by decide)]; exact t1, fun i hi => by rw [pe_ine (by decide), pe_ine (by decide), pe_ine (by decide), pe_ine (by decide)]; exact t2 i hi, by rw [pe_ik (by decide), pe_ieq]; rfl, trivial, by decide, by show X.2.2 + 0 ≤ 400; omega, by intro q hq; cases hq⟩, by rw [pe_ik (by decide), pe_ik (by decide)]; exact s3, by rw [pe_ik (by decide), pe_ik (by decide)]; exact s4, pe_ieq _ _ _ _, by rw [pe_ik (by decide), pe_ik (by decide)]; exact s6, s7, s8.1, by rw [pe_ik (by decide), pe_ik (by decide)]; exact s8.2⟩
theorem RQ.reset {md : Bool} {b : Nat → Nat} {len h nl : Nat} {X : Cd} {g : am_G} (hq : RQ md b len h X nl g) : RS md b len h X nl 0 [] (am_si (am_si g 0 29 (nI 0)) 0 30 (nI 0)) ∧ FrP g (am_si (am_si g 0 29 (nI 0)) 0 30 (nI 0)) := ⟨hq, ((FrP.rf g).si (by omega) _).si (by omega) _⟩
theorem rst0 {g : am_G} {k : Nat} (h : k ≠ 29) (h' : k ≠ 30) : am_I (rst g) 0 k = am_I g 0 k := by unfold rst; rw [pe_ik h', pe_ik h]
theorem rstN {g : am_G} {a : Nat} (h : a ≠ 0) (k : Nat) : am_I (rst g) a k = am_I g a k := by unfold rst; rw [pe_ine h, pe_ine h]
theorem RQ.lx {md : Bool} {b : Nat → Nat} {len h nl : Nat} {X : Cd} {g : am_G} (hq : RQ md b len h X nl g) : Lx b len h g := Lx.cg (g := rst g) hq.1 (fun k h1 h2 => (rst0 (by omega) (by omega)).symm) (fun k => (rstN (by decide) k).symm) rfl
theorem RQ.tk {md : Bool} {b : Nat → Nat} {len h nl : Nat} {X : Cd} {g : am_G} (hq : RQ md b len h X nl g) : TkS g (tkF b len h) := hq.lx.2.2.2.2
theorem RQ.b0 {md : Bool} {b : Nat → Nat} {len h nl : Nat} {X : Cd} {g : am_G} (hq : RQ md b len h X nl g) : am_I g 0 19 = nI 0 := (rst0 (by decide) (by decide)).symm.trans hq.2.2.1
theorem RQ.f18 {md : Bool} {b : Nat → Nat} {len h nl : Nat} {X : Cd} {g : am_G} (hq : RQ md b len h X nl g) : am_I g 0 18 = -1 := (rst0 (by decide) (by decide)).symm.trans hq.2.2.2.2.2.2.2.2
theorem RQ.c {md : Bool} {b : Nat → Nat} {len h nl : Nat} {X : Cd} {g : am_G} (hq : RQ md b len h X nl g) : am_I g 0 23 = nI X.2.2 ∧ am_I g 0 19 = nI 0 ∧ X.2.2 ≤ 400 := ⟨(rst0 (by decide) (by decide)).symm.trans hq.2.1.1, hq.b0, by have := hq.2.1.2.2.2.2.2.1; omega⟩
theorem RQ.cd {md : Bool} {b : Nat → Nat} {len h nl : Nat} {X : Cd} {g : am_G} (hq : RQ md b len h X nl g) : ∀ i, i < X.2.2 → am_I g 11 i = nI (X.1 i) ∧ am_I g 12 i = nI (X.2.1 i) := fun i hi => by
  have := hq.2.1.2.1 i hi
  rw [rstN (by decide), rstN (by decide)] at this
  exact this
theorem RQ.of {md : Bool} {b : Nat → Nat} {len h h' nl : Nat} {X : Cd} {g g' : am_G} (hq : RQ md b len h X nl g) (hL : Lx b len h' g') (e0 : ∀ k, k = 18 ∨ k = 19 ∨ k = 20 ∨ k = 23 ∨ k = 26 → am_I g' 0 k = am_I g 0 k) (e : ∀ a k, 11 ≤ a → a ≤ 14 → am_I g' a k = am_I g a k) (e5 : am_L g' 15 = am_L g 15) (e6 : am_L g' 16 = am_L g 16) : RQ md b len h' X nl g' := by
  obtain ⟨s1, s2, s3, s4, s5, s6, s7, s8, s9⟩ := hq
  refine ⟨Lx.cg (g := g') hL (fun k h1 h2 => rst0 (by omega) (by omega)) (fun k => rstN (by decide) k) rfl, s2.cg (by rw [rst0 (by decide) (by decide), rst0 (by decide) (by decide)]; exact e0 23 (by omega)) ?_ (fun a k h1 h2 => by rw [rstN (by omega), rstN (by omega)]; exact e a k h1 h2), ?_, ?_, ?_, ?_, e5.trans s7, e6.trans s8, ?_⟩
  · unfold rst; rw [pe_ik (by decide), pe_ieq, pe_ik (by decide), pe_ieq]
  · rw [rst0 (by decide) (by decide), e0 19 (by omega), ← rst0 (g := g) (by decide) (by decide)]; exact s3
  · rw [rst0 (by decide) (by decide), e0 26 (by omega), ← rst0 (g := g) (by decide) (by decide)]; exact s4
  · unfold rst; rw [pe_ieq]
  · rw [rst0 (by decide) (by decide), e0 20 (by omega), ← rst0 (g := g) (by decide) (by decide)]; exact s6
  · rw [rst0 (by decide) (by decide), e0 18 (by omega), ← rst0 (g := g) (by decide) (by decide)]; exact s9
theorem RQ.nx {md : Bool} {b : Nat → Nat} {len h nl : Nat} {X : Cd} {g : am_G} (hT : Tp b len) (hq : RQ md b len h X nl g) : ∃ g', fX12_next g = some ((), g') ∧ RQ md b len (h + 1) X nl g' ∧ FrN g g' := by
  obtain ⟨g', e1, e2, e3⟩ := hq.lx.next hT.1 hT.2
  exact ⟨g', e1, hq.of e2 (fun k hk => e3.1 0 k (by omega)) (fun a k h1 h2 => e3.1 a k (by omega)) (funext fun k => e3.2.1 15 k (by omega)) (funext fun k => e3.2.1 16 k (by omega)), e3⟩
theorem RQ.mustT {md : Bool} {b : Nat → Nat} {len h nl : Nat} {X : Cd} {g : am_G} (hT : Tp b len) (hq : RQ md b len h X nl g) : ∃ g', fX12_must (nI 1) g = some ((), g') ∧ RQ md b len (h + 1) X nl g' ∧ FrN g g' := by
  obtain ⟨g', e1, e2⟩ := hq.nx hT
  have h19 := hq.b0
  refine ⟨g', ?_, e2⟩
  unfold fX12_must
  simp (disch := first | omega | assumption | decide) only [↓pv_let, ↓pv_jn, ↓reduceIte, pv_bd, ↓pv_ocs, ↓pv_ocn, pv_gdt, pe_gd, pe_clamp, pt_eq, pf_eq, pt_le, pf_le, pt_lt, pf_lt, nI_add, nn_mul, pe_sub, pb_0, pb_1, pb_z, pe_ieq, pe_ine, pe_ik, pP_si, pS_si, pn_si, ps_si, pL_si, decide_true, ofNat_nI, pe_srI, pe_srN, pe_srS, pe_srP, not_true_eq_false, not_false_eq_true, true_and, and_true, and_self, false_and, and_false, nI_m1, nI_ms, Nat.add_sub_cancel, pl_0, pl_1, pl_2, pl_3, pl_4, pl_5, pl_6, pl_7, pl_8, pl_9, pl_10, pl_11, pl_12, pl_13, pl_14, pl_15, pl_16, pl_17, pl_18, pl_19, pl_20, pl_21, pl_22, pl_23, pl_24, pl_25, pl_26, pl_27, pl_28, pl_29, pl_30, pl_31, pl_32, pl_34, pl_36, pl_37, pl_40, pl_41, pl_42, pl_43, pl_45, pl_47, pl_48, pl_50, pl_57, pl_59, pl_60, pl_61, pl_62, pl_64, pl_70, pl_91, pl_93, pl_97, pl_98, pl_99, pl_100, pl_106, pl_122, pl_128, pl_136, pl_142, pl_165, pl_168, pl_170, pl_171, pl_173, pl_175, pl_187, pl_188, pl_189, pl_190, pl_206, pl_211, pl_219, pl_229, pl_255, pl_260, pl_400, pl_500, pl_512, pl_900, pl_999, pl_1000, pl_1001, pl_1005, pl_1020, pl_1023, pl_1024, pl_1103, pl_2000, pl_2040, pl_2176, pl_5660, pl_9999, pl_12345, pl_1000000, pl_1000003, pl_100000000, pl_1000000000, pz_0, pz_1, pz_t, h19, e1]
/-- a fault was found, whatever lies on the pile -/
def FBo (b : Nat → Nat) (len h : Nat) (g : am_G) : Prop := am_I g 0 19 = nI 1 ∧ am_I g 0 18 = nI (plF b len h)
theorem FB.o {b : Nat → Nat} {len h : Nat} {g : am_G} (h1 : FB b len h g) : FBo b len h g := ⟨h1.1, h1.2.1⟩
theorem RQ.mustF {md : Bool} {b : Nat → Nat} {len h nl : Nat} {X : Cd} {g : am_G} (hq : RQ md b len h X nl g) : ∃ g', fX12_must (nI 0) g = some ((), g') ∧ FBo b len h g' ∧ FrP g g' := by
  have h19 := hq.b0
  have h14 := hq.lx.2.2.1
  refine ⟨am_si (am_si g 0 19 (nI 1)) 0 18 (nI (plF b len h)), ?_, ⟨by rw [pe_ik (by decide), pe_ieq], pe_ieq _ _ _ _⟩, ((FrP.rf g).si (by omega) _).si (by omega) _⟩
  unfold fX12_must
  simp (disch := first | omega | assumption | decide) only [↓pv_let, ↓pv_jn, ↓reduceIte, pv_bd, ↓pv_ocs, ↓pv_ocn, pv_gdt, pe_gd, pe_clamp, pt_eq, pf_eq, pt_le, pf_le, pt_lt, pf_lt, nI_add, nn_mul, pe_sub, pb_0, pb_1, pb_z, pe_ieq, pe_ine, pe_ik, pP_si, pS_si, pn_si, ps_si, pL_si, decide_true, ofNat_nI, pe_srI, pe_srN, pe_srS, pe_srP, not_true_eq_false, not_false_eq_true, true_and, and_true, and_self, false_and, and_false, nI_m1, nI_ms, Nat.add_sub_cancel, pl_0, pl_1, pl_2, pl_3, pl_4, pl_5, pl_6, pl_7, pl_8, pl_9, pl_10, pl_11, pl_12, pl_13, pl_14, pl_15, pl_16, pl_17, pl_18, pl_19, pl_20, pl_21, pl_22, pl_23, pl_24, pl_25, pl_26, pl_27, pl_28, pl_29, pl_30, pl_31, pl_32, pl_34, pl_36, pl_37, pl_40, pl_41, pl_42, pl_43, pl_45, pl_47, pl_48, pl_50, pl_57, pl_59, pl_60, pl_61, pl_62, pl_64, pl_70, pl_91, pl_93, pl_97, pl_98, pl_99, pl_100, pl_106, pl_122, pl_128, pl_136, pl_142, pl_165, pl_168, pl_170, pl_171, pl_173, pl_175, pl_187, pl_188, pl_189, pl_190, pl_206, pl_211, pl_219, pl_229, pl_255, pl_260, pl_400, pl_500, pl_512, pl_900, pl_999, pl_1000, pl_1001, pl_1005, pl_1020, pl_1023, pl_1024, pl_1103, pl_2000, pl_2040, pl_2176, pl_5660, pl_9999, pl_12345, pl_1000000, pl_1000003, pl_100000000, pl_1000000000, pz_0, pz_1, pz_t, h19, h14]
/-- a reading of both that fails, from h on -/
def XF (b : Nat → Nat) (len : Nat) (Rc' : Option (Int32 × am_G)) (Rr : Option (Unit × am_G)) (gc gr : am_G) : Prop := ∃ h' gc' gr', Rc' = some (nI 0, gc') ∧ FcP gc gc' ∧ am_I gc' 29 7 = nI h' ∧ (∃ x, am_I gc' 29 6 = nI x ∧ x ≤ 512) ∧ Rch b len h' ∧ Rr = some ((), gr') ∧ FB b len h' gr' ∧ FrP gr gr'
/-- a reading of both that gives D -/
def XO (md : Bool) (b : Nat → Nat) (len : Nat) (Rc' : Option (Int32 × am_G)) (Rr : Option (Unit × am_G)) (tst : Prop) (nt : Nat → Prop) (h u p : Nat) (X : Cd) (gc gr : am_G) : Prop :=
  ∃ h' u' p' d D gc' gr' X', Rc' = some (nI 1, gc') ∧ Rr = some ((), gr') ∧ FcP gc gc' ∧ CS md b len h' u' p' 0 gc' ∧ h < h' ∧ u ≤ u' ∧ u' + h ≤ u + h' ∧ (∀ i, i < u → am_I gc' 35 i = am_I gc 35 i) ∧ SegC (am_I gc' 35) u u' d D ∧ 0 < d ∧ d + p ≤ p' ∧ p' ≤ 50 ∧ FrP gr gr' ∧ RQ md b len h' X' p' gr' ∧ SegR md X'.1 X'.2.1 X.2.2 X'.2.2 d D ∧ (∀ i, i < X.2.2 → X'.1 i = X.1 i ∧ X'.2.1 i = X.2.1 i) ∧ X'.2.2 + h ≤ X.2.2 + h' ∧ (tst → dT D) ∧ (md = false → okD D) ∧ nt (tkF b len h')
section EXPR
variable {md : Bool} {b : Nat → Nat} {len : Nat}
theorem RE_0 (g : am_G) : fX12_readExpression (nI 0) g = fX12_readExpression_L20 (nI 0) am_fu (nI 1) (am_si (am_si g 0 29 (nI 0)) 0 30 (nI 0)) := by
  unfold fX12_readExpression
  rw [pu_let, pu_let, pu_jn, if_pos (show nI 0 = (0 : Int32) from rfl), show (1 : Int32) = nI 1 from rfl, show (0 : Int32) = nI 0 from rfl]
theorem RE_1 (g : am_G) : fX12_readExpression (nI 1) g = fX12_readExpression_L20 (nI 1) am_fu (nI 0) (am_si (am_si g 0 29 (nI 0)) 0 30 (nI 0)) := by
  unfold fX12_readExpression
  rw [pu_let, pu_let, pu_jn, if_neg (show ¬ nI 1 = (0 : Int32) by decide), show (0 : Int32) = nI 0 from rfl]
theorem tb_nil (lv : Nat) : tb [] lv := by intro q l e; cases e
theorem exprS (hT : Tp b len) {h u p : Nat} {X : Cd} {gc gr : am_G} (hc : CS md b len h u p 0 gc) (hq : RQ md b len h X p gr) (h1 : 1 ≤ h) (hX : X.2.2 + 1 ≤ h) (hu : u ≤ h) (hp : p ≤ 50) : XF b len (fX5_readSum gc) (fX12_readExpression (nI 0) gr) gc gr ∨ XO md b len (fX5_readSum gc) (fX12_readExpression (nI 0) gr) False nAr h u p X gc gr := by
  obtain ⟨r0, f0⟩ := hq.reset
  have hfu : am_fu = 1048576 := rfl
  rw [RE_0]
  generalize am_si (am_si gr 0 29 (nI 0)) 0 30 (nI 0) = gr0 at *
  have hS : SumOK md b len (nI 0) 64 := sumOK hT 64
  rcases hS h u p 0 X [] gc gr0 (nI 1) ⟨hc, r0, by show 0 + 1 ≤ h; omega, by show X.2.2 + 0 + 1 ≤ h; omega, hu, hp, by decide, tb_nil 5⟩ (Or.inl rfl) (by decide) with Hf | Ho
  · obtain ⟨h', gc', gr', k, x', z1, z2, z3, z4, z5, z6, z7, z8, z9, z10⟩ := Hf
    have hb' := z5.b hT
    obtain ⟨gr2, e1, e2, e3⟩ := z9.end
    refine Or.inl ⟨h', gc', gr2, z1, z2, z3, z4, z5, ?_, e2, f0.tr (z10.tr e3.P)⟩
    have := z6 (am_fu - k - 1 + 1)
    rw [show am_fu - k - 1 + 1 + k = am_fu by omega] at this
    rw [this]
    exact L20_b z9.1 e1 _
  · obtain ⟨h', u', p', d, D, gc', gr', X', pend, k, z1, ⟨m1, m2, m3, m4, m5, m6, m7, m8, m9, m10, m11, m12, m13, m14, m15, m16, m17⟩, zn⟩ := Ho.md
    have hb' := m2.2.2.2.2.2.2.b hT
    have hin : inn (pend ++ []) = -nI 1 := by
      rw [inn_app (fun q hq => by have := m15.1 q hq; omega)]
      rfl
    have ov := BS_over m14 hin zn
    obtain ⟨gr2, e1, e2, e3⟩ := q12_settle (lv := 1) (by decide) (by decide) (tb_nil 1) m14.2.1 (fun q hq => by have := m15.1 q hq; omega)
    obtain ⟨q1, q2, q3, q4, q5⟩ := m15
    refine Or.inr ⟨h', u', p', d, D, gc', gr2, ems X' pend, z1, ?_, m1, m2, m3, m4, m5, m6, m7, m8, m9, m10, f0.tr (m13.tr e3.P), (m14.z e3 e2).q, q3, q4, q5, m16, m17, zn⟩
    have := (m11.tr (L20_3 m14.2.2.1 ov)) (am_fu - (k + 1) - 1 + 1)
    rw [show am_fu - (k + 1) - 1 + 1 + (k + 1) = am_fu by omega] at this
    rw [this]
    exact L20_4 m14.2.2.1 e1 _
theorem exprT (hT : Tp b len) {h u p : Nat} {X : Cd} {gc gr : am_G} (hc : CS md b len h u p 0 gc) (hq : RQ md b len h X p gr) (h1 : 1 ≤ h) (hX : X.2.2 + 1 ≤ h) (hu : u ≤ h) (hp : p ≤ 50) : XF b len (fX5_readTest gc) (fX12_readExpression (nI 1) gr) gc gr ∨ XO md b len (fX5_readTest gc) (fX12_readExpression (nI 1) gr) True (fun _ => True) h u p X gc gr := by
  obtain ⟨r0, f0⟩ := hq.reset
  have hfu : am_fu = 1048576 := rfl
  rw [RE_1]
  generalize am_si (am_si gr 0 29 (nI 0)) 0 30 (nI 0) = gr0 at *
  have hS : TestOK md b len (nI 1) 64 := testOK hT 64
  rcases hS h u p 0 X [] gc gr0 ⟨hc, r0, by show 0 + 1 ≤ h; omega, by show X.2.2 + 0 + 1 ≤ h; omega, hu, hp, by decide, tb_nil 1⟩ (Or.inr ⟨rfl, rfl⟩) (by decide) with Hf | Ho
  · obtain ⟨h', gc', gr', k, x', z1, z2, z3, z4, z5, z6, z7, z8, z9, z10⟩ := Hf
    have hb' := z5.b hT
    obtain ⟨gr2, e1, e2, e3⟩ := z9.end
    refine Or.inl ⟨h', gc', gr2, z1, z2, z3, z4, z5, ?_, e2, f0.tr (z10.tr e3.P)⟩
    have := z6 (am_fu - k - 1 + 1)
    rw [show am_fu - k - 1 + 1 + k = am_fu by omega] at this
    rw [this]
    exact L20_b z9.1 e1 _
  · obtain ⟨h', u', p', d, D, gc', gr', X', pend, k, z1, ⟨m1, m2, m3, m4, m5, m6, m7, m8, m9, m10, m11, m12, m13, m14, m15, m16, m17⟩, zn⟩ := Ho.md
    have hb' := m2.2.2.2.2.2.2.b hT
    have hin : inn (pend ++ []) = -nI 1 := by
      rw [inn_app (fun q hq => m15.1 q hq)]
      rfl
    have ov := BT_over m14 zn.1 zn.2 hin
    obtain ⟨gr2, e1, e2, e3⟩ := q12_settle (lv := 1) (by decide) (by decide) (tb_nil 1) m14.2.1 m15.1
    obtain ⟨q1, q2, q3, q4, q5⟩ := m15
    refine Or.inr ⟨h', u', p', d, D, gc', gr2, ems X' pend, z1, ?_, m1, m2, m3, m4, m5, m6, m7, m8, m9, m10, f0.tr (m13.tr e3.P), (m14.z e3 e2).q, q3, q4, q5, m16, m17, trivial⟩
    have := (m11.tr (L20_2 m14.2.2.1 ov)) (am_fu - (k + 1) - 1 + 1)
    rw [show am_fu - (k + 1) - 1 + 1 + (k + 1) = am_fu by omega] at this
    rw [this]
    exact L20_4 m14.2.2.1 e1 _
end EXPR
