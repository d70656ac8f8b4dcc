/-! ===== a whole sum, a whole test ===== -/
def RQ (md : Bool) (b : Nat → Nat) (len h : Nat) (X : Cd) (nl : Nat) (g : am_G) : Prop := ∃ op pi, RS md b len h X nl op pi g
theorem RQ.reset {md : Bool} {b : Nat → Nat} {len h nl : Nat} {X : Cd} {g : am_G} (hq : RQ md b len h X nl g) : RS md b len h X nl 0 [] (am_si (am_si g 0 29 (nI 0)) 0 30 (nI 0)) ∧ FrP g (am_si (am_si g 0 29 (nI 0)) 0 30 (nI 0)) := by
  obtain ⟨op, pi, s1, s2, s3, s4, s5, s6, s7, s8⟩ := hq
  obtain ⟨t1, t2, t3, t4, t5, t6, t7⟩ := s2
  refine ⟨⟨s1.cg (fun k _ _ => by rw [pe_ik (by omega), pe_ik (by omega)]) (fun k => by rw [pe_ine (by decide), pe_ine (by decide)]) rfl, ⟨by rw [pe_ik (by decide), pe_ik (by decide)]; exact t1, fun i hi => by rw [pe_ine (by decide), pe_ine (by decide), pe_ine (by decide), pe_ine (by decide)]; exact t2 i hi, by rw [pe_ik (by decide), pe_ieq]; rfl, trivial, by decide, by show X.2.2 + 0 ≤ 400; omega, by intro q hq; cases hq⟩, by rw [pe_ik (by decide), pe_ik (by decide)]; exact s3, by rw [pe_ik (by decide), pe_ik (by decide)]; exact s4, pe_ieq _ _ _ _, by rw [pe_ik (by decide), pe_ik (by decide)]; exact s6, s7, s8.1, by rw [pe_ik (by decide), pe_ik (by decide)]; exact s8.2⟩, ((FrP.rf g).si (by omega) _).si (by omega) _⟩
/-- a reading of both that fails, from h on -/
def XF (b : Nat → Nat) (len : Nat) (Rc' : Option (Int32 × am_G)) (Rr : Option (Unit × am_G)) (gc gr : am_G) : Prop := ∃ h' gc' gr', Rc' = some (nI 0, gc') ∧ FcP gc gc' ∧ am_I gc' 29 7 = nI h' ∧ (∃ x, am_I gc' 29 6 = nI x ∧ x ≤ 512) ∧ Rch b len h' ∧ Rr = some ((), gr') ∧ FB b len h' gr' ∧ FrP gr gr'
/-- a reading of both that gives D -/
def XO (md : Bool) (b : Nat → Nat) (len : Nat) (Rc' : Option (Int32 × am_G)) (Rr : Option (Unit × am_G)) (tst : Prop) (nt : Nat → Prop) (h u p : Nat) (X : Cd) (gc gr : am_G) : Prop :=
  ∃ h' u' p' d D gc' gr' X', Rc' = some (nI 1, gc') ∧ Rr = some ((), gr') ∧ FcP gc gc' ∧ CS md b len h' u' p' 0 gc' ∧ h < h' ∧ u ≤ u' ∧ u' + h ≤ u + h' ∧ (∀ i, i < u → am_I gc' 35 i = am_I gc 35 i) ∧ SegC (am_I gc' 35) u u' d D ∧ 0 < d ∧ d + p ≤ p' ∧ p' ≤ 50 ∧ FrP gr gr' ∧ RQ md b len h' X' p' gr' ∧ SegR md X'.1 X'.2.1 X.2.2 X'.2.2 d D ∧ (∀ i, i < X.2.2 → X'.1 i = X.1 i ∧ X'.2.1 i = X.2.1 i) ∧ X'.2.2 + h ≤ X.2.2 + h' ∧ (tst → dT D) ∧ (md = false → okD D) ∧ nt (tkF b len h')
section EXPR
variable {md : Bool} {b : Nat → Nat} {len : Nat}
theorem RE_0 (g : am_G) : fX12_readExpression (nI 0) g = fX12_readExpression_L20 (nI 0) am_fu (nI 1) (am_si (am_si g 0 29 (nI 0)) 0 30 (nI 0)) := by
  unfold fX12_readExpression
  rw [pu_let, pu_let, pu_jn, if_pos (show nI 0 = (0 : Int32) from rfl), show (1 : Int32) = nI 1 from rfl, show (0 : Int32) = nI 0 from rfl]
theorem RE_1 (g : am_G) : fX12_readExpression (nI 1) g = fX12_readExpression_L20 (nI 1) am_fu (nI 0) (am_si (am_si g 0 29 (nI 0)) 0 30 (nI 0)) := by
  unfold fX12_readExpression
  rw [pu_let, pu_let, pu_jn, if_neg (show ¬ nI 1 = (0 : Int32) by decide), show (0 : Int32) = nI 0 from rfl]
theorem tb_nil (lv : Nat) : tb [] lv := by intro q l e; cases e
theorem exprS (hT : Tp b len) {h u p : Nat} {X : Cd} {gc gr : am_G} (hc : CS md b len h u p 0 gc) (hq : RQ md b len h X p gr) (h1 : 1 ≤ h) (hX : X.2.2 + 1 ≤ h) (hu : u ≤ h) (hp : p ≤ 50) : XF b len (fX5_readSum gc) (fX12_readExpression (nI 0) gr) gc gr ∨ XO md b len (fX5_readSum gc) (fX12_readExpression (nI 0) gr) False nAr h u p X gc gr := by
  obtain ⟨r0, f0⟩ := hq.reset
  have hfu : am_fu = 1048576 := rfl
  rw [RE_0]
  generalize am_si (am_si gr 0 29 (nI 0)) 0 30 (nI 0) = gr0 at *
  have hS : SumOK md b len (nI 0) 64 := sumOK hT 64
  rcases hS h u p 0 X [] gc gr0 (nI 1) ⟨hc, r0, by show 0 + 1 ≤ h; omega, by show X.2.2 + 0 + 1 ≤ h; omega, hu, hp, by decide, tb_nil 5⟩ (Or.inl rfl) (by decide) with Hf | Ho
  · obtain ⟨h', gc', gr', k, x', z1, z2, z3, z4, z5, z6, z7, z8, z9, z10⟩ := Hf
    have hb' := z5.b hT
    obtain ⟨gr2, e1, e2, e3⟩ := z9.end
    refine Or.inl ⟨h', gc', gr2, z1, z2, z3, z4, z5, ?_, e2, f0.tr (z10.tr e3.P)⟩
    have := z6 (am_fu - k - 1 + 1)
    rw [show am_fu - k - 1 + 1 + k = am_fu by omega] at this
    rw [this]
    exact L20_b z9.1 e1 _
  · obtain ⟨h', u', p', d, D, gc', gr', X', pend, k, z1, ⟨m1, m2, m3, m4, m5, m6, m7, m8, m9, m10, m11, m12, m13, m14, m15, m16, m17⟩, zn⟩ := Ho.md
    have hb' := m2.2.2.2.2.2.2.b hT
    have hin : inn (pend ++ []) = -nI 1 := by
      rw [inn_app (fun q hq => by have := m15.1 q hq; omega)]
      rfl
    have ov := BS_over m14 hin zn
    obtain ⟨gr2, e1, e2, e3⟩ := q12_settle (lv := 1) (by decide) (by decide) (tb_nil 1) m14.2.1 (fun q hq => by have := m15.1 q hq; omega)
    obtain ⟨q1, q2, q3, q4, q5⟩ := m15
    refine Or.inr ⟨h', u', p', d, D, gc', gr2, ems X' pend, z1, ?_, m1, m2, m3, m4, m5, m6, m7, m8, m9, m10, f0.tr (m13.tr e3.P), ⟨_, _, m14.z e3 e2⟩, q3, q4, q5, m16, m17, zn⟩
    have := (m11.tr (L20_3 m14.2.2.1 ov)) (am_fu - (k + 1) - 1 + 1)
    rw [show am_fu - (k + 1) - 1 + 1 + (k + 1) = am_fu by omega] at this
    rw [this]
    exact L20_4 m14.2.2.1 e1 _
theorem exprT (hT : Tp b len) {h u p : Nat} {X : Cd} {gc gr : am_G} (hc : CS md b len h u p 0 gc) (hq : RQ md b len h X p gr) (h1 : 1 ≤ h) (hX : X.2.2 + 1 ≤ h) (hu : u ≤ h) (hp : p ≤ 50) : XF b len (fX5_readTest gc) (fX12_readExpression (nI 1) gr) gc gr ∨ XO md b len (fX5_readTest gc) (fX12_readExpression (nI 1) gr) True (fun _ => True) h u p X gc gr := by
  obtain ⟨r0, f0⟩ := hq.reset
  have hfu : am_fu = 1048576 := rfl
  rw [RE_1]
  generalize am_si (am_si gr 0 29 (nI 0)) 0 30 (nI 0) = gr0 at *
  have hS : TestOK md b len (nI 1) 64 := testOK hT 64
  rcases hS h u p 0 X [] gc gr0 ⟨hc, r0, by show 0 + 1 ≤ h; omega, by show X.2.2 + 0 + 1 ≤ h; omega, hu, hp, by decide, tb_nil 1⟩ (Or.inr ⟨rfl, rfl⟩) (by decide) with Hf | Ho
  · obtain ⟨h', gc', gr', k, x', z1, z2, z3, z4, z5, z6, z7, z8, z9, z10⟩ := Hf
    have hb' := z5.b hT
    obtain ⟨gr2, e1, e2, e3⟩ := z9.end
    refine Or.inl ⟨h', gc', gr2, z1, z2, z3, z4, z5, ?_, e2, f0.tr (z10.tr e3.P)⟩
    have := z6 (am_fu - k - 1 + 1)
    rw [show am_fu - k - 1 + 1 + k = am_fu by omega] at this
    rw [this]
    exact L20_b z9.1 e1 _
  · obtain ⟨h', u', p', d, D, gc', gr', X', pend, k, z1, ⟨m1, m2, m3, m4, m5, m6, m7, m8, m9, m10, m11, m12, m13, m14, m15, m16, m17⟩, zn⟩ := Ho.md
    have hb' := m2.2.2.2.2.2.2.b hT
    have hin : inn (pend ++ []) = -nI 1 := by
      rw [inn_app (fun q hq => m15.1 q hq)]
      rfl
    have ov := BT_over m14 zn.1 zn.2 hin
    obtain ⟨gr2, e1, e2, e3⟩ := q12_settle (lv := 1) (by decide) (by decide) (tb_nil 1) m14.2.1 m15.1
    obtain ⟨q1, q2, q3, q4, q5⟩ := m15
    refine Or.inr ⟨h', u', p', d, D, gc', gr2, ems X' pend, z1, ?_, m1, m2, m3, m4, m5, m6, m7, m8, m9, m10, f0.tr (m13.tr e3.P), ⟨_, _, m14.z e3 e2⟩, q3, q4, q5, m16, m17, trivial⟩
    have := (m11.tr (L20_2 m14.2.2.1 ov)) (am_fu - (k + 1) - 1 + 1)
    rw [show am_fu - (k + 1) - 1 + 1 + (k + 1) = am_fu by omega] at this
    rw [this]
    exact L20_4 m14.2.2.1 e1 _
end EXPR
