/-! ===== all clauses of a law ===== -/
def LwI (n : Nat) (c : Nat → pCl) (u : Nat) (X : Cd) (gc gr : am_G) : Prop := ∀ i, i < n → okC (c i) ∧ am_I gc 34 (6 * i) = nI ((c i).1 + 1) ∧ am_I gr 10 (8 * i) = nI (c i).1 ∧ ((c i).1 ≠ 3 → ∃ a f l, am_I gc 34 (6 * i + 1) = nI a ∧ VC (am_I gc 35) u a (c i).2.1 ∧ am_I gr 10 (8 * i + 3) = nI f ∧ am_I gr 10 (8 * i + 4) = nI l ∧ VR false X f l (c i).2.1) ∧ (∀ T, (c i).2.2 = some T → ∃ a f l, a < 512 ∧ am_I gc 34 (6 * i + 4) = nI a ∧ VC (am_I gc 35) u a T ∧ am_I gr 10 (8 * i + 5) = nI f ∧ am_I gr 10 (8 * i + 6) = nI l ∧ VR false X f l T) ∧ ((c i).2.2 = none → am_I gc 34 (6 * i + 4) = -1 ∧ am_I gr 10 (8 * i + 6) = am_I gr 10 (8 * i + 5))
theorem LwI.mono {n u u' : Nat} {c c' : Nat → pCl} {X X' : Cd} {gc gr gc' gr' : am_G} (h : LwI n c u X gc gr) (hc : ∀ i, i < n → c' i = c i) (hu : u ≤ u') (hX : pfx X X') (h35 : ∀ i, i < u → am_I gc' 35 i = am_I gc 35 i) (h34 : ∀ k, k < 6 * n → am_I gc' 34 k = am_I gc 34 k) (h10 : ∀ k, k < 8 * n → am_I gr' 10 k = am_I gr 10 k) : LwI n c' u' X' gc' gr' := by
  intro i hi
  obtain ⟨a1, a2, a3, a4, a5, a6⟩ := h i hi
  rw [hc i hi, h34 _ (by omega), h34 _ (by omega), h34 _ (by omega), h10 _ (by omega), h10 _ (by omega), h10 _ (by omega), h10 _ (by omega), h10 _ (by omega)]
  refine ⟨a1, a2, a3, fun z => ?_, fun T hT => ?_, a6⟩
  · obtain ⟨a, f, l, x1, x2, x3, x4, x5⟩ := a4 z
    exact ⟨a, f, l, x1, x2.mono hu h35, x3, x4, x5.mono hX⟩
  · obtain ⟨a, f, l, x0, x1, x2, x3, x4, x5⟩ := a5 T hT
    exact ⟨a, f, l, x0, x1, x2.mono hu h35, x3, x4, x5.mono hX⟩
section LAL
variable {b : Nat → Nat} {len : Nat}
def ZO (b : Nat → Nat) (len : Nat) (Rc' : Option (Int32 × am_G)) (Rr : Option (Unit × am_G)) (n h : Nat) (gc gr : am_G) : Prop :=
  ∃ h' u' p' X' c' gc' gr', Rc' = some (nI 1, gc') ∧ Rr = some ((), gr') ∧ FcQ gc gc' ∧ FrQ gr gr' ∧ CS false b len h' u' p' 0 gc' ∧ RQ false b len h' X' p' gr' ∧ am_I gr' 0 21 = nI (n + 1) ∧ X'.2.2 + 1 ≤ h' ∧ u' ≤ h' ∧ p' ≤ 50 ∧ h < h' ∧ LwI (n + 1) c' u' X' gc' gr'
theorem RLm_F {h X nl : _} {x16 : Int32} {g : am_G} (hq : RQ false b len h X nl g) : ∃ g', RLm x16 0 g = some ((), g') ∧ FBo b len h g' ∧ FrQ g g' := by
  obtain ⟨g1, e1, r1, f1⟩ := hq.mustF
  refine ⟨g1, ?_, r1, f1.Q⟩
  unfold RLm
  rw [show fX12_must 0 g = some ((), g1) from e1, pu_bd, if_neg (show ¬ am_I g1 0 19 = 0 by rw [r1.1]; decide)]
theorem RL_hd {h X nl : _} {g : am_G} (hq : RQ false b len h X nl g) (hL : am_L g 17 = am_L am_gr 17) : fX12_readLaw g = RLk (hdN (tkF b len h) 4) g := by
  have e0 : (-1 : Int32) = hdN (tkF b len h) 0 := by
    unfold hdN
    rw [if_neg (by omega)]
    rfl
  rw [RL_eq, e0, show (0 : Int32) = nI 0 from rfl, headL (K := RLk) hq.tk hL 4 0 am_fu (by decide) (by decide)]
theorem RL_bad {h nl n : Nat} {X : Cd} {g : am_G} (hq : RQ false b len h X nl g) (hL : am_L g 17 = am_L am_gr 17) (h21 : am_I g 0 21 = nI n) (hn : n ≤ 12) (hb : n = 12 ∨ ¬ (1 ≤ tkF b len h ∧ tkF b len h ≤ 4)) : ∃ g', fX12_readLaw g = some ((), g') ∧ FBo b len h g' ∧ FrQ g g' := by
  obtain ⟨g', e, f1, f2⟩ := RLm_F (x16 := hdN (tkF b len h) 4) hq
  refine ⟨g', ?_, f1, f2⟩
  rw [RL_hd hq hL]
  unfold RLk
  rw [pu_jn, pu_jn]
  by_cases z : hdN (tkF b len h) 4 = -1
  · rw [if_pos z]; exact e
  · rw [if_neg z]
    have hn12 : n = 12 := by
      rcases hb with y | y
      · exact y
      · exfalso
        apply z
        unfold hdN
        rw [if_neg y]
        rfl
    rw [h21, hn12, if_pos (show (12 : Int32) ≤ nI 12 by decide)]
    exact e
theorem am_up_at {f : Nat → Int32} {k j : Nat} {x : Int32} (h : j ≠ k) : am_up f k x j = f j := am_up_ne h
theorem lawClause (hT : Tp b len) {n h u p : Nat} {X : Cd} {c : Nat → pCl} {gc gr : am_G} (hn : n < 12) (hc : CS false b len h u p 0 gc) (hq : RQ false b len h X p gr) (h21 : am_I gr 0 21 = nI n) (hX : X.2.2 ≤ h) (hu : u ≤ h) (hp : p ≤ 50) (hL : am_L gr 17 = am_L am_gr 17) (hI : LwI n c u X gc gr) : ZF b len (fX5_readClause (nI n) gc) (fX12_readLaw gr) gc gr ∨ ZO b len (fX5_readClause (nI n) gc) (fX12_readLaw gr) n h gc gr := by
  have hb := hc.2.2.2.2.2.2.b hT
  rw [RC_hd hT hc, if_neg (show ¬ false = true by decide), if_neg (show ¬ false = true by decide)]
  by_cases hk : 1 ≤ tkF b len h ∧ tkF b len h ≤ 4
  · rw [if_pos hk]
    obtain ⟨kk, hkk⟩ : ∃ kk, tkF b len h = kk := ⟨_, rfl⟩
    obtain ⟨c1, fc1, e5⟩ := RC5_hd hn hc hkk (by omega) (by omega)
    rw [hkk] at hk ⊢
    rw [if_neg (show ¬ kk = 5 by omega)] at e5
    rw [e5]
    -- the reference's head
    obtain ⟨gr1, m1, r1, f1⟩ := hq.mustT hT
    have h211 : am_I gr1 0 21 = nI n := by rw [f1.1 0 21 (by omega)]; exact h21
    have hz : fX12_readLaw gr = RLb (nI (kk - 1)) (nI (8 * n)) (am_sr gr1 10 (fun k => if 8 * n + 0 ≤ k ∧ k < 8 * n + 8 then nI 0 else am_I gr1 10 k)) := by
      rw [RL_hd hq hL, hkk]
      have hh : hdN kk 4 = nI (kk - 1) := by unfold hdN; rw [if_pos hk]
      rw [hh]
      unfold RLk
      rw [pu_jn, pu_jn, if_neg (show ¬ nI (kk - 1) = (-1 : Int32) from nI_m1ne (by omega)), h21, if_neg (show ¬ (12 : Int32) ≤ nI n from nI_ge (a := n) (b := 12) hn (by decide))]
      unfold RLm
      rw [show (1 : Int32) = nI 1 from rfl, m1, pu_bd, if_pos (show am_I gr1 0 19 = 0 from r1.b0), pu_let, h211, show (8 : Int32) * nI n = nI (8 * n) from nn_mul 8 n]
      exact zeroL (K := RLb (nI (kk - 1)) (nI (8 * n))) hn 8 0 am_fu gr1 (by decide) (by decide)
    have q1 : RQ false b len (h + 1) X p (am_sr gr1 10 (fun k => if 8 * n + 0 ≤ k ∧ k < 8 * n + 8 then nI 0 else am_I gr1 10 k)) := r1.of (r1.lx.cg (fun j _ _ => by rw [pI_sr_ne _ _ (by decide)]) (fun j => by rw [pI_sr_ne _ _ (by decide)]) rfl) (fun j _ => by rw [pI_sr_ne _ _ (by decide)]) (fun a j h1 h2 => by rw [pI_sr_ne _ _ (by omega)]) rfl rfl
    have fr1 : FrQ gr (am_sr gr1 10 (fun k => if 8 * n + 0 ≤ k ∧ k < 8 * n + 8 then nI 0 else am_I gr1 10 k)) := f1.P.Q.srw _
    have o10 : ∀ k, k < 8 * n → am_I (am_sr gr1 10 (fun k => if 8 * n + 0 ≤ k ∧ k < 8 * n + 8 then nI 0 else am_I gr1 10 k)) 10 k = am_I gr 10 k := fun k hk => by rw [pI_sr_row, if_neg (by omega), f1.1 10 k (by omega)]
    have p21 : am_I (am_sr gr1 10 (fun k => if 8 * n + 0 ≤ k ∧ k < 8 * n + 8 then nI 0 else am_I gr1 10 k)) 0 21 = nI n := by rw [pI_sr_ne _ _ (by decide)]; exact h211
    generalize am_sr gr1 10 (fun k => if 8 * n + 0 ≤ k ∧ k < 8 * n + 8 then nI 0 else am_I gr1 10 k) = gr2 at *
    have q2 := ((q1.s10 (Or.inl rfl) (8 * n) (nI (kk - 1))).s21 (nI (n + 1))).s10 (Or.inl rfl) (8 * n + 3) (nI X.2.2)
    have hb2 : RLb (nI (kk - 1)) (nI (8 * n)) gr2 = (if kk = 4 then RLt (nI (8 * n)) (am_si (am_si (am_si gr2 10 (8 * n) (nI (kk - 1))) 0 21 (nI (n + 1))) 10 (8 * n + 3) (nI X.2.2)) else am_bd (fX12_readExpression (nI 0) (am_si (am_si (am_si gr2 10 (8 * n) (nI (kk - 1))) 0 21 (nI (n + 1))) 10 (8 * n + 3) (nI X.2.2))) fun _ g65 => RLt (nI (8 * n)) g65) := by
      unfold RLb
      rw [pe_gd (show 8 * n < 96 by omega) (by decide), pu_let, pe_clamp (show 8 * n < 2147483648 by omega), pu_let, show am_I (am_si gr2 10 (8 * n) (nI (kk - 1))) 0 21 = nI n from (pe_ine (by decide)).trans p21, show nI n + (1 : Int32) = nI (n + 1) from nI_add n 1, show nI (8 * n) + (3 : Int32) = nI (8 * n + 3) from nI_add _ 3, pe_gd (show 8 * n + 3 < 96 by omega) (by decide), pu_let, pe_clamp (show 8 * n + 3 < 2147483648 by omega), show am_I (am_si (am_si gr2 10 (8 * n) (nI (kk - 1))) 0 21 (nI (n + 1))) 0 23 = nI X.2.2 from ((pe_ik (by decide)).trans (pe_ine (by decide))).trans q1.c.1, pu_jn]
      by_cases h4 : kk = 4
      · rw [if_pos h4, if_pos (show nI (kk - 1) = (3 : Int32) by rw [h4]; rfl)]
      · rw [if_neg h4, if_neg (show ¬ nI (kk - 1) = (3 : Int32) from nne (k := 3) (by omega) (by decide) (by omega))]
        rfl
    rw [hz, hb2]
    have fr2 : FrQ gr (am_si (am_si (am_si gr2 10 (8 * n) (nI (kk - 1))) 0 21 (nI (n + 1))) 10 (8 * n + 3) (nI X.2.2)) := fr1.tr ((((FrQ.rf gr2).si (by omega) _).si (by omega) _).si (by omega) _)
    have w10 : am_I (am_si (am_si (am_si gr2 10 (8 * n) (nI (kk - 1))) 0 21 (nI (n + 1))) 10 (8 * n + 3) (nI X.2.2)) 10 = am_up (am_up (am_I gr2 10) (8 * n) (nI (kk - 1))) (8 * n + 3) (nI X.2.2) := by rw [pI_si_row, pI_si_ne _ _ _ (by decide), pI_si_row]
    have w21 : am_I (am_si (am_si (am_si gr2 10 (8 * n) (nI (kk - 1))) 0 21 (nI (n + 1))) 10 (8 * n + 3) (nI X.2.2)) 0 21 = nI (n + 1) := by rw [pe_ine (by decide), pe_ieq]
    generalize am_si (am_si (am_si gr2 10 (8 * n) (nI (kk - 1))) 0 21 (nI (n + 1))) 10 (8 * n + 3) (nI X.2.2) = gr3 at *
    have r34 : am_I (am_si (am_si gc 29 7 (nI (h + 1))) 34 (6 * n) (nI kk)) 34 = am_up (am_I gc 34) (6 * n) (nI kk) := by rw [pI_si_row, pI_si_ne _ _ _ (by decide)]
    have r35 : am_I (am_si (am_si gc 29 7 (nI (h + 1))) 34 (6 * n) (nI kk)) 35 = am_I gc 35 := by rw [pI_si_ne _ _ _ (by decide), pI_si_ne _ _ _ (by decide)]
    generalize am_si (am_si gc 29 7 (nI (h + 1))) 34 (6 * n) (nI kk) = gc3 at *
    by_cases h4 : kk = 4
    · rw [if_pos h4, if_neg (show ¬ kk ≤ 3 by omega)]
      rcases lawTail hT hn c1 q2 (by omega) (by omega) hp with ⟨h', gc', gr', z1, z2, z3, z4, z5, z6, z7⟩ | ⟨h', u', p', X', To, x, gc', gr', z1, z2, z3, z4, z5, z6, z7, z8, z9, z10, z11, z12, z13, z14, z15, z16, z17⟩
      · exact Or.inl ⟨h', gc', gr', z1, fc1.tr z2, z3, z4, z5, z6, fr2.tr z7⟩
      · refine Or.inr ⟨h', u', p', X', am_up c n (3, (fun _ => none), To), gc', gr', z1, z2, fc1.tr z3, fr2.tr z4, z5, z6, by rw [z7]; exact w21, z8, z10, z11, by omega, ?_⟩
        intro i hi
        by_cases e : i = n
        · subst e
          rw [am_up_eq, z15, z16, r34, w10]
          refine ⟨⟨(show 3 < 4 by decide), ⟨fun _ _ _ => rfl, fun _ _ _ hv => absurd hv (by simp)⟩, fun T hT' => ?_⟩, ?_, ?_, fun z => absurd rfl z, fun T hT' => ?_, fun hn' => ?_⟩
          · rcases z17 with ⟨q1, -, -⟩ | ⟨T', q1, q2, q3, q4, q5, q6⟩
            · have hT2 : To = some T := hT'
              rw [q1] at hT2; exact absurd hT2 (by simp)
            · have hT2 : To = some T := hT'
              rw [q1] at hT2
              rw [← Option.some.inj hT2]
              exact ⟨q5, q6 rfl⟩
          · rw [am_up_at (by omega), am_up_at (by omega), am_up_eq, h4]
          · rw [am_up_at (by omega), am_up_at (by omega), am_up_at (by omega), am_up_at (by omega), am_up_eq, h4]
          · rcases z17 with ⟨q1, -, -⟩ | ⟨T', q1, q2, q3, q4, q5, q6⟩
            · have hT2 : To = some T := hT'
              rw [q1] at hT2; exact absurd hT2 (by simp)
            · have hT2 : To = some T := hT'
              rw [q1] at hT2
              rw [← Option.some.inj hT2]
              exact ⟨u, X.2.2, X'.2.2, by omega, by rw [am_up_eq]; exact q2, q3, by rw [am_up_at (by omega), am_up_eq], by rw [am_up_eq], q4⟩
          · have hn2 : To = none := hn'
            rcases z17 with ⟨q1, q2, q3⟩ | ⟨T', q1, -⟩
            · exact ⟨by rw [am_up_eq]; exact q2, by rw [am_up_eq, am_up_at (by omega), am_up_eq, q3]⟩
            · rw [hn2] at q1; exact absurd q1 (by simp)
        · exact (hI.mono (c' := am_up c n (3, (fun _ => none), To)) (fun j hj => am_up_ne (by omega)) z9 z13 (fun j hj => by rw [z14 j hj, r35]) (fun k hk => by rw [z15, r34, am_up_at (by omega), am_up_at (by omega), am_up_at (by omega)]) (fun k hk => by rw [z16, w10, am_up_at (by omega), am_up_at (by omega), am_up_at (by omega), am_up_at (by omega), am_up_at (by omega), o10 k hk])) i (by omega)
    · rw [if_neg h4, if_pos (show kk ≤ 3 by omega)]
      have ks := kSum hT hn (j := 0) (by decide) c1 q2 (by omega) (by omega) hp
      rcases ks with ⟨h1, gc4, gr4, y1, y2, y3, y4, y5, y6, y7⟩ | ⟨h1, u1, p1, D, gc4, gr4, X1, y1, y2, y3, y4, y5, y6, y7, y8, y9, y10, y11, y12, y13, y14, y15, y16, y17, y18, y19⟩
      · obtain ⟨gr5, t1, t2, t3⟩ := RLt_bad hn y6
        refine Or.inl ⟨h1, gc4, gr5, ?_, fc1.tr y2, y3, y4, ?_, t2, fr2.tr (y7.Q.tr t3)⟩
        · rw [show (0 : Int32) = nI 0 from rfl, y1, pu_bd, RC12_0]
        · rw [y5, pu_bd, t1]
      · rw [show (0 : Int32) = nI 0 from rfl, y1, pu_bd, y2, pu_bd]
        rcases lawTail hT hn y4 y15 y8 y7 y10 with ⟨h', gc', gr', z1, z2, z3, z4, z5, z6, z7⟩ | ⟨h', u', p', X', To, x, gc', gr', z1, z2, z3, z4, z5, z6, z7, z8, z9, z10, z11, z12, z13, z14, z15, z16, z17⟩
        · exact Or.inl ⟨h', gc', gr', z1, fc1.tr (y3.tr z2), z3, z4, z5, z6, fr2.tr (y14.Q.tr z7)⟩
        · have y10' : am_I gr4 10 = am_I gr3 10 := funext fun k => y14.1 10 k (by omega) (by omega)
          refine Or.inr ⟨h', u', p', X', am_up c n (kk - 1, D, To), gc', gr', z1, z2, fc1.tr (y3.tr z3), fr2.tr (y14.Q.tr z4), z5, z6, by rw [z7, y14.1 0 21 (by omega) (by omega)]; exact w21, z8, z10, z11, by omega, ?_⟩
          intro i hi
          by_cases e : i = n
          · subst e
            rw [am_up_eq, z15, z16, y11, r34, y10', w10]
            refine ⟨⟨by show kk - 1 < 4; omega, y19 rfl, fun T hT' => ?_⟩, ?_, ?_, fun _ => ⟨u, X.2.2, X1.2.2, ?_, ?_, ?_, ?_, ?_⟩, fun T hT' => ?_, fun hn' => ?_⟩
            · rcases z17 with ⟨q1, -, -⟩ | ⟨T', q1, q2, q3, q4, q5, q6⟩
              · have hT2 : To = some T := hT'
                rw [q1] at hT2; exact absurd hT2 (by simp)
              · have hT2 : To = some T := hT'
                rw [q1] at hT2
                rw [← Option.some.inj hT2]
                exact ⟨q5, q6 rfl⟩
            · rw [am_up_at (by omega), am_up_at (by omega), am_up_at (by omega), am_up_eq]
              show nI kk = nI (kk - 1 + 1)
              rw [show kk - 1 + 1 = kk by omega]
            · rw [am_up_at (by omega), am_up_at (by omega), am_up_at (by omega), am_up_at (by omega), am_up_eq]
            · rw [am_up_at (by omega), am_up_at (by omega), show 6 * i + 1 = 6 * i + 1 + 0 from rfl, am_up_eq]
            · exact y13.mono z9 (fun j hj => z14 j hj)
            · rw [am_up_at (by omega), am_up_at (by omega), am_up_at (by omega), am_up_eq]
            · rw [am_up_at (by omega), am_up_at (by omega), am_up_eq]
            · exact y16.mono z13
            · rcases z17 with ⟨q1, -, -⟩ | ⟨T', q1, q2, q3, q4, q5, q6⟩
              · have hT2 : To = some T := hT'
                rw [q1] at hT2; exact absurd hT2 (by simp)
              · have hT2 : To = some T := hT'
                rw [q1] at hT2
                rw [← Option.some.inj hT2]
                have hb1 := y4.2.2.2.2.2.2.b hT
                exact ⟨u1, X1.2.2, X'.2.2, by omega, by rw [am_up_eq]; exact q2, q3, by rw [am_up_at (by omega), am_up_eq], by rw [am_up_eq], q4⟩
            · have hn2 : To = none := hn'
              rcases z17 with ⟨q1, q2, q3⟩ | ⟨T', q1, -⟩
              · exact ⟨by rw [am_up_eq]; exact q2, by rw [am_up_eq, am_up_at (by omega), am_up_eq, q3]⟩
              · rw [hn2] at q1; exact absurd q1 (by simp)
          · exact (hI.mono (c' := am_up c n (kk - 1, D, To)) (fun j hj => am_up_ne (by omega)) (show u ≤ u' by omega) (y17.tr z13) (fun j hj => by rw [z14 j (by omega), y12 j hj, r35]) (fun k hk => by rw [z15, y11, r34, am_up_at (by omega), am_up_at (by omega), am_up_at (by omega), am_up_at (by omega)]) (fun k hk => by rw [z16, y10', w10, am_up_at (by omega), am_up_at (by omega), am_up_at (by omega), am_up_at (by omega), am_up_at (by omega), o10 k hk])) i (by omega)
  · rw [if_neg hk]
    obtain ⟨gr', e1, e2, e3⟩ := RL_bad hq hL h21 (by omega) (Or.inr hk)
    exact Or.inl ⟨h, gc, gr', rfl, FcQ.rf gc, hc.1, hc.2.2.2.2.2.2, e1, e2, e3⟩
end LAL
