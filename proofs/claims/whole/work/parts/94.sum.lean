/-! ===== sums ===== -/
theorem ems_app : ∀ (l m : List (Nat × Nat)) (X : Cd), ems X (l ++ m) = ems (ems X l) m
  | [], _, _ => rfl
  | q :: l, m, X => by rw [List.cons_append, ems, ems, ems_app l m]
theorem em1_op {X : Cd} {o : Nat} (ho : o < 29) : em1 X (o, 0) = emt X o 0 := by
  unfold em1
  rw [if_neg]
  intro z
  rcases z with z | z
  · have : o = 29 := z; omega
  · have : o = 30 := z; omega
theorem PdR.bin {md : Bool} {X X1 X2 : Cd} {pend1 pend2 : List (Nat × Nat)} {h h1 h2 lv lv2 d e o x : Nat} {D E : pD} (H1 : PdR md X X1 pend1 h h1 lv d D) (H2 : PdR md (ems X1 pend1) X2 pend2 (h1 + 1) h2 lv2 e E) (hlv : lv ≤ lv2) (ho : lv ≤ bnd o) (hx : x < 8) (hox : o = 20 + x) (he : 0 < e) (hh : h ≤ h1) : PdR md X X2 (pend2 ++ [(o, 0)]) h h2 lv (max d (e + 1)) (dBin x D E) := by
  obtain ⟨a1, a2, a3, a4, a5⟩ := H1
  obtain ⟨b1, b2, b3, b4, b5⟩ := H2
  have ee : ems X2 (pend2 ++ [(o, 0)]) = emt (ems X2 pend2) o 0 := by
    rw [ems_app, ems, ems, em1_op (by omega)]
  have l1 := a3.1
  have l2 := b3.1
  unfold PdR
  rw [ee]
  generalize ems X1 pend1 = Y1 at *
  generalize ems X2 pend2 = Y2 at *
  have u1 : ∀ i, i < Y2.2.2 → (emt Y2 o 0).1 i = Y2.1 i ∧ (emt Y2 o 0).2.1 i = Y2.2.1 i := fun i hi => ⟨am_up_ne (by omega), am_up_ne (by omega)⟩
  refine ⟨fun q hq => ?_, ?_, ?_, fun i hi => ?_, ?_⟩
  · rcases List.mem_append.mp hq with z | z
    · exact Nat.le_trans hlv (b1 q z)
    · rw [List.mem_singleton.mp z]; exact ho
  · rw [List.length_append, List.length_singleton]; omega
  · have s1 : SegR md (emt Y2 o 0).1 (emt Y2 o 0).2.1 X.2.2 Y1.2.2 d D := a3.mono (Nat.le_refl _) (fun i _ hi => ⟨(u1 i (by omega)).1.trans (b4 i hi).1, (u1 i (by omega)).2.trans (b4 i hi).2⟩)
    have s2 : SegR md (emt Y2 o 0).1 (emt Y2 o 0).2.1 Y1.2.2 Y2.2.2 e E := b3.mono (Nat.le_refl _) (fun i _ hi => u1 i hi)
    exact s1.bin s2 he hx (by show am_up Y2.1 Y2.2.2 o Y2.2.2 = 20 + x; rw [am_up_eq, hox])
  · have := u1 i (by omega)
    have := b4 i (by omega)
    have := a4 i hi
    simp_all
  · show Y2.2.2 + 1 + h ≤ X.2.2 + h2
    omega
/-- all that holds between two points of a reading -/
def MdP (md : Bool) (b : Nat → Nat) (len : Nat) (a1 x0 xT : Int32) (lv : Nat) (tst : Prop) (h u p bk : Nat) (X : Cd) (base : List (Nat × Nat)) (gc gr : am_G) (h' u' p' d : Nat) (D : pD) (gc' gr' : am_G) (X' : Cd) (pend : List (Nat × Nat)) (k : Nat) : Prop :=
  FcP gc gc' ∧ CS md b len h' u' p' bk gc' ∧ h < h' ∧ u ≤ u' ∧ u' + h ≤ u + h' ∧ (∀ i, i < u → am_I gc' 35 i = am_I gc 35 i) ∧ SegC (am_I gc' 35) u u' d D ∧ 0 < d ∧ d + p ≤ p' ∧ p' ≤ 50 ∧
    Rn a1 k x0 gr xT gr' ∧ k ≤ 2 * (h' - h) ∧ FrP gr gr' ∧ RS md b len h' X' p' bk (pend ++ base) gr' ∧ PdR md X X' pend h h' lv d D ∧ (tst → dT D) ∧ (md = false → okD D)
theorem OkP.mk {md : Bool} {b : Nat → Nat} {len : Nat} {a1 x0 xT a : Int32} {f N lv : Nat} {tst : Prop} {nt : Nat → Prop} {h u p bk : Nat} {X : Cd} {base : List (Nat × Nat)} {gc gr : am_G} {h' u' p' d : Nat} {D : pD} {gc' gr' : am_G} {X' : Cd} {pend : List (Nat × Nat)} {k : Nat} (e : fX5_rd f N a gc = some (nI 1, gc')) (hm : MdP md b len a1 x0 xT lv tst h u p bk X base gc gr h' u' p' d D gc' gr' X' pend k) (hn : nt (tkF b len h')) : OkP md b len a1 f N a x0 xT lv tst nt h u p bk X base gc gr := by
  obtain ⟨m1, m2, m3, m4, m5, m6, m7, m8, m9, m10, m11, m12, m13, m14, m15, m16, m17⟩ := hm
  exact ⟨h', u', p', d, D, gc', gr', X', pend, k, e, m1, m2, m3, m4, m5, m6, m7, m8, m9, m10, m11, m12, m13, m14, m15, m16, m17, hn⟩
theorem OkP.md {md : Bool} {b : Nat → Nat} {len : Nat} {a1 x0 xT a : Int32} {f N lv : Nat} {tst : Prop} {nt : Nat → Prop} {h u p bk : Nat} {X : Cd} {base : List (Nat × Nat)} {gc gr : am_G} (ho : OkP md b len a1 f N a x0 xT lv tst nt h u p bk X base gc gr) : ∃ h' u' p' d D gc' gr' X' pend k, fX5_rd f N a gc = some (nI 1, gc') ∧ MdP md b len a1 x0 xT lv tst h u p bk X base gc gr h' u' p' d D gc' gr' X' pend k ∧ nt (tkF b len h') := by
  obtain ⟨h', u', p', d, D, gc', gr', X', pend, k, e, m1, m2, m3, m4, m5, m6, m7, m8, m9, m10, m11, m12, m13, m14, m15, m16, m17, hn⟩ := ho
  exact ⟨h', u', p', d, D, gc', gr', X', pend, k, e, ⟨m1, m2, m3, m4, m5, m6, m7, m8, m9, m10, m11, m12, m13, m14, m15, m16, m17⟩, hn⟩
theorem okD.bin {x : Nat} {D E : pD} (h : okD D) (h' : okD E) : okD (dBin x D E) := by
  refine ⟨fun K K' hK => ?_, fun K v hK hv => ?_⟩
  · unfold dBin
    rw [h.1 K K' hK, h'.1 K K' hK]
  · unfold dBin at hv
    cases e1 : D K with
    | none => rw [e1] at hv; exact absurd hv (by simp)
    | some a =>
      rw [e1] at hv
      cases e2 : E K with
      | none => rw [e2] at hv; exact absurd hv (by simp)
      | some c =>
        rw [e2] at hv
        exact jv_bd hv
section SIM2
variable {md : Bool} {b : Nat → Nat} {len : Nat} {a1 : Int32}
theorem leafOk {f h u p bk : Nat} {X : Cd} {base : List (Nat × Nat)} {gc gr gc' gr' : am_G} {x0 : Int32} {h' o a : Nat} {D : pD} (e : fX5_rd f 7 0 gc = some (nI 1, gc')) (hf : FcP gc gc') (hc : CS md b len h' (u + 1) (p + 1) bk gc') (hh : h < h') (hk : ∀ i, i < u → am_I gc' 35 i = am_I gc 35 i) (sc : SegC (am_I gc' 35) u (u + 1) 1 D) (hp : p + 1 ≤ 50) (hr : Rn a1 1 x0 gr (nI 3) gr') (hfr : FrP gr gr') (hs : RS md b len h' (emt X o a) (p + 1) bk base gr') (sr : SegR md (emt X o a).1 (emt X o a).2.1 X.2.2 (X.2.2 + 1) 1 D) (hD : md = false → okD D) : OkP md b len a1 f 7 0 x0 (nI 3) 7 False (fun _ => True) h u p bk X base gc gr :=
  ⟨h', u + 1, p + 1, 1, D, gc', gr', emt X o a, [], 1, e, hf, hc, hh, by omega, by omega, hk, sc, by decide, by omega, hp, hr, by omega, hfr, hs, ⟨fun q hq => (by cases hq), by show 0 + h ≤ h'; omega, sr, fun i hi => ⟨am_up_ne (by omega), am_up_ne (by omega)⟩, by show X.2.2 + 1 + h ≤ X.2.2 + h'; omega⟩, fun z => z.elim, hD, trivial⟩
theorem CBr_hd {rec : Nat → Int32 → am_G → Option (Int32 × am_G)} {h u p bk : Nat} {g : am_G} (hs : CS md b len h u p bk g) (h8 : bk < 8) (hR : Rch b len (h + 1)) {c : Nat} (hc : c = 41 ∨ c = 93) : CS md b len (h + 1) u p (bk + 1) (am_si (am_si g 29 9 (nI (bk + 1))) 29 7 (nI (h + 1))) ∧ FcP g (am_si (am_si g 29 9 (nI (bk + 1))) 29 7 (nI (h + 1))) ∧ bX5_readBracket rec (nI c) g = (am_bd (rec (if c = 41 then 0 else 5) 0 (am_si (am_si g 29 9 (nI (bk + 1))) 29 7 (nI (h + 1)))) fun v g13 => if v = 0 then some ((0 : Int32), g13) else
      am_bd (fX5_pass (nI (128 + c)) g13) fun v7 g8 =>
      if v7 = 0 then (
        some ((0 : Int32), g8))
      else (
        am_let (am_si g8 29 9 ((am_I g8 29 9) - (1 : Int32))) fun g11 =>
        some ((1 : Int32), g11))) := by
  have hf : FcP g (am_si (am_si g 29 9 (nI (bk + 1))) 29 7 (nI (h + 1))) := ((FcP.rf g).si (by omega) _).si (by omega) _
  refine ⟨hs.cg hf (pe_ieq _ _ _ _) (by rw [pe_ik (by decide), pe_ik (by decide)]; exact hs.2.1) (by rw [pe_ik (by decide), pe_ik (by decide)]; exact hs.2.2.1) (by rw [pe_ik (by decide), pe_ieq]) hR, hf, ?_⟩
  unfold bX5_readBracket
  rw [hs.2.2.2.1, if_pos (show nI bk < (8 : Int32) from nI_lt (a := bk) (b := 8) h8 (by decide)), pu_let, pu_let, pe_ik (by decide), hs.1, show nI bk + (1 : Int32) = nI (bk + 1) from nI_add bk 1, show nI h + (1 : Int32) = nI (h + 1) from nI_add h 1, pu_jn, show (128 : Int32) + nI c = nI (128 + c) from nI_add 128 c]
  rcases hc with rfl | rfl
  · rw [if_pos (show nI 41 = (41 : Int32) from rfl), if_pos (show 41 = 41 from rfl)]
  · rw [if_neg (show ¬ nI 93 = (41 : Int32) by decide), if_neg (show ¬ 93 = 41 by decide)]
theorem CBr_full {rec : Nat → Int32 → am_G → Option (Int32 × am_G)} {h u p : Nat} {g : am_G} (hs : CS md b len h u p 8 g) (a : Int32) : bX5_readBracket rec a g = some (nI 0, g) := by
  unfold bX5_readBracket
  rw [hs.2.2.2.1, if_neg (show ¬ nI 8 < (8 : Int32) by decide)]
  rfl
theorem emtX (X : Cd) (o a : Nat) : (emt X o a).1 X.2.2 = o ∧ (emt X o a).2.1 X.2.2 = a := ⟨am_up_eq, am_up_eq⟩
theorem okD_c {m : Nat} (h : m ≤ 1000) : okD (fun _ => some (nI m)) := ⟨fun _ _ _ => rfl, fun K v _ hv => by
  rw [← Option.some.inj hv]
  unfold pBd
  rw [nn_toInt (by omega)]
  omega⟩
theorem okD_k {c : Nat} (h1 : 13 ≤ c) (h2 : c ≤ 22) : okD (fun K => some (K c)) := ⟨fun K K' hK => by show some (K c) = some (K' c); rw [hK c h1 h2], fun K v hK hv => by
  rw [← Option.some.inj hv]
  exact hK c h1 h2⟩
theorem tb.le {base : List (Nat × Nat)} {lv lv' : Nat} (h : tb base lv) (hl : lv ≤ lv') : tb base lv' := fun q l e => Nat.lt_of_lt_of_le (h q l e) hl
theorem part_of (hT : Tp b len) {f : Nat} (hS : SumOK md b len a1 f) : PartOK md b len a1 (f + 2) := by
  intro h u p bk X base gc gr x0 hP hst hf
  obtain ⟨hc, hr, l1, l2, l3, l4, l5, l6⟩ := hP
  have hR := hc.2.2.2.2.2.2
  have hl400 := hR.b hT
  have hlt := tk_lt (i := h) hT
  have hrd : fX5_rd (f + 2) 7 0 gc = bX5_readPart (fX5_rd (f + 1)) gc := rfl
  have hbr : ∀ g, fX5_rd (f + 1) 3 (nI 93) g = bX5_readBracket (fX5_rd f) (nI 93) g := fun _ => rfl
  have hu6 : ∃ x, am_I gc 29 6 = nI x ∧ x ≤ 512 := ⟨u, hc.2.1, by omega⟩
  by_cases h219 : tkF b len h = 219
  · have hR1 : Rch b len (h + 1) := hR.nx (by omega)
    have hb1 := hR1.b hT
    by_cases h8 : bk < 8
    · obtain ⟨gr1, e1, r1, f1⟩ := RP_open hT hr h219 h8 (by omega)
      obtain ⟨c1, fc1, hbre⟩ := CBr_hd (rec := fX5_rd f) hc h8 hR1 (c := 93) (Or.inr rfl)
      rw [if_neg (show ¬ 93 = 41 by decide)] at hbre
      have hk1 : ∀ i, am_I (am_si (am_si gc 29 9 (nI (bk + 1))) 29 7 (nI (h + 1))) 35 i = am_I gc 35 i := fun i => by rw [pe_ine (by decide), pe_ine (by decide)]
      generalize am_si (am_si gc 29 9 (nI (bk + 1))) 29 7 (nI (h + 1)) = gc1 at *
      have htb : tb ((32, 0) :: base) 5 := by intro q l e; injection e with e1 e2; rw [← e1]; decide
      rcases hS (h + 1) u p (bk + 1) X ((32, 0) :: base) gc1 gr1 (nI 1) ⟨c1, r1, by rw [List.length_cons]; omega, by rw [emc_an (by decide)]; omega, by omega, l4, by omega, htb⟩ (Or.inl rfl) (by omega) with Hf | Ho
      · obtain ⟨h', gc', gr', k, x', z1, z2, z3, z4, z5, z6, z7, z8, z9, z10⟩ := Hf
        refine Or.inl ⟨h', gc', gr', 1 + k, x', ?_, fc1.tr z2, z3, z4, z5, (hst.run hr e1).tr z6, by omega, by omega, z9, f1.tr z10⟩
        rw [hrd]
        refine CP_br hT hc h219 (Or.inl rfl) ?_
        rw [hbr, hbre, z1, pu_bd, if_pos (show nI 0 = (0 : Int32) from rfl)]
        rfl
      · obtain ⟨h', u', p', d, D, gc', gr', X', pend, k, z1, ⟨m1, m2, m3, m4, m5, m6, m7, m8, m9, m10, m11, m12, m13, m14, m15, m16, m17⟩, zn⟩ := Ho.md
        have hlt' := tk_lt (i := h') hT
        have hb' := m2.2.2.2.2.2.2.b hT
        by_cases hq : tkF b len h' = 221
        · obtain ⟨pa, ca⟩ := q5_passT hT m2 hq (by decide)
          obtain ⟨gr2, y1, y2, y3⟩ := BS_sq a1 hT m14 m15.1 hq h8
          have fc2 : FcP gc' (am_si (am_si gc' 29 7 (nI (h' + 1))) 29 9 (nI bk)) := ((FcP.rf gc').si (by omega) _).si (by omega) _
          have c2 : CS md b len (h' + 1) u' p' bk (am_si (am_si gc' 29 7 (nI (h' + 1))) 29 9 (nI bk)) := ca.cg ((FcP.rf _).si (by omega) _) (by rw [pe_ik (by decide)]; exact ca.1) (by rw [pe_ik (by decide)]; exact ca.2.1) (by rw [pe_ik (by decide)]; exact ca.2.2.1) (pe_ieq _ _ _ _) ca.2.2.2.2.2.2
          have e35 : am_I (am_si (am_si gc' 29 7 (nI (h' + 1))) 29 9 (nI bk)) 35 = am_I gc' 35 := by rw [pI_si_ne _ _ _ (by decide), pI_si_ne _ _ _ (by decide)]
          have hres : fX5_rd (f + 2) 7 0 gc = some (nI 1, am_si (am_si gc' 29 7 (nI (h' + 1))) 29 9 (nI bk)) := by
            rw [hrd]
            refine CP_br hT hc h219 (Or.inr rfl) ?_
            rw [hbr, hbre, z1, pu_bd, if_neg (show ¬ nI 1 = (0 : Int32) by decide), show 128 + 93 = 221 from rfl, pa, pu_bd, if_neg (show ¬ nI 1 = (0 : Int32) by decide), pu_let, ca.2.2.2.1, show nI (bk + 1) - (1 : Int32) = nI bk from nI_ms _]
            rfl
          obtain ⟨q1, q2, q3, q4, q5⟩ := m15
          exact Or.inr (OkP.mk (k := 1 + k + 1) (pend := []) hres ⟨fc1.tr (m1.tr fc2), c2, by omega, m4, by omega, fun i hi => by rw [e35, m6 i hi, hk1], by rw [e35]; exact m7, m8, m9, m10, ((hst.run hr e1).tr m11).tr (L20_3 m14.2.2.1 y1), by omega, f1.tr (m13.tr y3), y2, ⟨fun q hq => (by cases hq), by show 0 + h ≤ h' + 1; omega, q3, q4, by show (ems X' pend).2.2 + h ≤ X.2.2 + (h' + 1); omega⟩, m16, m17⟩ trivial)
        · obtain ⟨gr2, y1, y2, y3⟩ := BS_sqF a1 m14 (by rw [inn_app (fun q hq => by have := m15.1 q hq; omega)]; rfl) zn hq
          refine Or.inl ⟨h', gc', gr2, 1 + k + 1, nI 3, ?_, fc1.tr m1, m2.1, ⟨u', m2.2.1, by omega⟩, m2.2.2.2.2.2.2, ((hst.run hr e1).tr m11).tr (L20_3 m14.2.2.1 y1), by omega, by omega, y2, f1.tr (m13.tr y3)⟩
          rw [hrd]
          refine CP_br hT hc h219 (Or.inl rfl) ?_
          rw [hbr, hbre, z1, pu_bd, if_neg (show ¬ nI 1 = (0 : Int32) by decide), q5_passF hT m2 (show tkF b len h' ≠ 128 + 93 by omega) (by decide), pu_bd, if_pos (show nI 0 = (0 : Int32) from rfl)]
          rfl
    · obtain rfl : bk = 8 := by omega
      obtain ⟨gr1, e1, r1, f1⟩ := RP_full hr h219 (by omega) (by omega)
      refine Or.inl ⟨h, gc, gr1, 1, nI 1, ?_, FcP.rf gc, hc.1, hu6, hR, hst.run hr e1, by omega, Nat.le_refl _, r1, f1⟩
      rw [hrd]
      exact CP_br hT hc h219 (Or.inl rfl) (by rw [hbr]; exact CBr_full hc _)
  · by_cases hp : p < 50
    · obtain ⟨c1, fc1, heq⟩ := CP_one (rec := fX5_rd (f + 1)) hT hc h219 hp
      have hk1 : ∀ i, am_I (am_si gc 29 8 (nI (p + 1))) 35 i = am_I gc 35 i := fun i => by rw [pe_ine (by decide)]
      generalize am_si gc 29 8 (nI (p + 1)) = gc1 at *
      have hu1 : ∃ x, am_I gc1 29 6 = nI x ∧ x ≤ 512 := ⟨u, c1.2.1, by omega⟩
      by_cases hnum : 1000 ≤ tkF b len h ∧ tkF b len h ≤ 2000
      · obtain ⟨gc', e1, c2, f2, s2, k2⟩ := CP_add c1 (k := 1) (w := tkF b len h - 1000) (by decide) (by omega) (by omega) (by omega)
        obtain ⟨gr', y1, y2, y3⟩ := RP_leaf hT hr (o := 0) (a := tkF b len h - 1000) (Or.inl ⟨hnum.1, hnum.2, rfl, rfl⟩) hp (by omega)
        refine Or.inr (leafOk (D := fun _ => some (nI (tkF b len h - 1000))) ?_ (fc1.tr f2) c2 (by omega) (fun i hi => by rw [k2 i hi, hk1]) ?_ (by omega) (hst.run hr y1) y3 y2 ?_ (fun _ => okD_c (by omega)))
        · rw [hrd, heq, if_pos hnum, ← e1, show nI (tkF b len h) - (1000 : Int32) = nI (tkF b len h - 1000) from nn_sub (a := tkF b len h) (b := 1000) hnum.1]
          rfl
        · have := SegC.num (st := am_I gc' 35) (a := u) s2 (by omega) (by omega)
          rw [show (1024 * 1 + (tkF b len h - 1000)) % 1024 = tkF b len h - 1000 by omega] at this
          exact this
        · exact SegR.leaf (V := fun _ => nI (tkF b len h - 1000)) (fun K => Or.inl ⟨(emtX X _ _).1, by rw [(emtX X _ _).2]⟩)
      · by_cases hw : (md = false ∧ 13 ≤ tkF b len h ∧ tkF b len h ≤ 22) ∨ (md = true ∧ 22 ≤ tkF b len h ∧ tkF b len h ≤ 26)
        · obtain ⟨gc', e1, c2, f2, s2, k2⟩ := CPt_word hT c1 hw (by omega)
          have hres : fX5_rd (f + 2) 7 0 gc = some (nI 1, gc') := by rw [hrd, heq, if_neg hnum]; exact e1
          have sc : SegC (am_I gc' 35) u (u + 1) 1 (fun K => some (K (tkF b len h))) := by
            have := SegC.kn (st := am_I gc' 35) (a := u) s2 (by omega) (by omega) (by omega)
            rw [show (1024 * 2 + tkF b len h) % 1024 = tkF b len h by omega] at this
            exact this
          rcases hw with ⟨rfl, w1, w2⟩ | ⟨rfl, w1, w2⟩
          · obtain ⟨j, j1, j2, -, j4⟩ := ixL_in _ w1 w2
            obtain ⟨gr', y1, y2, y3⟩ := RP_leaf hT hr (o := j) (a := 0) (Or.inr (Or.inl ⟨rfl, w1, w2, rfl, j1, j2, j4⟩)) hp (by omega)
            refine Or.inr (leafOk (D := fun K => some (K (tkF b len h))) hres (fc1.tr f2) c2 (by omega) (fun i hi => by rw [k2 i hi, hk1]) sc (by omega) (hst.run hr y1) y3 y2 ?_ (fun _ => okD_k w1 w2))
            exact SegR.leaf (V := fun K => K (tkF b len h)) (fun K => Or.inr (Or.inl ⟨rfl, by rw [(emtX X _ _).1]; exact j1, by rw [(emtX X _ _).1]; exact j2, by rw [(emtX X _ _).1, j4]⟩))
          · obtain ⟨gr', y1, y2, y3⟩ := RP_leaf hT hr (o := tkF b len h - 21) (a := 0) (Or.inr (Or.inr ⟨rfl, w1, w2, rfl, rfl⟩)) hp (by omega)
            refine Or.inr (leafOk (D := fun K => some (K (tkF b len h))) hres (fc1.tr f2) c2 (by omega) (fun i hi => by rw [k2 i hi, hk1]) sc (by omega) (hst.run hr y1) y3 y2 ?_ (fun z => absurd z (by decide)))
            exact SegR.leaf (V := fun K => K (tkF b len h)) (fun K => Or.inr (Or.inr (Or.inl ⟨rfl, by rw [(emtX X _ _).1]; omega, by rw [(emtX X _ _).1]; omega, by rw [(emtX X _ _).1, show 21 + (tkF b len h - 21) = tkF b len h by omega]⟩)))
        · by_cases hsl : md = true ∧ (tkF b len h = 21 ∨ tkF b len h = 27)
          · obtain ⟨rfl, hsl⟩ := hsl
            obtain ⟨q1, q2⟩ := CPt_slope hT c1 hsl (by omega)
            rcases RP_slope hT hr hsl hp (by omega) with ⟨gr', n1, n2, y1, y2, y3⟩ | ⟨gr', n1, y1, y2, y3⟩
            · obtain ⟨gc', e1, c2, f2, s2, k2⟩ := q1 ⟨n1, n2⟩
              have hres : fX5_rd (f + 2) 7 0 gc = some (nI 1, gc') := by rw [hrd, heq, if_neg hnum]; exact e1
              obtain ⟨sl, hsl2, es, eo⟩ : ∃ sl, (sl = 28 ∨ sl = 34) ∧ (if tkF b len h = 21 then 28 else 34) = sl ∧ ((if tkF b len h = 21 then 6 else 7) = 6 ∧ sl = 28 ∨ (if tkF b len h = 21 then 6 else 7) = 7 ∧ sl = 34) := by
                by_cases e : tkF b len h = 21
                · exact ⟨28, Or.inl rfl, by rw [if_pos e], Or.inl ⟨by rw [if_pos e], rfl⟩⟩
                · exact ⟨34, Or.inr rfl, by rw [if_neg e], Or.inr ⟨by rw [if_neg e], rfl⟩⟩
              rw [es] at s2
              have sc : SegC (am_I gc' 35) u (u + 1) 1 (fun K => some (K (sl + (tkF b len (h + 1) - 1000)))) := by
                have := SegC.kn (st := am_I gc' 35) (a := u) s2 (by omega) (by omega) (by omega)
                rw [show (1024 * 2 + (sl + (tkF b len (h + 1) - 1000))) % 1024 = sl + (tkF b len (h + 1) - 1000) by omega] at this
                exact this
              refine Or.inr (leafOk (D := fun K => some (K (sl + (tkF b len (h + 1) - 1000)))) hres (fc1.tr f2) c2 (by omega) (fun i hi => by rw [k2 i hi, hk1]) sc (by omega) (hst.run hr y1) y3 y2 ?_ (fun z => absurd z (by decide)))
              rcases eo with ⟨eo, rfl⟩ | ⟨eo, rfl⟩
              · exact SegR.leaf (V := fun K => K (28 + (tkF b len (h + 1) - 1000))) (fun K => Or.inr (Or.inr (Or.inr (Or.inl ⟨rfl, by rw [(emtX X _ _).1]; exact eo, by rw [(emtX X _ _).2]; omega, by rw [(emtX X _ _).2]⟩))))
              · exact SegR.leaf (V := fun K => K (34 + (tkF b len (h + 1) - 1000))) (fun K => Or.inr (Or.inr (Or.inr (Or.inr ⟨rfl, by rw [(emtX X _ _).1]; exact eo, by rw [(emtX X _ _).2]; omega, by rw [(emtX X _ _).2]⟩))))
            · obtain ⟨gc', e1, c2, f2⟩ := q2 n1
              refine Or.inl ⟨h + 1, gc', gr', 1, nI 3, ?_, fc1.tr f2, c2.1, ⟨u, c2.2.1, by omega⟩, c2.2.2.2.2.2.2, hst.run hr y1, by omega, by omega, y2, y3⟩
              rw [hrd, heq, if_neg hnum]
              exact e1
          · have hbad : (md = false ∧ ¬ (13 ≤ tkF b len h ∧ tkF b len h ≤ 22)) ∨ (md = true ∧ ¬ (21 ≤ tkF b len h ∧ tkF b len h ≤ 27)) := by
              cases md
              · exact Or.inl ⟨rfl, fun z => hw (Or.inl ⟨rfl, z⟩)⟩
              · refine Or.inr ⟨rfl, fun z => ?_⟩
                have n1 : ¬ (22 ≤ tkF b len h ∧ tkF b len h ≤ 26) := fun y => hw (Or.inr ⟨rfl, y⟩)
                have n2 : ¬ (tkF b len h = 21 ∨ tkF b len h = 27) := fun y => hsl ⟨rfl, y⟩
                omega
            obtain ⟨gr', y1, y2, y3⟩ := RP_bad hr h219 (Or.inr (by
              intro z
              rcases z with z | ⟨z1, z2⟩ | ⟨z1, z2⟩
              · exact hnum z
              · rcases hbad with ⟨_, w⟩ | ⟨w, _⟩
                · exact w z2
                · rw [w] at z1; exact absurd z1 (by decide)
              · rcases hbad with ⟨w, _⟩ | ⟨_, w⟩
                · rw [w] at z1; exact absurd z1 (by decide)
                · exact w z2)) (by omega)
            refine Or.inl ⟨h, gc1, gr', 1, nI 3, ?_, fc1, c1.1, hu1, hR, hst.run hr y1, by omega, Nat.le_refl _, y2, y3⟩
            rw [hrd, heq, if_neg hnum]
            exact CPt_bad hT c1 hbad
    · obtain rfl : p = 50 := by omega
      obtain ⟨gr', y1, y2, y3⟩ := RP_bad hr h219 (Or.inl (Nat.le_refl _)) (by omega)
      refine Or.inl ⟨h, gc, gr', 1, nI 3, ?_, FcP.rf gc, hc.1, hu6, hR, hst.run hr y1, by omega, Nat.le_refl _, y2, y3⟩
      rw [hrd]
      exact CP_full hT hc h219
end SIM2
