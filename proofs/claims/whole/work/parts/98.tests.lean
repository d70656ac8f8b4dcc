/-! ===== tests: both, or ===== -/
def dAO (o : Nat) (D E : pD) : pD := if o = 29 then dAnd D E else dOr D E
theorem PdR.ao {md : Bool} {X X1 X2 : Cd} {pend1 pend2 : List (Nat × Nat)} {h h1 h2 lv lv2 d e o : Nat} {D E : pD} (H1 : PdR md X X1 pend1 h h1 lv d D) (H2 : PdR md (emt (ems X1 pend1) o 0) X2 pend2 (h1 + 1) h2 lv2 e E) (hlv : lv ≤ lv2) (ho : o = 29 ∨ o = 30) (hol : lv ≤ bnd o) (hd : 0 < d) (hh : h ≤ h1) : PdR md X X2 (pend2 ++ [(o, (ems X1 pend1).2.2)]) h h2 lv (max d e) (dAO o D E) := by
  obtain ⟨a1, a2, a3, a4, a5⟩ := H1
  obtain ⟨b1, b2, b3, b4, b5⟩ := H2
  generalize ems X1 pend1 = Y1 at *
  have ee : ems X2 (pend2 ++ [(o, Y1.2.2)]) = ((ems X2 pend2).1, am_up (ems X2 pend2).2.1 Y1.2.2 (ems X2 pend2).2.2, (ems X2 pend2).2.2) := by
    rw [ems_app, ems, ems, em1, if_pos (show (o, Y1.2.2).1 = 29 ∨ (o, Y1.2.2).1 = 30 from ho)]
  have l1 := a3.1
  have l2 := b3.1
  unfold PdR
  rw [ee]
  generalize ems X2 pend2 = Y2 at *
  have l2' : Y1.2.2 + 1 < Y2.2.2 := l2
  have b5' : Y2.2.2 + (h1 + 1) ≤ Y1.2.2 + 1 + h2 := b5
  have u1 : ∀ i, i < Y1.2.2 → Y2.1 i = Y1.1 i ∧ Y2.2.1 i = Y1.2.1 i := fun i hi => by
    have := b4 i (show i < Y1.2.2 + 1 by omega)
    rw [this.1, this.2]
    exact ⟨am_up_ne (by omega), am_up_ne (by omega)⟩
  refine ⟨fun q hq => ?_, ?_, ?_, fun i hi => ?_, ?_⟩
  · rcases List.mem_append.mp hq with z | z
    · exact Nat.le_trans hlv (b1 q z)
    · rw [List.mem_singleton.mp z]; exact hol
  · rw [List.length_append, List.length_singleton]; omega
  · have s1 : SegR md Y2.1 (am_up Y2.2.1 Y1.2.2 Y2.2.2) X.2.2 Y1.2.2 d D := a3.mono (Nat.le_refl _) (fun i _ hi => ⟨(u1 i hi).1, by rw [am_up_ne (by omega)]; exact (u1 i hi).2⟩)
    have s2 : SegR md Y2.1 (am_up Y2.2.1 Y1.2.2 Y2.2.2) (Y1.2.2 + 1) Y2.2.2 e E := b3.mono (Nat.le_refl _) (fun i hi _ => by
      have hi' : Y1.2.2 + 1 ≤ i := hi
      exact ⟨rfl, am_up_ne (by omega)⟩)
    have oc : Y2.1 Y1.2.2 = o := by
      have := (b4 Y1.2.2 (show Y1.2.2 < Y1.2.2 + 1 by omega)).1
      rw [this]
      exact am_up_eq
    unfold dAO
    rcases ho with rfl | rfl
    · rw [if_pos rfl]
      exact s1.and hd s2 oc am_up_eq
    · rw [if_neg (by decide)]
      exact s1.or hd s2 oc am_up_eq
  · have := u1 i (by omega)
    show Y2.1 i = X.1 i ∧ am_up Y2.2.1 Y1.2.2 Y2.2.2 i = X.2.1 i
    rw [am_up_ne (by omega), this.1, this.2]
    exact a4 i hi
  · show Y2.2.2 + h ≤ X.2.2 + h2
    omega
theorem dT.ao {o : Nat} {D E : pD} (h : dT D) (h' : dT E) : dT (dAO o D E) := by
  intro K v hv
  unfold dAO at hv
  by_cases e : o = 29
  · rw [if_pos e] at hv
    unfold dAnd at hv
    cases e1 : D K with
    | none => rw [e1] at hv; exact absurd hv (by simp)
    | some w =>
      rw [e1] at hv
      have hv' : (if w = nI 0 then some w else E K) = some v := hv
      by_cases z : w = nI 0
      · rw [if_pos z] at hv'; rw [← Option.some.inj hv']; exact h K w e1
      · rw [if_neg z] at hv'; exact h' K v hv'
  · rw [if_neg e] at hv
    unfold dOr at hv
    cases e1 : D K with
    | none => rw [e1] at hv; exact absurd hv (by simp)
    | some w =>
      rw [e1] at hv
      have hv' : (if w = nI 1 then some w else E K) = some v := hv
      by_cases z : w = nI 1
      · rw [if_pos z] at hv'; rw [← Option.some.inj hv']; exact h K w e1
      · rw [if_neg z] at hv'; exact h' K v hv'
theorem okD.ao {o : Nat} {D E : pD} (h : okD D) (h' : okD E) (hT : dT D) (hT' : dT E) : okD (dAO o D E) := by
  refine ⟨fun K K' hK => ?_, fun K v _ hv => pBd_01 ((hT.ao hT') K v hv)⟩
  unfold dAO
  by_cases e : o = 29
  · rw [if_pos e]
    unfold dAnd
    rw [h.1 K K' hK, h'.1 K K' hK]
  · rw [if_neg e]
    unfold dOr
    rw [h.1 K K' hK, h'.1 K K' hK]
theorem SegC.ao {st : Nat → Int32} {a b' c d e m o : Nat} {D E : pD} (ho : o = 29 ∨ o = 30) (h : SegC st a b' d D) (hd : 0 < d) (h' : SegC st (b' + 1) c e E) (hst : st b' = nI m) (hm : m < 14336) (hk : m / 1024 + 25 = if o = 29 then 29 else 30) (hw : m % 1024 = c) : SegC st a c (max d e) (dAO o D E) := by
  unfold dAO
  rcases ho with rfl | rfl
  · rw [if_pos rfl] at hk ⊢
    exact h.and hd h' hst hm (by omega) hw
  · rw [if_neg (by decide)] at hk ⊢
    exact h.or hd h' hst hm (by omega) hw
section SIM7
variable {md : Bool} {b : Nat → Nat} {len : Nat} {a1 : Int32}
theorem both0 {rec : Nat → Int32 → am_G → Option (Int32 × am_G)} {n j : Nat} (g : am_G) : fX5_readBoth_L7 rec (n + 1) (nI 0) (nI j) g = some (nI 0, g) := by
  rw [fX5_readBoth_L7]
  by_cases h : (400 : Int32) ≤ nI j
  · rw [if_pos h, show am_zb (nI 0) = true from rfl, pu_gdt]
  · rw [if_neg h, if_pos (show nI 0 = (0 : Int32) from rfl), show am_zb (nI 0) = true from rfl, pu_gdt]
theorem bothS (hT : Tp b len) {f : Nat} (hP : PlainOK md b len a1 f) {h u p bk : Nat} {X : Cd} {base : List (Nat × Nat)} {gc gr : am_G} (hpre : PreP md b len 2 h u p bk X base gc gr) (hin : inT a1 base) (hf : 6 + 4 * (8 - bk) ≤ f) (m : Nat) (n j h' u' p' d : Nat) (D : pD) (gc' gr' : am_G) (X' : Cd) (pend : List (Nat × Nat)) (k : Nat) (hm : 400 - h' ≤ m) (hn : m < n) (hj : 2 * j ≤ h') (hmd : MdP md b len a1 (nI 0) (nI 2) 2 True h u p bk X base gc gr h' u' p' d D gc' gr' X' pend k) (hni : (fun _ => True) (tkF b len h'))
    (ih : 0 < m → ∀ (n j h' u' p' d : Nat) (D : pD) (gc' gr' : am_G) (X' : Cd) (pend : List (Nat × Nat)) (k : Nat), 400 - h' ≤ m - 1 → m - 1 < n → 2 * j ≤ h' → MdP md b len a1 (nI 0) (nI 2) 2 True h u p bk X base gc gr h' u' p' d D gc' gr' X' pend k → (fun _ => True) (tkF b len h') → FlR b len a1 (fX5_readBoth_L7 (fX5_rd f) n (nI 1) (nI j) gc') h (nI 0) gc gr ∨ OkR md b len a1 (fX5_readBoth_L7 (fX5_rd f) n (nI 1) (nI j) gc') (nI 0) (nI 2) 2 True (fun c => c ≠ 9) h u p bk X base gc gr) :
    FlR b len a1 (fX5_readBoth_L7 (fX5_rd f) n (nI 1) (nI j) gc') h (nI 0) gc gr ∨ OkR md b len a1 (fX5_readBoth_L7 (fX5_rd f) n (nI 1) (nI j) gc') (nI 0) (nI 2) 2 True (fun c => c ≠ 9) h u p bk X base gc gr := by
  obtain ⟨n, rfl⟩ : ∃ n', n = n' + 1 := ⟨n - 1, by omega⟩
  obtain ⟨-, -, l1, l2, l3, l4, l5, l6⟩ := hpre
  obtain ⟨m1, m2, m3, m4, m5, m6, m7, m8, m9, m10, m11, m12, m13, m14, m15, m16, m17⟩ := id hmd
  have hDT := m16 trivial
  have hR' := m2.2.2.2.2.2.2
  have hb' := hR'.b hT
  by_cases htk : tkF b len h' = 9
  · obtain ⟨pa, ca⟩ := q5_passT hT m2 htk (by decide)
    have hb1 := ca.2.2.2.2.2.2.b hT
    have fc0 : FcP gc' (am_si gc' 29 7 (nI (h' + 1))) := (FcP.rf gc').si (by omega) _
    have k35 : am_I (am_si gc' 29 7 (nI (h' + 1))) 35 = am_I gc' 35 := pI_si_ne _ _ _ (by decide)
    generalize am_si gc' 29 7 (nI (h' + 1)) = gc0 at *
    obtain ⟨ad, c1⟩ := q5_addStep ca (k := 4) (w := 0) (by decide) (by decide) (by omega)
    have fc1 : FcP gc0 (am_si (am_si gc0 35 u' (nI (1024 * 4 + 0))) 29 6 (nI (u' + 1))) := ((FcP.rf gc0).si (by omega) _).si (by omega) _
    have o35 : ∀ i, i < u' → am_I (am_si (am_si gc0 35 u' (nI (1024 * 4 + 0))) 29 6 (nI (u' + 1))) 35 i = am_I gc' 35 i := fun i hi => by rw [pe_ine (by decide), pe_ik (by omega), k35]
    generalize am_si (am_si gc0 35 u' (nI (1024 * 4 + 0))) 29 6 (nI (u' + 1)) = gc1 at *
    have st : fX5_readBoth_L7 (fX5_rd f) (n + 1) (nI 1) (nI j) gc' = (am_bd (fX5_rd f 2 0 gc1) fun v20 g21 =>
          am_bd (fX5_aim (nI u') (nI 4) g21) fun u23 g24 =>
          fX5_readBoth_L7 (fX5_rd f) n v20 (nI j + 1) g24) := by
      rw [fX5_readBoth_L7, if_neg (show ¬ (400 : Int32) ≤ nI j from nI_ge (a := j) (b := 400) (by omega) (by decide)), if_neg (show ¬ nI 1 = (0 : Int32) by decide), show (9 : Int32) = nI 9 from rfl, pa, pu_bd, if_neg (show ¬ nI 1 = (0 : Int32) by decide), pu_let, ca.2.1, show fX5_addStep 4 0 gc0 = some ((), gc1) from ad, pu_bd]
      rfl
    rw [show nI j + (1 : Int32) = nI (j + 1) from nI_add j 1] at st
    have cntE : (ems X' pend).2.2 + emc base + 1 ≤ h' := by have := m15.2.2.2.2; omega
    obtain ⟨gr1, e1, r1, f1⟩ := BT_w hT m14 (o := 29) (lv := 2) (by rw [htk]; simp) m15.1 l6 (by omega) (by omega)
    have hin2 : inT a1 ((29, (ems X' pend).2.2) :: base) := hin
    rcases hP (h' + 1) (u' + 1) p' bk (emt (ems X' pend) 29 0) ((29, (ems X' pend).2.2) :: base) gc1 gr1 ⟨c1, r1, by rw [List.length_cons]; omega, by rw [emc_an (by decide)]; show (ems X' pend).2.2 + 1 + emc base + 1 ≤ h' + 1; omega, by omega, m10, l5, fun q l e => by injection e with e1 e2; rw [← e1]; exact (show bnd 29 < 3 by decide)⟩ hin2 (by omega) with Hf | Ho
    · obtain ⟨h2, gc2, gr2, k2, x2, z1, z2, z3, z4, z5, z6, z7, z8, z9, z10⟩ := Hf
      obtain ⟨gc3, y1, y2, y3⟩ := q5_aimF (g := gc2) u' 4 (by omega)
      obtain ⟨n, rfl⟩ : ∃ n', n = n' + 1 := ⟨n - 1, by omega⟩
      refine Or.inl ⟨h2, gc3, gr2, k + 1 + k2, x2, ?_, (m1.tr (fc0.tr fc1)).tr (z2.tr y2), by rw [y3]; exact z3, by rw [y3]; exact z4, z5, (m11.tr (L20_2 m14.2.2.1 e1)).tr z6, by omega, by omega, z9, m13.tr (f1.tr z10)⟩
      rw [st, z1, pu_bd, y1, pu_bd, both0]
    · obtain ⟨h2, u2, p2, e, E, gc2, gr2, X2, pend2, k2, z1, ⟨n1, n2, n3, n4, n5, n6, n7, n8, n9, n10, n11, n12, n13, n14, n15, n16, n17⟩, zn⟩ := Ho.md
      have hb2 := n2.2.2.2.2.2.2.b hT
      have hET := n16 trivial
      have am := q5_aim n2 (k := 4) (s := u') (by decide) (by omega) (by omega)
      have fc3 : FcP gc2 (am_si gc2 35 u' (nI (1024 * 4 + u2))) := (FcP.rf gc2).si (by omega) _
      have c3 : CS md b len h2 u2 p2 bk (am_si gc2 35 u' (nI (1024 * 4 + u2))) := n2.cg fc3 (by rw [pe_ine (by decide)]; exact n2.1) (by rw [pe_ine (by decide)]; exact n2.2.1) (by rw [pe_ine (by decide)]; exact n2.2.2.1) (by rw [pe_ine (by decide)]; exact n2.2.2.2.1) n2.2.2.2.2.2.2
      have s35 : am_I (am_si gc2 35 u' (nI (1024 * 4 + u2))) 35 u' = nI (1024 * 4 + u2) := pe_ieq _ _ _ _
      have p35 : ∀ i, i ≠ u' → am_I (am_si gc2 35 u' (nI (1024 * 4 + u2))) 35 i = am_I gc2 35 i := fun i hi => pe_ik hi
      generalize am_si gc2 35 u' (nI (1024 * 4 + u2)) = gc3 at *
      have sg : SegC (am_I gc3 35) u u2 (max d e) (dAO 29 D E) := by
        have g1 : SegC (am_I gc3 35) u u' d D := m7.mono (Nat.le_refl _) (fun i _ hi => by rw [p35 i (by omega), n6 i (by omega), o35 i hi])
        have g2 : SegC (am_I gc3 35) (u' + 1) u2 e E := n7.mono (Nat.le_refl _) (fun i hi _ => p35 i (by omega))
        exact SegC.ao (o := 29) (by simp) g1 m8 g2 s35 (by omega) (by simp; omega) (by omega)
      have pd := m15.ao n15 (by decide) (by simp) (by decide) m8 (by omega)
      have rs3 : RS md b len h2 X2 p2 bk ((pend2 ++ [(29, (ems X' pend).2.2)]) ++ base) gr2 := by rw [List.append_assoc]; exact n14
      have st2 : fX5_readBoth_L7 (fX5_rd f) (n + 1) (nI 1) (nI j) gc' = fX5_readBoth_L7 (fX5_rd f) n (nI 1) (nI (j + 1)) gc3 := by
        rw [st, z1, pu_bd, am, pu_bd]
      rw [st2]
      exact ih (by omega) n (j + 1) h2 u2 p2 _ _ gc3 gr2 X2 _ (k + 1 + k2) (by omega) (by omega) (by omega) ⟨(m1.tr (fc0.tr fc1)).tr (n1.tr fc3), c3, by omega, by omega, by omega, fun i hi => by rw [p35 i (by omega), n6 i (by omega), o35 i (by omega), m6 i hi], sg, by omega, by omega, n10, (m11.tr (L20_2 m14.2.2.1 e1)).tr n11, by omega, m13.tr (f1.tr n13), rs3, pd, fun _ => hDT.ao hET, fun z => (m17 z).ao (n17 z) hDT hET⟩ trivial
  · refine Or.inr ⟨h', u', p', d, D, gc', gr', X', pend, k, ?_, hmd, htk⟩
    rw [fX5_readBoth_L7, if_neg (show ¬ (400 : Int32) ≤ nI j from nI_ge (a := j) (b := 400) (by omega) (by decide)), if_neg (show ¬ nI 1 = (0 : Int32) by decide), show (9 : Int32) = nI 9 from rfl, q5_passF hT m2 htk (by decide), pu_bd, if_pos (show nI 0 = (0 : Int32) from rfl), pz_1]
theorem bothL (hT : Tp b len) {f : Nat} (hP : PlainOK md b len a1 f) {h u p bk : Nat} {X : Cd} {base : List (Nat × Nat)} {gc gr : am_G} (hpre : PreP md b len 2 h u p bk X base gc gr) (hin : inT a1 base) (hf : 6 + 4 * (8 - bk) ≤ f) : ∀ (m : Nat) (n j h' u' p' d : Nat) (D : pD) (gc' gr' : am_G) (X' : Cd) (pend : List (Nat × Nat)) (k : Nat), 400 - h' ≤ m → m < n → 2 * j ≤ h' → MdP md b len a1 (nI 0) (nI 2) 2 True h u p bk X base gc gr h' u' p' d D gc' gr' X' pend k → (fun _ => True) (tkF b len h') → FlR b len a1 (fX5_readBoth_L7 (fX5_rd f) n (nI 1) (nI j) gc') h (nI 0) gc gr ∨ OkR md b len a1 (fX5_readBoth_L7 (fX5_rd f) n (nI 1) (nI j) gc') (nI 0) (nI 2) 2 True (fun c => c ≠ 9) h u p bk X base gc gr := by
  intro m
  induction m with
  | zero =>
    intro n j h' u' p' d D gc' gr' X' pend k hm hn hj hmd hni
    exact bothS hT hP hpre hin hf 0 n j h' u' p' d D gc' gr' X' pend k hm hn hj hmd hni (fun hh => absurd hh (by omega))
  | succ m ih =>
    intro n j h' u' p' d D gc' gr' X' pend k hm hn hj hmd hni
    exact bothS hT hP hpre hin hf (m + 1) n j h' u' p' d D gc' gr' X' pend k hm hn hj hmd hni (fun _ n j h' u' p' d D gc' gr' X' pend k hm hn hj hmd hni => ih n j h' u' p' d D gc' gr' X' pend k (by omega) (by omega) hj hmd hni)
theorem both_of (hT : Tp b len) {f : Nat} (hP : PlainOK md b len a1 f) : BothOK md b len a1 (f + 1) := by
  intro h u p bk X base gc gr hpre hin hf
  have hrd : fX5_rd (f + 1) 1 0 gc = am_bd (fX5_rd f 2 0 gc) fun v1 g2 => fX5_readBoth_L7 (fX5_rd f) am_fu v1 0 g2 := by rw [fX5_rd, rdB, bX5_readBoth]
  have hfu : am_fu = 1048575 + 1 := rfl
  rcases hP h u p bk X base gc gr (hpre.le (by decide)) hin (by omega) with Hf | Ho
  · obtain ⟨h', gc', gr', k, x', z1, z⟩ := Hf
    refine Or.inl ⟨h', gc', gr', k, x', ?_, z⟩
    rw [hrd, z1, pu_bd, hfu]
    exact both0 (j := 0) gc'
  · obtain ⟨h', u', p', d, D, gc', gr', X', pend, k, z1, hm, zn⟩ := Ho.md
    have hm' : MdP md b len a1 (nI 0) (nI 2) 2 True h u p bk X base gc gr h' u' p' d D gc' gr' X' pend k := by
      obtain ⟨m1, m2, m3, m4, m5, m6, m7, m8, m9, m10, m11, m12, m13, m14, ⟨q1, q2⟩, m16⟩ := hm
      exact ⟨m1, m2, m3, m4, m5, m6, m7, m8, m9, m10, m11, m12, m13, m14, ⟨fun q hq => Nat.le_trans (by decide) (q1 q hq), q2⟩, m16⟩
    have e : fX5_rd (f + 1) 1 0 gc = fX5_readBoth_L7 (fX5_rd f) am_fu (nI 1) (nI 0) gc' := by rw [hrd, z1, pu_bd, show (0 : Int32) = nI 0 from rfl]
    rcases bothL hT hP hpre hin (by omega) 400 am_fu 0 h' u' p' d D gc' gr' X' pend k (by omega) (by omega) (by omega) hm' zn with Hf | Ho
    · exact Or.inl (Hf.P e)
    · exact Or.inr (Ho.P e)
theorem test0 {rec : Nat → Int32 → am_G → Option (Int32 × am_G)} {n j : Nat} (g : am_G) : fX5_readTest_L7 rec (n + 1) (nI 0) (nI j) g = some (nI 0, g) := by
  rw [fX5_readTest_L7]
  by_cases h : (400 : Int32) ≤ nI j
  · rw [if_pos h, show am_zb (nI 0) = true from rfl, pu_gdt]
  · rw [if_neg h, if_pos (show nI 0 = (0 : Int32) from rfl), show am_zb (nI 0) = true from rfl, pu_gdt]
theorem testS (hT : Tp b len) {f : Nat} (hP : BothOK md b len a1 f) {h u p bk : Nat} {X : Cd} {base : List (Nat × Nat)} {gc gr : am_G} (hpre : PreP md b len 1 h u p bk X base gc gr) (hin : inT a1 base) (hf : 7 + 4 * (8 - bk) ≤ f) (m : Nat) (n j h' u' p' d : Nat) (D : pD) (gc' gr' : am_G) (X' : Cd) (pend : List (Nat × Nat)) (k : Nat) (hm : 400 - h' ≤ m) (hn : m < n) (hj : 2 * j ≤ h') (hmd : MdP md b len a1 (nI 0) (nI 2) 1 True h u p bk X base gc gr h' u' p' d D gc' gr' X' pend k) (hni : (fun c => c ≠ 9) (tkF b len h'))
    (ih : 0 < m → ∀ (n j h' u' p' d : Nat) (D : pD) (gc' gr' : am_G) (X' : Cd) (pend : List (Nat × Nat)) (k : Nat), 400 - h' ≤ m - 1 → m - 1 < n → 2 * j ≤ h' → MdP md b len a1 (nI 0) (nI 2) 1 True h u p bk X base gc gr h' u' p' d D gc' gr' X' pend k → (fun c => c ≠ 9) (tkF b len h') → FlR b len a1 (fX5_readTest_L7 (fX5_rd f) n (nI 1) (nI j) gc') h (nI 0) gc gr ∨ OkR md b len a1 (fX5_readTest_L7 (fX5_rd f) n (nI 1) (nI j) gc') (nI 0) (nI 2) 1 True (fun c => c ≠ 9 ∧ c ≠ 8) h u p bk X base gc gr) :
    FlR b len a1 (fX5_readTest_L7 (fX5_rd f) n (nI 1) (nI j) gc') h (nI 0) gc gr ∨ OkR md b len a1 (fX5_readTest_L7 (fX5_rd f) n (nI 1) (nI j) gc') (nI 0) (nI 2) 1 True (fun c => c ≠ 9 ∧ c ≠ 8) h u p bk X base gc gr := by
  obtain ⟨n, rfl⟩ : ∃ n', n = n' + 1 := ⟨n - 1, by omega⟩
  obtain ⟨-, -, l1, l2, l3, l4, l5, l6⟩ := hpre
  obtain ⟨m1, m2, m3, m4, m5, m6, m7, m8, m9, m10, m11, m12, m13, m14, m15, m16, m17⟩ := id hmd
  have hDT := m16 trivial
  have hR' := m2.2.2.2.2.2.2
  have hb' := hR'.b hT
  by_cases htk : tkF b len h' = 8
  · obtain ⟨pa, ca⟩ := q5_passT hT m2 htk (by decide)
    have hb1 := ca.2.2.2.2.2.2.b hT
    have fc0 : FcP gc' (am_si gc' 29 7 (nI (h' + 1))) := (FcP.rf gc').si (by omega) _
    have k35 : am_I (am_si gc' 29 7 (nI (h' + 1))) 35 = am_I gc' 35 := pI_si_ne _ _ _ (by decide)
    generalize am_si gc' 29 7 (nI (h' + 1)) = gc0 at *
    obtain ⟨ad, c1⟩ := q5_addStep ca (k := 5) (w := 0) (by decide) (by decide) (by omega)
    have fc1 : FcP gc0 (am_si (am_si gc0 35 u' (nI (1024 * 5 + 0))) 29 6 (nI (u' + 1))) := ((FcP.rf gc0).si (by omega) _).si (by omega) _
    have o35 : ∀ i, i < u' → am_I (am_si (am_si gc0 35 u' (nI (1024 * 5 + 0))) 29 6 (nI (u' + 1))) 35 i = am_I gc' 35 i := fun i hi => by rw [pe_ine (by decide), pe_ik (by omega), k35]
    generalize am_si (am_si gc0 35 u' (nI (1024 * 5 + 0))) 29 6 (nI (u' + 1)) = gc1 at *
    have st : fX5_readTest_L7 (fX5_rd f) (n + 1) (nI 1) (nI j) gc' = (am_bd (fX5_rd f 1 0 gc1) fun v20 g21 =>
          am_bd (fX5_aim (nI u') (nI 5) g21) fun u23 g24 =>
          fX5_readTest_L7 (fX5_rd f) n v20 (nI j + 1) g24) := by
      rw [fX5_readTest_L7, if_neg (show ¬ (400 : Int32) ≤ nI j from nI_ge (a := j) (b := 400) (by omega) (by decide)), if_neg (show ¬ nI 1 = (0 : Int32) by decide), show (8 : Int32) = nI 8 from rfl, pa, pu_bd, if_neg (show ¬ nI 1 = (0 : Int32) by decide), pu_let, ca.2.1, show fX5_addStep 5 0 gc0 = some ((), gc1) from ad, pu_bd]
      rfl
    rw [show nI j + (1 : Int32) = nI (j + 1) from nI_add j 1] at st
    have cntE : (ems X' pend).2.2 + emc base + 1 ≤ h' := by have := m15.2.2.2.2; omega
    obtain ⟨gr1, e1, r1, f1⟩ := BT_w hT m14 (o := 30) (lv := 1) (by rw [htk]; simp) m15.1 l6 (by omega) (by omega)
    have hin2 : inT a1 ((30, (ems X' pend).2.2) :: base) := hin
    rcases hP (h' + 1) (u' + 1) p' bk (emt (ems X' pend) 30 0) ((30, (ems X' pend).2.2) :: base) gc1 gr1 ⟨c1, r1, by rw [List.length_cons]; omega, by rw [emc_an (by decide)]; show (ems X' pend).2.2 + 1 + emc base + 1 ≤ h' + 1; omega, by omega, m10, l5, fun q l e => by injection e with e1 e2; rw [← e1]; exact (show bnd 30 < 2 by decide)⟩ hin2 (by omega) with Hf | Ho
    · obtain ⟨h2, gc2, gr2, k2, x2, z1, z2, z3, z4, z5, z6, z7, z8, z9, z10⟩ := Hf
      obtain ⟨gc3, y1, y2, y3⟩ := q5_aimF (g := gc2) u' 5 (by omega)
      obtain ⟨n, rfl⟩ : ∃ n', n = n' + 1 := ⟨n - 1, by omega⟩
      refine Or.inl ⟨h2, gc3, gr2, k + 1 + k2, x2, ?_, (m1.tr (fc0.tr fc1)).tr (z2.tr y2), by rw [y3]; exact z3, by rw [y3]; exact z4, z5, (m11.tr (L20_2 m14.2.2.1 e1)).tr z6, by omega, by omega, z9, m13.tr (f1.tr z10)⟩
      rw [st, z1, pu_bd, y1, pu_bd, test0]
    · obtain ⟨h2, u2, p2, e, E, gc2, gr2, X2, pend2, k2, z1, ⟨n1, n2, n3, n4, n5, n6, n7, n8, n9, n10, n11, n12, n13, n14, n15, n16, n17⟩, zn⟩ := Ho.md
      have hb2 := n2.2.2.2.2.2.2.b hT
      have hET := n16 trivial
      have am := q5_aim n2 (k := 5) (s := u') (by decide) (by omega) (by omega)
      have fc3 : FcP gc2 (am_si gc2 35 u' (nI (1024 * 5 + u2))) := (FcP.rf gc2).si (by omega) _
      have c3 : CS md b len h2 u2 p2 bk (am_si gc2 35 u' (nI (1024 * 5 + u2))) := n2.cg fc3 (by rw [pe_ine (by decide)]; exact n2.1) (by rw [pe_ine (by decide)]; exact n2.2.1) (by rw [pe_ine (by decide)]; exact n2.2.2.1) (by rw [pe_ine (by decide)]; exact n2.2.2.2.1) n2.2.2.2.2.2.2
      have s35 : am_I (am_si gc2 35 u' (nI (1024 * 5 + u2))) 35 u' = nI (1024 * 5 + u2) := pe_ieq _ _ _ _
      have p35 : ∀ i, i ≠ u' → am_I (am_si gc2 35 u' (nI (1024 * 5 + u2))) 35 i = am_I gc2 35 i := fun i hi => pe_ik hi
      generalize am_si gc2 35 u' (nI (1024 * 5 + u2)) = gc3 at *
      have sg : SegC (am_I gc3 35) u u2 (max d e) (dAO 30 D E) := by
        have g1 : SegC (am_I gc3 35) u u' d D := m7.mono (Nat.le_refl _) (fun i _ hi => by rw [p35 i (by omega), n6 i (by omega), o35 i hi])
        have g2 : SegC (am_I gc3 35) (u' + 1) u2 e E := n7.mono (Nat.le_refl _) (fun i hi _ => p35 i (by omega))
        exact SegC.ao (o := 30) (by simp) g1 m8 g2 s35 (by omega) (by simp; omega) (by omega)
      have pd := m15.ao n15 (by decide) (by simp) (by decide) m8 (by omega)
      have rs3 : RS md b len h2 X2 p2 bk ((pend2 ++ [(30, (ems X' pend).2.2)]) ++ base) gr2 := by rw [List.append_assoc]; exact n14
      have st2 : fX5_readTest_L7 (fX5_rd f) (n + 1) (nI 1) (nI j) gc' = fX5_readTest_L7 (fX5_rd f) n (nI 1) (nI (j + 1)) gc3 := by
        rw [st, z1, pu_bd, am, pu_bd]
      rw [st2]
      exact ih (by omega) n (j + 1) h2 u2 p2 _ _ gc3 gr2 X2 _ (k + 1 + k2) (by omega) (by omega) (by omega) ⟨(m1.tr (fc0.tr fc1)).tr (n1.tr fc3), c3, by omega, by omega, by omega, fun i hi => by rw [p35 i (by omega), n6 i (by omega), o35 i (by omega), m6 i hi], sg, by omega, by omega, n10, (m11.tr (L20_2 m14.2.2.1 e1)).tr n11, by omega, m13.tr (f1.tr n13), rs3, pd, fun _ => hDT.ao hET, fun z => (m17 z).ao (n17 z) hDT hET⟩ zn
  · refine Or.inr ⟨h', u', p', d, D, gc', gr', X', pend, k, ?_, hmd, ⟨hni, htk⟩⟩
    rw [fX5_readTest_L7, if_neg (show ¬ (400 : Int32) ≤ nI j from nI_ge (a := j) (b := 400) (by omega) (by decide)), if_neg (show ¬ nI 1 = (0 : Int32) by decide), show (8 : Int32) = nI 8 from rfl, q5_passF hT m2 htk (by decide), pu_bd, if_pos (show nI 0 = (0 : Int32) from rfl), pz_1]
theorem testL (hT : Tp b len) {f : Nat} (hP : BothOK md b len a1 f) {h u p bk : Nat} {X : Cd} {base : List (Nat × Nat)} {gc gr : am_G} (hpre : PreP md b len 1 h u p bk X base gc gr) (hin : inT a1 base) (hf : 7 + 4 * (8 - bk) ≤ f) : ∀ (m : Nat) (n j h' u' p' d : Nat) (D : pD) (gc' gr' : am_G) (X' : Cd) (pend : List (Nat × Nat)) (k : Nat), 400 - h' ≤ m → m < n → 2 * j ≤ h' → MdP md b len a1 (nI 0) (nI 2) 1 True h u p bk X base gc gr h' u' p' d D gc' gr' X' pend k → (fun c => c ≠ 9) (tkF b len h') → FlR b len a1 (fX5_readTest_L7 (fX5_rd f) n (nI 1) (nI j) gc') h (nI 0) gc gr ∨ OkR md b len a1 (fX5_readTest_L7 (fX5_rd f) n (nI 1) (nI j) gc') (nI 0) (nI 2) 1 True (fun c => c ≠ 9 ∧ c ≠ 8) h u p bk X base gc gr := by
  intro m
  induction m with
  | zero =>
    intro n j h' u' p' d D gc' gr' X' pend k hm hn hj hmd hni
    exact testS hT hP hpre hin hf 0 n j h' u' p' d D gc' gr' X' pend k hm hn hj hmd hni (fun hh => absurd hh (by omega))
  | succ m ih =>
    intro n j h' u' p' d D gc' gr' X' pend k hm hn hj hmd hni
    exact testS hT hP hpre hin hf (m + 1) n j h' u' p' d D gc' gr' X' pend k hm hn hj hmd hni (fun _ n j h' u' p' d D gc' gr' X' pend k hm hn hj hmd hni => ih n j h' u' p' d D gc' gr' X' pend k (by omega) (by omega) hj hmd hni)
theorem test_of (hT : Tp b len) {f : Nat} (hP : BothOK md b len a1 f) : TestOK md b len a1 (f + 1) := by
  intro h u p bk X base gc gr hpre hin hf
  have hrd : fX5_rd (f + 1) 0 0 gc = am_bd (fX5_rd f 1 0 gc) fun v1 g2 => fX5_readTest_L7 (fX5_rd f) am_fu v1 0 g2 := by rw [fX5_rd, rdB, bX5_readTest]
  have hfu : am_fu = 1048575 + 1 := rfl
  rcases hP h u p bk X base gc gr (hpre.le (by decide)) hin (by omega) with Hf | Ho
  · obtain ⟨h', gc', gr', k, x', z1, z⟩ := Hf
    refine Or.inl ⟨h', gc', gr', k, x', ?_, z⟩
    rw [hrd, z1, pu_bd, hfu]
    exact test0 (j := 0) gc'
  · obtain ⟨h', u', p', d, D, gc', gr', X', pend, k, z1, hm, zn⟩ := Ho.md
    have hm' : MdP md b len a1 (nI 0) (nI 2) 1 True h u p bk X base gc gr h' u' p' d D gc' gr' X' pend k := by
      obtain ⟨m1, m2, m3, m4, m5, m6, m7, m8, m9, m10, m11, m12, m13, m14, ⟨q1, q2⟩, m16⟩ := hm
      exact ⟨m1, m2, m3, m4, m5, m6, m7, m8, m9, m10, m11, m12, m13, m14, ⟨fun q hq => Nat.le_trans (by decide) (q1 q hq), q2⟩, m16⟩
    have e : fX5_rd (f + 1) 0 0 gc = fX5_readTest_L7 (fX5_rd f) am_fu (nI 1) (nI 0) gc' := by rw [hrd, z1, pu_bd, show (0 : Int32) = nI 0 from rfl]
    rcases testL hT hP hpre hin (by omega) 400 am_fu 0 h' u' p' d D gc' gr' X' pend k (by omega) (by omega) (by omega) hm' zn with Hf | Ho
    · exact Or.inl (Hf.P e)
    · exact Or.inr (Ho.P e)
theorem testAll (hT : Tp b len) : ∀ f, (PlainOK md b len a1 f ∧ BothOK md b len a1 f ∧ TestOK md b len a1 f) ∧ (PlainOK md b len a1 (f + 1) ∧ BothOK md b len a1 (f + 1) ∧ TestOK md b len a1 (f + 1))
  | 0 => by
    have p0 : ∀ f, f < 6 → PlainOK md b len a1 f := fun f hf h u p bk X base gc gr _ _ hn => absurd hn (by omega)
    have t0 : ∀ f, f < 7 → BothOK md b len a1 f := fun f hf h u p bk X base gc gr _ _ hn => absurd hn (by omega)
    have s0 : ∀ f, f < 8 → TestOK md b len a1 f := fun f hf h u p bk X base gc gr _ _ hn => absurd hn (by omega)
    exact ⟨⟨p0 0 (by decide), t0 0 (by decide), s0 0 (by decide)⟩, p0 1 (by decide), t0 1 (by decide), s0 1 (by decide)⟩
  | f + 1 => by
    obtain ⟨⟨p0, t0, s0⟩, p1, t1, s1⟩ := testAll hT f
    exact ⟨⟨p1, t1, s1⟩, plain_of hT s0, both_of hT p1, test_of hT t1⟩
theorem testOK (hT : Tp b len) (f : Nat) : TestOK md b len a1 f := (testAll hT f).1.2.2
end SIM7
