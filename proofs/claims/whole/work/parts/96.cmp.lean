/-! ===== tests: one comparison ===== -/
theorem bnd5 {o : Nat} (h : 5 ≤ bnd o) : o ≤ 24 := by
  unfold bnd at h
  by_cases h1 : 31 ≤ o
  · rw [if_pos h1] at h; omega
  · rw [if_neg h1] at h
    by_cases h2 : o = 30
    · rw [if_pos h2] at h; omega
    · rw [if_neg h2] at h
      by_cases h3 : o = 29
      · rw [if_pos h3] at h; omega
      · rw [if_neg h3] at h
        by_cases h4 : o = 28
        · rw [if_pos h4] at h; omega
        · rw [if_neg h4] at h
          by_cases h5 : 25 ≤ o
          · rw [if_pos h5] at h; omega
          · omega
theorem cmpd_app {pend base : List (Nat × Nat)} (h : ∀ q ∈ pend, 5 ≤ bnd q.1) (h20 : ∀ q ∈ pend, 20 ≤ q.1) : cmpd (pend ++ base) = cmpd base := by
  induction pend with
  | nil => rfl
  | cons q l ih =>
    rw [List.cons_append, cmpd, if_pos ⟨h20 q (List.mem_cons_self ..), bnd5 (h q (List.mem_cons_self ..))⟩, ih (fun q' hq' => h q' (List.mem_cons_of_mem _ hq')) (fun q' hq' => h20 q' (List.mem_cons_of_mem _ hq'))]
theorem cmpd_tb {base : List (Nat × Nat)} (h : tb base 4) : cmpd base = false := by
  cases base with
  | nil => rfl
  | cons q l =>
    have hq := h q l rfl
    have n1 : ¬ q.1 ≤ 24 := fun z => by
      unfold bnd at hq
      rw [if_neg (by omega), if_neg (by omega), if_neg (by omega), if_neg (by omega), if_neg (by omega)] at hq
      split at hq <;> omega
    have n2 : ¬ (25 ≤ q.1 ∧ q.1 ≤ 27) := fun z => by
      unfold bnd at hq
      rw [if_neg (by omega), if_neg (by omega), if_neg (by omega), if_neg (by omega), if_pos (by omega)] at hq
      omega
    rw [cmpd, if_neg (fun z => n1 z.2)]
    exact decide_eq_false n2
theorem jo_01 {x : Nat} (hx : 5 ≤ x) (a c : Int64) : jo x a c = 0 ∨ jo x a c = 1 := by
  unfold jo
  rw [if_neg (by omega), if_neg (by omega), if_neg (by omega), if_neg (by omega), if_neg (by omega)]
  by_cases h5 : x = 5
  · rw [if_pos h5]; split
    · exact Or.inr rfl
    · exact Or.inl rfl
  · rw [if_neg h5]
    by_cases h6 : x = 6
    · rw [if_pos h6]; split
      · exact Or.inr rfl
      · exact Or.inl rfl
    · rw [if_neg h6]; split
      · exact Or.inr rfl
      · exact Or.inl rfl
theorem dT_cmp {x : Nat} (hx : 5 ≤ x) (D E : pD) : dT (dBin x D E) := by
  intro K v hv
  unfold dBin at hv
  cases e1 : D K with
  | none => rw [e1] at hv; exact absurd hv (by simp)
  | some a =>
    rw [e1] at hv
    cases e2 : E K with
    | none => rw [e2] at hv; exact absurd hv (by simp)
    | some c =>
      rw [e2] at hv
      have hv' : jv x a c = some v := hv
      obtain ⟨-, -, h3⟩ := jv_S hv'
      rcases jo_01 hx a.toInt64 c.toInt64 with z | z
      · rw [z] at h3; exact Or.inl (z64.mp h3)
      · rw [z] at h3; exact Or.inr (o64.mp h3)
section SIM4
variable (md : Bool) (b : Nat → Nat) (len : Nat) (a1 : Int32)
def CmpOK (f : Nat) : Prop := ∀ h u p bk X base gc gr x0, PreP md b len 4 h u p bk X base gc gr → inT a1 base → StP b len x0 h → 5 + 4 * (8 - bk) ≤ f → FlP b len a1 f 4 0 h x0 gc gr ∨ OkP md b len a1 f 4 0 x0 (nI 2) 4 True (fun _ => True) h u p bk X base gc gr
def PlainOK (f : Nat) : Prop := ∀ h u p bk X base gc gr, PreP md b len 3 h u p bk X base gc gr → inT a1 base → 6 + 4 * (8 - bk) ≤ f → FlP b len a1 f 2 0 h (nI 0) gc gr ∨ OkP md b len a1 f 2 0 (nI 0) (nI 2) 3 True (fun _ => True) h u p bk X base gc gr
def BothOK (f : Nat) : Prop := ∀ h u p bk X base gc gr, PreP md b len 2 h u p bk X base gc gr → inT a1 base → 7 + 4 * (8 - bk) ≤ f → FlP b len a1 f 1 0 h (nI 0) gc gr ∨ OkP md b len a1 f 1 0 (nI 0) (nI 2) 2 True (fun c => c ≠ 9) h u p bk X base gc gr
def TestOK (f : Nat) : Prop := ∀ h u p bk X base gc gr, PreP md b len 1 h u p bk X base gc gr → inT a1 base → 8 + 4 * (8 - bk) ≤ f → FlP b len a1 f 0 0 h (nI 0) gc gr ∨ OkP md b len a1 f 0 0 (nI 0) (nI 2) 1 True (fun c => c ≠ 9 ∧ c ≠ 8) h u p bk X base gc gr
end SIM4
theorem inT_app {a1 : Int32} {pend base : List (Nat × Nat)} (h : inT a1 base) (hp : ∀ q ∈ pend, 1 ≤ bnd q.1) : inT a1 (pend ++ base) := by
  unfold inT
  rw [inn_app hp]
  exact h
section SIM5
variable {md : Bool} {b : Nat → Nat} {len : Nat} {a1 : Int32}
theorem cmp_of (hT : Tp b len) (f : Nat) : CmpOK md b len a1 (f + 1) := by
  intro h u p bk X base gc gr x0 hpre hin hst hf
  have hS : SumOK md b len a1 f := sumOK hT f
  obtain ⟨-, -, l1, l2, l3, l4, l5, l6⟩ := id hpre
  have hrd : fX5_rd (f + 1) 4 0 gc = bX5_readCompared (fX5_rd f) gc := rfl
  rcases hS h u p bk X base gc gr x0 (hpre.le (by decide)) hst (by omega) with Hf | Ho
  · obtain ⟨h', gc', gr', k, x', z1, z⟩ := Hf
    refine Or.inl ⟨h', gc', gr', k, x', ?_, z⟩
    rw [hrd]
    unfold bX5_readCompared
    rw [z1, pu_bd, if_pos (show nI 0 = (0 : Int32) from rfl)]
    rfl
  · obtain ⟨h', u', p', d, D, gc', gr', X', pend, k, z1, ⟨m1, m2, m3, m4, m5, m6, m7, m8, m9, m10, m11, m12, m13, m14, m15, m16, m17⟩, zn⟩ := Ho.md
    have hR' := m2.2.2.2.2.2.2
    have hb' := hR'.b hT
    have hlt := tk_lt (i := h') hT
    have st : bX5_readCompared (fX5_rd f) gc = (if (11 : Int32) ≤ nI (jnF (tkF b len h')) then (
      am_bd (fX5_rd f 5 0 (am_si gc' 29 7 (nI (h' + 1)))) fun v11 g12 =>
      am_bd (fX5_addStep (nI (jnF (tkF b len h'))) (0 : Int32) g12) fun u14 g15 =>
      am_gd (am_zb v11) <|
      some (v11, g15))
    else (
      some ((0 : Int32), gc'))) := by
      unfold bX5_readCompared
      rw [z1, pu_bd, if_neg (show ¬ nI 1 = (0 : Int32) by decide), m2.1, pe_gd (show h' < 401 by omega) (by decide), pe_clamp (show h' < 2147483648 by omega), m2.tk, q5_joinOf (by omega), pu_bd, pu_let, m2.1, show nI h' + (1 : Int32) = nI (h' + 1) from nI_add h' 1]
    have p20 : ∀ q ∈ pend, 20 ≤ q.1 := fun q hq => (m14.2.1.2.2.2.2.2.2 q (List.mem_append_left _ hq)).1
    have hin' : inT a1 (pend ++ base) := inT_app hin (fun q hq => by have := m15.1 q hq; omega)
    have hcp : cmpd (pend ++ base) = false := by rw [cmpd_app m15.1 p20]; exact cmpd_tb l6
    rcases jn_inv (tkF b len h') with ⟨z, -⟩ | ⟨zc, zl, zh⟩ | ⟨z0, -, zz⟩
    · exfalso
      obtain ⟨q1, q2, q3, q4, q5⟩ := zn
      rcases z with ⟨e, _⟩ | ⟨e, _⟩ | ⟨e, _⟩ | ⟨e, _⟩ | ⟨e, _⟩
      · exact q1 e
      · exact q2 e
      · exact q3 e
      · exact q4 e
      · exact q5 e
    · have h0 : tkF b len h' ≠ 0 := (jn_cp zc).2.2.2
      rw [if_pos (show (11 : Int32) ≤ nI (jnF (tkF b len h')) from nI_le (a := 11) zl (by omega))] at st
      generalize hjn : jnF (tkF b len h') = jk at *
      have hbd : bnd (jk + 14) = 4 := by
        rcases (show jk = 11 ∨ jk = 12 ∨ jk = 13 by omega) with rfl | rfl | rfl <;> rfl
      have hR1 := hR'.nx h0
      have hb1 := hR1.b hT
      have cntE : (ems X' pend).2.2 + emc base + 1 ≤ h' := by have := m15.2.2.2.2; omega
      obtain ⟨gr1, e1, r1, f1⟩ := BS_cmp a1 hT m14 hin' hcp zc m15.1 (l6.le (by decide)) (by omega) (by omega)
      have c1 : CS md b len (h' + 1) u' p' bk (am_si gc' 29 7 (nI (h' + 1))) := m2.cg ((FcP.rf gc').si (by omega) _) (pe_ieq _ _ _ _) (by rw [pe_ik (by decide)]; exact m2.2.1) (by rw [pe_ik (by decide)]; exact m2.2.2.1) (by rw [pe_ik (by decide)]; exact m2.2.2.2.1) hR1
      have fc1 : FcP gc' (am_si gc' 29 7 (nI (h' + 1))) := (FcP.rf gc').si (by omega) _
      have k35 : am_I (am_si gc' 29 7 (nI (h' + 1))) 35 = am_I gc' 35 := pI_si_ne _ _ _ (by decide)
      generalize am_si gc' 29 7 (nI (h' + 1)) = gc1 at *
      rcases hS (h' + 1) u' p' bk (ems X' pend) ((jk + 14, 0) :: base) gc1 gr1 (nI 1) ⟨c1, r1, by rw [List.length_cons]; omega, by rw [emc_op (by omega)]; omega, by omega, m10, l5, fun q l e => by injection e with e1 e2; rw [← e1, hbd]; decide⟩ (Or.inl rfl) (by omega) with Hf | Ho
      · obtain ⟨h2, gc2, gr2, k2, x2, z1, z2, z3, z4, z5, z6, z7, z8, z9, z10⟩ := Hf
        obtain ⟨gc3, y1, y2, y3, y4⟩ := q5_addF (nI jk) z4
        refine Or.inl ⟨h2, gc3, gr2, k + 1 + k2, x2, ?_, (m1.tr fc1).tr (z2.tr y2), by rw [y3]; exact z3, y4, z5, (m11.tr (L20_3 m14.2.2.1 e1)).tr z6, by omega, by omega, z9, m13.tr (f1.tr z10)⟩
        rw [hrd, st, z1, pu_bd, y1, pu_bd, pz_0]
      · obtain ⟨h2, u2, p2, e, E, gc2, gr2, X2, pend2, k2, z1', ⟨n1, n2, n3, n4, n5, n6, n7, n8, n9, n10, n11, n12, n13, n14, n15, n16, n17⟩, zn2⟩ := Ho.md
        have hb2 := n2.2.2.2.2.2.2.b hT
        obtain ⟨y1, y2⟩ := q5_addStep n2 (k := jk) (w := 0) (by omega) (by decide) (by omega)
        have fc3 : FcP gc2 (am_si (am_si gc2 35 u2 (nI (1024 * jk + 0))) 29 6 (nI (u2 + 1))) := ((FcP.rf gc2).si (by omega) _).si (by omega) _
        have s35 : am_I (am_si (am_si gc2 35 u2 (nI (1024 * jk + 0))) 29 6 (nI (u2 + 1))) 35 u2 = nI (1024 * jk + 0) := by rw [pe_ine (by decide), pe_ieq]
        have o35 : ∀ i, i < u2 → am_I (am_si (am_si gc2 35 u2 (nI (1024 * jk + 0))) 29 6 (nI (u2 + 1))) 35 i = am_I gc2 35 i := fun i hi => by rw [pe_ine (by decide), pe_ik (by omega)]
        generalize am_si (am_si gc2 35 u2 (nI (1024 * jk + 0))) 29 6 (nI (u2 + 1)) = gc3 at *
        have sg : SegC (am_I gc3 35) u (u2 + 1) (max d (e + 1)) (dBin (jk - 6) D E) := by
          have g1 : SegC (am_I gc3 35) u u' d D := m7.mono (Nat.le_refl _) (fun i _ hi => by rw [o35 i (by omega), n6 i hi, k35])
          have g2 : SegC (am_I gc3 35) u' u2 e E := n7.mono (Nat.le_refl _) (fun i _ hi => o35 i hi)
          exact g1.bin g2 n8 s35 (by omega) (show jk - 6 < 8 by omega) (by omega)
        have m15' : PdR md X X' pend h h' 4 d D := ⟨fun q hq => by have := m15.1 q hq; omega, m15.2⟩
        have pd := m15'.bin n15 (o := jk + 14) (x := jk - 6) (by decide) (by rw [hbd]; exact Nat.le_refl _) (by omega) (by omega) n8 (by omega)
        have rs3 : RS md b len h2 X2 p2 bk ((pend2 ++ [(jk + 14, 0)]) ++ base) gr2 := by rw [List.append_assoc]; exact n14
        have p20' : ∀ q ∈ pend2, 20 ≤ q.1 := fun q hq => (n14.2.1.2.2.2.2.2.2 q (List.mem_append_left _ hq)).1
        have ctt : cmpd (pend2 ++ (jk + 14, 0) :: base) = true := by
          rw [cmpd_app n15.1 p20', cmpd, if_neg (show ¬ (20 ≤ (jk + 14, 0).1 ∧ (jk + 14, 0).1 ≤ 24) from fun z => by have : jk + 14 ≤ 24 := z.2; omega)]
          exact decide_eq_true (show 25 ≤ jk + 14 ∧ jk + 14 ≤ 27 by omega)
        have hin2 : inT a1 (pend2 ++ (jk + 14, 0) :: base) := by
          refine inT_app ?_ (fun q hq => by have := n15.1 q hq; omega)
          unfold inT at hin ⊢
          rw [inn, if_neg (show ¬ 31 ≤ (jk + 14, 0).1 from fun z => by have : 31 ≤ jk + 14 := z; omega)]
          exact hin
        have tl := BS_told a1 n14 hin2 zn2 ctt
        refine Or.inr (OkP.mk (k := k + 1 + k2 + 1) ?_ ⟨(m1.tr fc1).tr (n1.tr fc3), y2, by omega, by omega, by omega, fun i hi => by rw [o35 i (by omega), n6 i (by omega), k35, m6 i hi], sg, by omega, by omega, n10, ((m11.tr (L20_3 m14.2.2.1 e1)).tr n11).tr (L20_3 n14.2.2.1 tl), by omega, m13.tr (f1.tr n13), rs3, pd, fun _ => dT_cmp (by omega) D E, fun z => (m17 z).bin (n17 z)⟩ trivial)
        rw [hrd, st, z1', pu_bd, show (0 : Int32) = nI 0 from rfl, y1, pu_bd, pz_1]
    · rw [z0, if_neg (show ¬ (11 : Int32) ≤ nI 0 by decide)] at st
      obtain ⟨gr1, e1, r1, f1⟩ := BS_cmpF a1 m14 hin' hcp zn zz
      refine Or.inl ⟨h', gc', gr1, k + 1, nI 1, ?_, m1, m2.1, ⟨u', m2.2.1, by omega⟩, hR', m11.tr (L20_3 m14.2.2.1 e1), by omega, by omega, r1, m13.tr f1⟩
      rw [hrd, st]
      rfl
end SIM5
