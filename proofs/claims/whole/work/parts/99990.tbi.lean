/-! ===== one telling, on any pack ===== -/
/-- what holds between two tellings -/
def BI (p : Nat) (b0 : Int32) (g0 : am_G) (q : Option pLw) (n : Nat) (c : Nat → pTk) (u : Nat) (X : Cd) (j : Nat) (gc gr : am_G) : Prop :=
  (∃ k s, k ≤ j ∧ TS p b0 k s gc gr) ∧ TxT n c u X gc gr ∧ LawC gc q ∧ LawR (am_I gr 2) q ∧ okV (rr gr) ∧ am_I gr 0 20 = nI 0 ∧ (∃ k, k ≤ 16 ∧ am_I gr 0 8 = nI k) ∧ FrU g0 gr
theorem BI.act {p n u j j' : Nat} {b0 : Int32} {g0 gc gr gc' gr' : am_G} {q : Option pLw} {c : Nat → pTk} {X : Cd} (h : BI p b0 g0 q n c u X j gc gr) (hP : PkS gc' p) (hr : vr gc' 1 p = rr gr') (hS : ShR gc') (hL : LawC gc' q) (h33 : am_I gc' 33 2 = am_I gc 33 2) (h34 : am_I gc' 34 = am_I gc 34) (h35 : am_I gc' 35 = am_I gc 35) (h12 : am_I gc' 12 4 = am_I gc 12 4) (hF : FrU gr gr') (hL' : LawR (am_I gr' 2) q) (hV : okV (rr gr')) (h20 : am_I gr' 0 20 = nI 0) (h8 : ∃ k, k ≤ 16 ∧ am_I gr' 0 8 = nI k) (hk : ∃ k s, k ≤ j' ∧ am_I gc' 37 24 = nI k ∧ am_I gc' 37 25 = nI s ∧ am_I gr' 0 56 = nI k ∧ am_I gr' 0 57 = nI s) (h58 : am_I gr' 0 58 = am_I gr 0 58) : BI p b0 g0 q n c u X j' gc' gr' := by
  obtain ⟨⟨k0, s0, -, t1, t2, ⟨nW, t3, t4, t5⟩, t6, t7, t8, t9, t10⟩, hT, -, -, -, -, -, hU⟩ := h
  obtain ⟨k, s, k1, k2, k3, k4, k5⟩ := hk
  refine ⟨⟨k, s, k1, hP, hr, ⟨nW, t3, ?_, by rw [h12]; exact t5⟩, k2, k3, k4, k5, by rw [h58]; exact t10⟩, hT.cg hS h33 h34 h35 ?_ ?_ ?_ ?_, hL, hL', hV, h20, h8, hU.tr hF⟩
  · rw [hF.1 2 0 (by decide) (by decide) (by omega) (by omega) (by omega) (by omega)]; exact t4
  · exact hF.1 0 21 (by decide) (by decide) (by omega) (by omega) (by omega) (by omega)
  · exact fun k => hF.1 11 k (by decide) (by decide) (by omega) (by omega) (by omega) (by omega)
  · exact fun k => hF.1 12 k (by decide) (by decide) (by omega) (by omega) (by omega) (by omega)
  · exact fun k => hF.1 33 k (by decide) (by decide) (by omega) (by omega) (by omega) (by omega)
theorem BI.quiet {p n u j j' : Nat} {b0 : Int32} {g0 gc gr gc' gr' : am_G} {q : Option pLw} {c : Nat → pTk} {X : Cd} (hp : okP p) (h : BI p b0 g0 q n c u X j gc gr) (hj : j ≤ j') (hc : FcA gc gc') (h24 : am_I gc' 37 24 = am_I gc 37 24) (h25 : am_I gc' 37 25 = am_I gc 37 25) (hF : FrU gr gr') (h2 : am_I gr' 2 = am_I gr 2) (h20 : am_I gr' 0 20 = nI 0) (h0 : ∀ k, k = 8 ∨ k = 56 ∨ k = 57 ∨ k = 58 → am_I gr' 0 k = am_I gr 0 k) : BI p b0 g0 q n c u X j' gc' gr' := by
  have h' := h
  obtain ⟨⟨k0, s0, k1, t1, t2, ⟨nW, t3, t4, t5⟩, t6, t7, t8, t9, t10⟩, hT, hL, hL', hV, -, ⟨k8, k8', e8⟩, hU⟩ := h'
  have er : rr gr' = rr gr := rr_cg h2
  exact h.act (t1.eq hc.1) (by rw [hp.fa hc, er]; exact t2) (hT.1.tra (fun a _ => by rw [show am_S gc' = am_S gc from congrArg (fun z => z.2.2.1) hc.1]) (by rw [show am_P gc' = am_P gc from congrArg (fun z => z.2.1) hc.1])) (hL.fc hc) (by rw [hc.2 33 (by decide) (by decide)]) (hc.2 34 (by decide) (by decide)) (hc.2 35 (by decide) (by decide)) (by rw [hc.2 12 (by decide) (by decide)]) hF (by rw [h2]; exact hL') (by rw [er]; exact hV) h20 ⟨k8, k8', by rw [h0 8 (by omega)]; exact e8⟩ ⟨k0, s0, Nat.le_trans k1 hj, by rw [h24]; exact t6, by rw [h25]; exact t7, by rw [h0 56 (by omega)]; exact t8, by rw [h0 57 (by omega)]; exact t9⟩ (h0 58 (by omega))
/-- the reference's act -/
def RA (q : Option pLw) (gr gr2 : am_G) : Prop := FrU gr gr2 ∧ LawR (am_I gr2 2) q ∧ okV (rr gr2) ∧ am_I gr2 0 20 = nI 0 ∧ (∃ k, k ≤ 16 ∧ am_I gr2 0 8 = nI k) ∧ ∀ k, k = 56 ∨ k = 57 ∨ k = 58 → am_I gr2 0 k = am_I gr 0 k
theorem refRem {gr : am_G} {kd : Nat} {q : Option pLw} (hq : LawR (am_I gr 2) q) (hV : okV (rr gr)) (h20 : am_I gr 0 20 = nI 0) (h8 : ∃ k, k ≤ 16 ∧ am_I gr 0 8 = nI k) : ∃ gr1, fX12_remember (nI kd) gr = some ((), gr1) ∧ rr gr1 = rr gr ∧ RA q gr gr1 := by
  obtain ⟨k, hk, ek⟩ := h8
  obtain ⟨g1, a1, a2, a3, a4⟩ := rem_U (kd := kd) hk ek
  obtain ⟨g1', b1, -, b3, -⟩ := q12_remember (kd := kd) hk ek
  have e : g1' = g1 := congrArg (fun z => z.2) (Option.some.inj (b1.symm.trans a1))
  subst e
  have er : rr g1' = rr gr := rr_cg a4
  exact ⟨g1', a1, er, a2, by rw [a4]; exact hq, by rw [er]; exact hV, by rw [b3 0 (by decide) (by decide) 20 (by omega)]; exact h20, ⟨_, Nat.min_le_left _ _, a3⟩, fun k hk => b3 0 (by decide) (by decide) k (by omega)⟩
theorem RA.fw {q : Option pLw} {gr gr1 gr2 : am_G} (h : RA q gr gr1) (hf : FrW gr1 gr2) (hV : okV (rr gr2)) : RA q gr gr2 := by
  obtain ⟨h1, h2, h3, h4, ⟨k, hk, ek⟩, h6⟩ := h
  exact ⟨h1.tr hf.U, h2.fw hf, hV, by rw [hf.1 0 20 (by decide) (by decide) (by omega) (by omega)]; exact h4, ⟨k, hk, by rw [hf.1 0 8 (by decide) (by decide) (by omega) (by omega)]; exact ek⟩, fun k hk => (hf.1 0 k (by decide) (by decide) (by omega) (by omega)).trans (h6 k hk)⟩
theorem refSay {gr : am_G} {w pl l : Nat} {q : Option pLw} (hw : w < 16) (hpl : pl < 4) (hl : l ≤ 3) (hq : LawR (am_I gr 2) q) (hV : okV (rr gr)) (h20 : am_I gr 0 20 = nI 0) (h8 : ∃ k, k ≤ 16 ∧ am_I gr 0 8 = nI k) : ∃ gr1 gr2, fX12_remember (nI 0) gr = some ((), gr1) ∧ fX12_sayIt (nI 0) (nI w) (nI pl) (nI l) gr1 = some (nI (sayP q (rr gr) 0 w pl l).1, gr2) ∧ rr gr2 = (sayP q (rr gr) 0 w pl l).2 ∧ RA q gr gr2 := by
  obtain ⟨g1, a1, er, a2⟩ := refRem (kd := 0) hq hV h20 h8
  obtain ⟨g2, b1, b2, b3⟩ := q12_sayIt (g := g1) (ρ := rr gr) (i := 0) (by decide) hw hpl hl a2.2.1 a2.2.2.2.1 er hV
  exact ⟨g1, g2, a1, b1, b2, a2.fw b3 (by rw [b2]; exact sayP_okv hV (by decide))⟩
theorem refNight {gr : am_G} {q : Option pLw} (hd : rr gr 6 < nI 999) (hq : LawR (am_I gr 2) q) (hV : okV (rr gr)) (h20 : am_I gr 0 20 = nI 0) (h8 : ∃ k, k ≤ 16 ∧ am_I gr 0 8 = nI k) : ∃ gr1 gr2, fX12_remember (nI 1) gr = some ((), gr1) ∧ fX12_dawnIt gr1 = some (nI (dwnP q (rr gr)).1, gr2) ∧ rr gr2 = (dwnP q (rr gr)).2 ∧ RA q gr gr2 := by
  obtain ⟨g1, a1, er, a2⟩ := refRem (kd := 1) hq hV h20 h8
  obtain ⟨g2, b1, b2, b3⟩ := q12_dawnIt (g := g1) (ρ := rr gr) a2.2.1 a2.2.2.2.1 er hV hd
  exact ⟨g1, g2, a1, b1, b2, a2.fw b3 (by rw [b2]; exact dwnP_okv hV hd)⟩
/-- the class's act -/
def CA (p : Nat) (q : Option pLw) (gc gc2 gr2 : am_G) : Prop := PkS gc2 p ∧ vr gc2 1 p = rr gr2 ∧ ShR gc2 ∧ LawC gc2 q ∧ am_I gc2 37 24 = am_I gc 37 24 ∧ am_I gc2 37 25 = am_I gc 37 25 ∧ am_I gc2 12 4 = am_I gc 12 4 ∧ am_I gc2 33 2 = am_I gc 33 2 ∧ am_I gc2 34 = am_I gc 34 ∧ am_I gc2 35 = am_I gc 35
def aUt (p : Nat) (a3 : Int32) (w pl l : Nat) (gc : am_G) : Option (Int32 × am_G) := if a3 = 0 then fX11_utter p (nI 0) (nI w) (nI pl) (nI l) gc else am_bd (fX8_keep p (nI 0) gc) fun _ g => fX11_utter p (nI 0) (nI w) (nI pl) (nI l) g
def aNi (p : Nat) (a3 : Int32) (gc : am_G) : Option (Int32 × am_G) := if a3 = 0 then fX11_passNight p gc else am_bd (fX8_keep p (nI 1) gc) fun _ g => fX11_passNight p g
def Act (p : Nat) (a3 : Int32) (q : Option pLw) (Q : Nat → am_G → am_G → Prop) : Prop :=
  (∀ j gc gr, Q j gc gr → Q (j + 1) gc gr) ∧
  (∀ j gc gr gc' gr', Q j gc gr → FcA gc gc' → FrT gr gr' → Q j gc' gr') ∧
  (∀ j gc gr gr1 gr2 w pl l, j < 240 → Q j gc gr → PkS gc p → ShR gc → vr gc 1 p = rr gr → LawC gc q → LawR (am_I gr 2) q → okV (rr gr) → w < 16 → pl < 4 → l ≤ 3 → fX12_remember (nI 0) gr = some ((), gr1) → fX12_sayIt (nI 0) (nI w) (nI pl) (nI l) gr1 = some (nI (sayP q (rr gr) 0 w pl l).1, gr2) → rr gr2 = (sayP q (rr gr) 0 w pl l).2 → ∃ gc2, aUt p a3 w pl l gc = some (nI (sayP q (rr gr) 0 w pl l).1, gc2) ∧ Q (j + 1) gc2 gr2 ∧ CA p q gc gc2 gr2) ∧
  (∀ j gc gr gr1 gr2, j < 240 → Q j gc gr → PkS gc p → ShR gc → vr gc 1 p = rr gr → LawC gc q → LawR (am_I gr 2) q → okV (rr gr) → rr gr 6 < nI 999 → fX12_remember (nI 1) gr = some ((), gr1) → fX12_dawnIt gr1 = some (nI (dwnP q (rr gr)).1, gr2) → rr gr2 = (dwnP q (rr gr)).2 → ∃ gc2, aNi p a3 gc = some (nI (dwnP q (rr gr)).1, gc2) ∧ Q (j + 1) gc2 gr2 ∧ CA p q gc gc2 gr2)
/-- on paper -/
theorem act_pap (g0 : am_G) (q : Option pLw) : Act 65 0 q (fun _ gc _ => FcS g0 gc) := by
  have key : ∀ gc gc2, Fc 65 gc gc2 → FcS gc gc2 := fun gc gc2 h => ⟨h.1, fun a h1 h2 => h.2 a (by omega) (by omega) (by omega)⟩
  have hp : okP 65 := Or.inr (by decide)
  have ca : ∀ gc gc2 gr2, PkS gc 65 → ShR gc → LawC gc q → Fc 65 gc gc2 → KN gc gc2 → vr gc2 1 65 = rr gr2 → CA 65 q gc gc2 gr2 := fun gc gc2 gr2 h1 h2 h3 h4 h5 h6 => ⟨h1.eq h4.1, h6, h2.eq (congrArg (fun z => z.2.1) h4.1) (congrArg (fun z => z.2.2.1) h4.1), h3.fcp hp h4, h5.2 24 (by decide), h5.2 25 (by decide), by rw [h4.2 12 (by decide) (by decide) (by decide)], by rw [h4.2 33 (by decide) (by decide) (by decide)], h4.2 34 (by decide) (by decide) (by decide), h4.2 35 (by decide) (by decide) (by decide)⟩
  refine ⟨fun j gc gr h => h, fun j gc gr gc' gr' h h1 _ => h.tr h1.S, ?_, ?_⟩
  · intro j gc gr gr1 gr2 w pl l hj hQ hP hS hr hL hL' hV hw hpl hl e1 e2 e3
    obtain ⟨gc2, a1, a2, a3⟩ := q11_utter (i := 0) hp (by decide) hw hpl hl hP hL hr hV
    refine ⟨gc2, ?_, hQ.tr (key _ _ a3), ca _ _ _ hP hS hL a3 (k_11_utter ⟨hp, hP⟩ _ _ a1) (by rw [a2, e3])⟩
    unfold aUt
    rw [if_pos rfl]
    exact a1
  · intro j gc gr gr1 gr2 hj hQ hP hS hr hL hL' hV hd e1 e2 e3
    obtain ⟨gc2, a1, a2, a3⟩ := q11_night hp hP hL hr hV hd
    refine ⟨gc2, ?_, hQ.tr (key _ _ a3), ca _ _ _ hP hS hL a3 (k_11_passNight ⟨hp, hP⟩ _ _ a1) (by rw [a2, e3])⟩
    unfold aNi
    rw [if_pos rfl]
    exact a1
theorem RelM.shr {B t : Nat} {gc gr : am_G} (h : RelM B t gc gr) : ShR gc := by
  obtain ⟨hR, hI, own, hU, hG, hT, hC, hW, nl, hnl, enl, hLw⟩ := h
  exact hC.2.2.2.2.2.2.2.2.2.2.2.2
/-- in the valley -/
theorem act_val (B t : Nat) (hB : B + 239760 < 2147483648) (q : Option pLw) : Act 2 1 q (fun j gc gr => RelM (B + 999 * j) t gc gr) := by
  have hp : okP 2 := Or.inl rfl
  refine ⟨fun j gc gr h => h.up (by omega) (Nat.le_refl _), fun j gc gr gc' gr' h h1 h2 => h.scrT h1.S h2, ?_, ?_⟩
  · intro j gc gr gr1 gr2 w pl l hj hQ hP hS hr hL hL' hV hw hpl hl e1 e2 e3
    obtain ⟨gc1, r1, gc2, r2, k1, k2, k3, k4, k5, k6, k7, k8, k9, k10, k11⟩ := hQ.keepSay (i := 0) (w := w) (pl := pl) (l := l) (by omega) hL hL' (by decide) hw hpl hl
    obtain ⟨gc1', r1', z1, z2, z3, z4, z5, -⟩ := hQ.keep (kd := 0) (Or.inl rfl)
    have x1 : gc1' = gc1 := congrArg (fun z => z.2) (Option.some.inj (z1.symm.trans k1))
    have x2 : r1 = gr1 := congrArg (fun z => z.2) (Option.some.inj (k2.symm.trans e1))
    subst x1
    subst x2
    have x3 : r2 = gr2 := congrArg (fun z => z.2) (Option.some.inj (k4.symm.trans e2))
    subst x3
    have kn := k_11_utter ⟨hp, z3.pk⟩ _ _ k3
    refine ⟨gc2, ?_, k5.up (by omega) (Nat.le_refl _), k5.pk, k5.1.row, k5.shr, k10, ?_, ?_, by rw [k7 12 (by decide) (by decide) (by decide) (by decide) (by decide) (by decide)], by rw [k7 33 (by decide) (by decide) (by decide) (by decide) (by decide) (by decide)], k7 34 (by decide) (by decide) (by decide) (by decide) (by decide) (by decide), k7 35 (by decide) (by decide) (by decide) (by decide) (by decide) (by decide)⟩
    · unfold aUt
      rw [if_neg (by decide), k1, pu_bd]
      exact k3
    · rw [kn.2 24 (by decide), z5 37 (by decide) (by decide) (by decide)]
    · rw [kn.2 25 (by decide), z5 37 (by decide) (by decide) (by decide)]
  · intro j gc gr gr1 gr2 hj hQ hP hS hr hL hL' hV hd e1 e2 e3
    obtain ⟨gc1, r1, gc2, r2, k1, k2, k3, k4, k5, k6, k7, k8, k9, k10, k11⟩ := hQ.keepNight (by omega) hL hL' hd
    obtain ⟨gc1', r1', z1, z2, z3, z4, z5, -⟩ := hQ.keep (kd := 1) (Or.inr rfl)
    have x1 : gc1' = gc1 := congrArg (fun z => z.2) (Option.some.inj (z1.symm.trans k1))
    have x2 : r1 = gr1 := congrArg (fun z => z.2) (Option.some.inj (k2.symm.trans e1))
    subst x1
    subst x2
    have x3 : r2 = gr2 := congrArg (fun z => z.2) (Option.some.inj (k4.symm.trans e2))
    subst x3
    have kn := k_11_passNight ⟨hp, z3.pk⟩ _ _ k3
    refine ⟨gc2, ?_, k5.up (by omega) (Nat.le_refl _), k5.pk, k5.1.row, k5.shr, k10, ?_, ?_, by rw [k7 12 (by decide) (by decide) (by decide) (by decide) (by decide) (by decide)], by rw [k7 33 (by decide) (by decide) (by decide) (by decide) (by decide) (by decide)], k7 34 (by decide) (by decide) (by decide) (by decide) (by decide) (by decide), k7 35 (by decide) (by decide) (by decide) (by decide) (by decide) (by decide)⟩
    · unfold aNi
      rw [if_neg (by decide), k1, pu_bd]
      exact k3
    · rw [kn.2 24 (by decide), z5 37 (by decide) (by decide) (by decide)]
    · rw [kn.2 25 (by decide), z5 37 (by decide) (by decide) (by decide)]
