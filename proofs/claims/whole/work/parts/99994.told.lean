/-! ===== told ===== -/
def KR97 (x30 : Int32) : Int32 → am_G → Option (Int32 × am_G) := fun (x97 : Int32) (g98 : am_G) =>
            am_bd (fX12_putBack (20 : Int32) g98) fun u99 g100 =>
            fX12_told_L197 (fun  (g102 : am_G) =>
              fX12_told_L228 x30 x97 am_fu (0 : Int32) g102) x30 x97 am_fu (0 : Int32) g100
def LKt (g22 : am_G) : Option (Int32 × am_G) :=
    am_bd (fX12_endText g22) fun u23 g24 =>
    if (am_I g24 0 19) = 0 then (
      am_bd (fX12_keepAll (20 : Int32) g24) fun u27 g28 =>
      am_let (am_I g28 0 8) fun x30 =>
      fX12_told_L77 (fun  (g39 : am_G) =>
        fX12_told_L104 (fun  (g48 : am_G) =>
          am_let (am_si g48 0 56 (0 : Int32)) fun g49 =>
          am_let (am_si g49 0 57 (0 : Int32)) fun g50 =>
          am_gd (am_in (8 : Int32) 5660) <|
          am_let (am_si g50 0 58 (am_I g50 2 (8 : Int32).toNatClampNeg)) fun g52 =>
          fX12_told_L151 (KR97 x30) x30 am_fu (0 : Int32) g52) x30 am_fu (0 : Int32) g39) x30 am_fu (0 : Int32) g28)
    else (
      am_bd (fX12_tell (-6 : Int32) g24) fun v103 g104 =>
      some (v103, g104))
theorem told_eq (g : am_G) : fX12_told g = (am_let (am_si g 0 0 (0 : Int32)) fun g1 =>
  am_let (am_si g1 0 59 (-1 : Int32)) fun g2 =>
  am_bd (fX12_beginText (1 : Int32) g2) fun u3 g4 =>
  am_bd (fX12_readTold g4) fun u6 g7 =>
  fX12_told_L19 LKt am_fu g7) := by
  unfold fX12_told
  rfl
def z24 (g : am_G) : am_G := am_si (am_si g 37 24 (nI 0)) 37 25 (nI 0)
theorem z24_fc (g : am_G) : FcA g (z24 g) := ⟨rfl, fun a h1 h2 => by unfold z24; rw [pI_si_ne _ _ _ h1, pI_si_ne _ _ _ h1]⟩
theorem tellAll_st {p : Nat} {a2 : Int32} {g : am_G} (hP : PkS g p) : fX11_tellAll p a2 g = fX11_tellAll_L39 p a2 (am_I g p 6) am_fu (nI 0) (z24 g) := by
  unfold fX11_tellAll
  rw [pu_gd (decide_eq_true hP.1), pu_let, pu_gd (show am_in (24 : Int32) 40 = true from rfl), pu_let, pu_gd (show am_in (25 : Int32) 40 = true from rfl), pu_let, show (24 : Int32).toNatClampNeg = 24 from rfl, show (25 : Int32).toNatClampNeg = 25 from rfl, show (0 : Int32) = nI 0 from rfl]
  unfold z24
  with_reducible rfl
theorem BI.ini {p n u nW : Nat} {q : Option pLw} {c : Nat → pTk} {X : Cd} {gc gr : am_G} (hp : okP p) (hT : TxT n c u X gc gr) (hP : PkS gc p) (hr : vr gc 1 p = rr gr) (hn : nW ≤ 16) (e0 : am_I gr 2 0 = nI nW) (e4 : am_I gc 12 4 = nI nW) (hq : LawC gc q) (hq' : LawR (am_I gr 2) q) (hV : okV (rr gr)) (h20 : am_I gr 0 20 = nI 0) (h8 : ∃ k, k ≤ 16 ∧ am_I gr 0 8 = nI k) : BI p (am_I gr 2 8) (kpS gr) q n c u X 0 (z24 gc) (kpS gr) := by
  obtain ⟨k1, k2, k3, k4, k5, k6, k7, k8⟩ := kpS_at gr
  have r2 : am_I (kpS gr) 2 = am_I gr 2 := funext fun k => k1 2 k (by decide) (by decide) (by omega) (by omega)
  have er : rr (kpS gr) = rr gr := rr_cg r2
  have f := z24_fc gc
  obtain ⟨k, hk, ek⟩ := h8
  refine ⟨⟨0, 0, Nat.le_refl _, hP.eq f.1, by rw [hp.fa f, er]; exact hr, ⟨nW, hn, by rw [r2]; exact e0, by rw [f.2 12 (by decide) (by decide)]; exact e4⟩, ?_, ?_, k5, k6, k7⟩, hT.cg (hT.1.eq rfl rfl) (by rw [f.2 33 (by decide) (by decide)]) (f.2 34 (by decide) (by decide)) (f.2 35 (by decide) (by decide)) (k1 0 21 (by decide) (by decide) (by omega) (by omega)) (fun k => k1 11 k (by decide) (by decide) (by omega) (by omega)) (fun k => k1 12 k (by decide) (by decide) (by omega) (by omega)) (fun k => k1 33 k (by decide) (by decide) (by omega) (by omega)), hq.fc f, by rw [r2]; exact hq', by rw [er]; exact hV, by rw [k1 0 20 (by decide) (by decide) (by omega) (by omega)]; exact h20, ⟨k, hk, by rw [k1 0 8 (by decide) (by decide) (by omega) (by omega)]; exact ek⟩, FrU.rf _⟩
  · unfold z24; rw [pe_ik (by decide), pe_ieq]
  · unfold z24; rw [pe_ieq]
theorem si_selfT {g : am_G} {a k : Nat} {x : Int32} (h : am_I g a k = x) : am_si g a k x = g := by
  have e : am_up (am_I g a) k x = am_I g a := by
    funext j
    by_cases hj : j = k
    · subst hj; rw [am_up_eq]; exact h.symm
    · rw [am_up_ne hj]
  show am_sr g a (am_up (am_I g a) k x) = g
  rw [e, sr_self]
theorem RelM.k8 {B t : Nat} {gc gr : am_G} (h : RelM B t gc gr) : ∃ k, k ≤ 16 ∧ am_I gr 0 8 = nI k := by
  obtain ⟨hR, hI, own, ⟨x, k, hx, hk, ex, ek, -⟩, -⟩ := h
  exact ⟨k, hk, ek⟩
/-- the text is read: it is told, or refused -/
theorem told_run {t n u : Nat} (ht : t < 512) {c : Nat → pTk} {X : Cd} {gc gr : am_G} (h : RelM (239760 * t) t gc gr) (h15 : am_I gc 0 15 = -1) (hT : TxT n c u X gc gr) : ∃ (v : Int32) (gc1 gr1 : am_G), (am_bd (fX2_copyFrom 65 2 gc) fun u6 g7 =>
    am_bd (fX11_tellAll 65 (0 : Int32) g7) fun v9 g10 =>
    am_let (am_si g10 0 15 v9) fun g12 =>
    if (am_I g12 0 15) = (-1 : Int32) then (
      am_bd (fX11_tellAll 2 (1 : Int32) g12) fun v14 g15 =>
      am_gd (am_in (24 : Int32) 40) <|
      am_bd (fX11_accepted (am_I g15 37 (24 : Int32).toNatClampNeg) g15) fun v18 g19 =>
      some (v18, g19))
    else (
      am_bd (fX11_refused (-3 : Int32) g12) fun v21 g22 =>
      some (v21, g22))) = some (v, gc1) ∧ fX12_told_L151 (KR97 (am_I gr 0 8)) (am_I gr 0 8) am_fu (nI 0) (kpS gr) = some (v, gr1) ∧ Rel (t + 1) gc1 gr1 := by
  have hfu : am_fu = 1048576 := rfl
  have hn12 : n ≤ 12 := hT.2.2.2.1
  have h' := h
  obtain ⟨hR, hI, own, hU, hG, hTp, hC, hW, nl, hnl, enl, hLw⟩ := h'
  have P65 : PkS gc 65 := hC.2.2.1
  obtain ⟨nW, w1, w2, w3⟩ := h.cntw
  obtain ⟨q, hq, hq'⟩ := h.law
  have hV := h.2.1.ow
  have fK := cpk_fr gc 65 2
  have fS : FcS gc (cpk gc 65 2) := ⟨fK.1, fun a h1 h2 => fK.2 a (by omega)⟩
  have P65' : PkS (cpk gc 65 2) 65 := P65.eq fK.1
  have hp65 : okP 65 := Or.inr (by decide)
  have hp2 : okP 2 := Or.inl rfl
  have er : vr (cpk gc 65 2) 1 65 = rr gr := by rw [cpk_vr (by unfold VP; omega) (by omega)]; exact h.1.row
  have e6 : am_I (cpk gc 65 2) 65 6 = am_I gr 2 8 := by rw [show am_I (cpk gc 65 2) 65 6 = vr (cpk gc 65 2) 1 65 8 from r_ha, er, rr_at (by decide)]
  have T1 : TxT n c u X (cpk gc 65 2) gr := hT.cg (hT.1.eq (congrArg (fun z => z.2.1) fK.1) (congrArg (fun z => z.2.2.1) fK.1)) (by rw [fK.2 33 (by omega)]) (fK.2 34 (by omega)) (fK.2 35 (by omega)) rfl (fun _ => rfl) (fun _ => rfl) (fun _ => rfl)
  have hq1 : LawC (cpk gc 65 2) q := hq.gen fK.1 (fK.2 1 (by omega)) (fun a ha => fK.2 a (by omega))
  have B1 := BI.ini hp65 T1 P65' er w1 w2 (by rw [fK.2 12 (by omega)]; exact w3) hq1 hq' hV h.ord h.k8
  have run := tout (x30 := am_I gr 0 8) (kr := KR97 (am_I gr 0 8)) hp65 (act_pap gc q) n 0 am_fu am_fu 0 _ _ (by omega) (by omega) (by omega) (by omega) B1 (fS.tr (z24_fc _).S)
  rw [q2_copyFrom P65 h.pk (by omega), pu_bd, tellAll_st P65', e6]
  rcases run with ⟨j1, gc2, gr2, hj1, y1, y2, y3, y4⟩ | ⟨ii, gc2, gr2, hii, y1, y2, y3, j1, g2, y4⟩
  · -- it runs through
    have h15' : am_I gc2 0 15 = -1 := by rw [y4.2 0 (by omega) (by decide)]; exact h15
    rw [y1, pu_bd, pu_let, si_selfT h15', if_pos h15']
    have R2 : RelM (239760 * t) t gc2 gr := h.scrT y4 (FrT.rf gr)
    have T2 : TxT n c u X gc2 gr := by
      have hT3 := y3.2.1
      exact ⟨R2.shr, hT.2.1, hT3.2.2.1, hT.2.2.2.1, hT3.2.2.2.2.1.mono (fun _ _ => rfl) (Nat.le_refl _) (pfx.rf X) (fun _ _ => rfl) (fun _ _ => rfl) (fun k _ => by
        have := y3.2.2.2.2.2.2.2.1 33 k (by decide) (by decide) (by omega) (by omega) (by omega) (by omega)
        rw [this, (kpS_at gr).1 33 k (by decide) (by decide) (by omega) (by omega)]), hT.2.2.2.2.2.1, hT.2.2.2.2.2.2.1, hT.2.2.2.2.2.2.2⟩
    obtain ⟨q2, hq2, hq2'⟩ := R2.law
    obtain ⟨nW2, w12, w22, w32⟩ := R2.cntw
    have B2 := BI.ini hp2 T2 R2.pk R2.1.row w12 w22 w32 hq2 hq2' hV R2.ord R2.k8
    have e62 : am_I gc2 2 6 = am_I gr 2 8 := by rw [show am_I gc2 2 6 = vr gc2 1 2 8 from r_ha, R2.1.row, rr_at (by decide)]
    have Q2 : RelM (239760 * t + 999 * 0) t (z24 gc2) (kpS gr) := R2.scrT (z24_fc gc2).S (kpS_T gr)
    have run2 := tout (x30 := am_I gr 0 8) (kr := KR97 (am_I gr 0 8)) hp2 (act_val (239760 * t) t (by omega) q2) n 0 am_fu am_fu 0 _ _ (by omega) (by omega) (by omega) (by omega) B2 Q2
    rw [tellAll_st R2.pk, e62]
    obtain ⟨k1, s1, hk1, -, -, -, -, -, v56, -⟩ := y3.1
    rw [v56, q12_tellP (by omega), pu_bd] at y2
    rcases run2 with ⟨j3, gc3, gr3, hj3, z1, z2, z3, z4⟩ | ⟨ii, gc3, gr3, hii, z1, z2, z3, -⟩
    · obtain ⟨k3, s3, hk3, -, -, -, c24, -, u56, -⟩ := z3.1
      rw [u56, q12_tellP (by omega), pu_bd] at z2
      refine ⟨nI k3, accC gc3, accR gr3, ?_, z2, z4.acc.up (by omega) (Nat.le_succ t)⟩
      rw [show fX11_tellAll_L39 2 (1 : Int32) (am_I gr 2 8) am_fu (nI 0) (z24 gc2) = some (-1, gc3) from z1, pu_bd, pu_gd (show am_in (24 : Int32) 40 = true from rfl), show (24 : Int32).toNatClampNeg = 24 from rfl, c24, s11_accepted, pu_bd]
    · exfalso
      rw [RBk_run] at z2
      have e := congrArg (fun z => z.1) (Option.some.inj (y2.symm.trans z2))
      dsimp only at e
      have e' := congrArg Int32.toInt e
      rw [nn_toInt (by omega), show (-nI 3).toInt = -3 by decide] at e'
      omega
  · -- it cannot be told
    have h15' : am_I (am_si gc2 0 15 (nI ii)) 0 15 = nI ii := pe_ieq _ _ _ _
    rw [y1, pu_bd, pu_let, h15', if_neg (show ¬ nI ii = -1 from nI_m1ne (by omega)), show (-3 : Int32) = -nI 3 from rfl, q11_refused (by decide), pu_bd]
    rw [RBk_run] at y2
    exact ⟨-nI 3, _, _, rfl, y2, Rel.nx ((((h.scrT y4 (FrT.rf gr)).s59 (nI ii)).scrT (FcS.rf _) (rbk_T y3)).refu (by decide))⟩
theorem m_told {t : Nat} (ht : t < 512) {gc gr : am_G} (h : Rel t gc gr) : ∃ (v : Int32) (gc1 gr1 : am_G), fX11_told gc = some (v, gc1) ∧ fX12_told gr = some (v, gr1) ∧ Rel (t + 1) gc1 gr1 := by
  have hT := (RelM.thr h).s59 (-1)
  rw [told_eq, pu_let, show am_si gr 0 0 (0 : Int32) = thr gr from rfl, pu_let]
  unfold fX11_told
  rw [pu_let]
  have h15 : am_I (am_si gc 0 15 (-1)) 0 15 = -1 := pe_ieq _ _ _ _
  generalize am_si gc 0 15 (-1) = gcI at *
  generalize am_si (thr gr) 0 59 (-1) = grI at *
  obtain ⟨b, len, tp, ct, e13, e9⟩ := hT.tp
  obtain ⟨hR, hI, own, hU, hG, hTp, hC, hW, nl, hnl, enl, hLw⟩ := id hT
  have hfu : am_fu = 1048576 := rfl
  obtain ⟨gcs, pl, cs, fct, hrd⟩ := q5_readS tp ct true
  obtain ⟨gr0, b1, b2, b3, b4⟩ := q12_beginText true tp e13 e9 hC.2.2.2.2.2.2.2.2.2.1 hC.2.2.2.2.2.2.2.2.2.2.1
  rw [show fX5_read (0 : Int32) gcI = fX5_read (nI (tN !true)) gcI from rfl, hrd, show fX12_beginText (1 : Int32) grI = some ((), gr0) from b1, pu_bd]
  have ll := toldLoop tp (K := LKt) 12 0 am_fu am_fu 0 0 0 (fun _ => 0, fun _ => 0, 0) (fun _ => (0, (fun _ _ => none), 0, none)) (rdS (nI (tN !true)) gcs) gr0 (by decide) (by omega) (by omega) cs b2 b3 (by show 0 ≤ 0; omega) (by omega) (by omega) (fun i hi => absurd hi (by omega))
  rcases ll with ⟨h', gc', gr', y1, y2, y3, y4, y5, y6, y7⟩ | ⟨h', u', p', X', n, c', gc', gr', y1, y2, y3, y4, y5, y6, y7, y8, y9, y10, y11, y12, y13, y14⟩
  · -- a fault
    have hb' := y4.b tp
    obtain ⟨gr2, t1, t2, t3, t4⟩ := endT_bad y6
    obtain ⟨f1, f2⟩ := FcR.of fct y2 (nI (plF b len h')) rfl
    have f3 := FrR.of (b4.tr (y7.tr t4))
    obtain ⟨r20, r13, r18, r19⟩ := etR_20 gr2
    have p32 : am_I gc' 32 h' = nI (plF b len h') := by
      rw [y2.2 32 h' (by omega) (by decide) (by decide) (by omega)]
      unfold rdS
      rw [pe_ine (by decide), pe_ine (by decide), pe_ine (by decide), pe_ine (by decide), pe_ine (by decide), pe_ine (by decide), pe_ine (by decide)]
      exact pl h' y4
    have hrel := hT.read f1 f3 f2 r13 (by rw [pe_ieq, r18, t3]) r20
    refine ⟨-nI 6, refC 6 (am_si gc' 29 5 (nI (plF b len h'))), refR 6 (etR gr2), ?_, ?_, Rel.nx (hrel.refu (by decide))⟩
    · rw [y1, pu_bd, if_pos (show nI 0 = (0 : Int32) from rfl), y3, pe_gd (show h' < 401 by omega) (by decide), pe_clamp (show h' < 2147483648 by omega), p32, pu_let, pz_0, pu_bd, if_pos (show nI 0 = (0 : Int32) from rfl), show (-6 : Int32) = -nI 6 from rfl, q11_refused (by decide), pu_bd]
    · refine y5.trans ?_
      unfold LKt
      rw [t1, pu_bd, if_neg (show ¬ am_I (etR gr2) 0 19 = 0 by rw [r19, t2]; decide), show (-6 : Int32) = -nI 6 from rfl, q12_tellN (by decide) (by decide), pu_bd]
  · -- a talk
    have hb' := y5.2.2.2.2.2.2.b tp
    obtain ⟨t1, t2, t3⟩ := endT_ok y6 y7
    obtain ⟨f1, f2⟩ := FcR.of fct y3 (-1) rfl
    have f3 := FrR.of (b4.tr y4)
    obtain ⟨r20, r13, r18, r19⟩ := etR_20 gr'
    have hrel := hT.read f1 f3 f2 r13 (by rw [pe_ieq, r18, t3]) r20
    have i34 : am_I (am_si gc' 29 5 (-1)) 34 = am_I gc' 34 := pI_si_ne _ _ _ (by decide)
    have i35 : am_I (am_si gc' 29 5 (-1)) 35 = am_I gc' 35 := pI_si_ne _ _ _ (by decide)
    have i33 : am_I (am_si gc' 29 5 (-1)) 33 2 = nI n := by rw [pe_ine (by decide)]; exact y9
    have ec : (am_bd (fX5_readClauses_L2 am_fu (nI 0) (rdS (nI (tN !true)) gcs)) fun v12 g13 =>
  if v12 = 0 then (
    am_gd (am_in (am_I g13 29 7) 401) <|
    am_let (am_si g13 29 5 (am_I g13 32 (am_I g13 29 7).toNatClampNeg)) fun g17 =>
    am_gd (am_zb v12) <|
    some (v12, g17))
  else (
    am_let (am_si g13 29 5 (-1 : Int32)) fun g19 =>
    am_gd (am_zb v12) <|
    some (v12, g19))) = some (nI 1, am_si gc' 29 5 (-1)) := by
      rw [y1, pu_bd, if_neg (show ¬ nI 1 = (0 : Int32) by decide), pu_let, pz_1]
    rw [ec, pu_bd, if_neg (show ¬ nI 1 = (0 : Int32) by decide)]
    have e0 : ∀ k, am_I (etR gr') 0 k = if k = 13 then nI 0 else if k = 20 then nI 0 else am_I gr' 0 k := fun k => by
      unfold etR
      rw [pI_si]
      by_cases h13 : k = 13
      · rw [if_pos ⟨rfl, h13⟩, if_pos h13]
      · rw [if_neg (fun z => h13 z.2), if_neg h13, pI_si]
        by_cases h20 : k = 20
        · rw [if_pos ⟨rfl, h20⟩, if_pos h20]
        · rw [if_neg (fun z => h20 z.2), if_neg h20]
    have ea : ∀ a k, a ≠ 0 → am_I (etR gr') a k = am_I gr' a k := fun a k ha => by unfold etR; rw [pe_ine ha, pe_ine ha]
    have TT : TxT n c' u' X' (am_si gc' 29 5 (-1)) (etR gr') := ⟨hrel.shr, by rw [e0, if_neg (by decide), if_neg (by decide)]; exact y8, i33, y11, y14.mono (fun _ _ => rfl) (Nat.le_refl _) (pfx.rf X') (fun i _ => by rw [i35]) (fun k _ => by rw [i34]) (fun k _ => ea 33 k (by decide)), fun i hi => by rw [ea 11 i (by decide), ea 12 i (by decide)]; exact y6.cd i hi, by omega, by omega⟩
    have h15A : am_I (am_si gc' 29 5 (-1)) 0 15 = -1 := by rw [f1.2 0 15 (by omega) (by omega)]; exact h15
    obtain ⟨v, gc1, gr1, x1, x2, x3⟩ := told_run ht hrel h15A TT
    refine ⟨v, gc1, gr1, x1, ?_, x3⟩
    refine y2.trans ?_
    unfold LKt
    rw [t1, pu_bd, if_pos (show am_I (etR gr') 0 19 = 0 by rw [r19]; exact t2)]
    refine Eq.trans (kpS_run (kk := fun x30 g52 => fX12_told_L151 (KR97 x30) x30 am_fu (0 : Int32) g52)) ?_
    exact x2
