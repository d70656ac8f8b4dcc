/-! ===== law: both ===== -/
def LKb (g23 : am_G) : Option (Int32 × am_G) :=
      am_bd (fX12_endText g23) fun u24 g25 =>
      if (am_I g25 0 19) = 0 then (
        am_gd (am_in (4 : Int32) 5660) <|
        am_let ((260 : Int32) + ((900 : Int32) * (am_I g25 2 (4 : Int32).toNatClampNeg))) fun x29 =>
        am_gd (am_in (x29 + (1 : Int32)) 5660) <|
        am_let (am_si g25 2 (x29 + (1 : Int32)).toNatClampNeg (am_I g25 0 21)) fun g31 =>
        fX12_law_L111 (fun  (g40 : am_G) =>
          fX12_law_L146 (fun  (g52 : am_G) =>
            am_gd (am_in (4 : Int32) 5660) <|
            am_gd (am_in (4 : Int32) 5660) <|
            am_let (am_si g52 2 (4 : Int32).toNatClampNeg ((am_I g52 2 (4 : Int32).toNatClampNeg) + (1 : Int32))) fun g55 =>
            am_gd (am_in (4 : Int32) 5660) <|
            am_bd (fX12_tell ((am_I g55 2 (4 : Int32).toNatClampNeg) - (1 : Int32)) g55) fun v57 g58 =>
            some (v57, g58)) x29 am_fu (0 : Int32) g40) x29 am_fu (0 : Int32) g31)
      else (
        am_bd (fX12_tell (-6 : Int32) g25) fun v60 g61 =>
        some (v60, g61))
theorem law_eq (g : am_G) : fX12_law g = (am_let (am_si g 0 0 (0 : Int32)) fun g1 =>
  am_gd (am_in (4 : Int32) 5660) <|
  if (am_I g1 2 (4 : Int32).toNatClampNeg) = (6 : Int32) then (
    am_let (am_si g1 0 13 (0 : Int32)) fun g63 =>
    am_bd (fX12_tell (-5 : Int32) g63) fun v64 g65 =>
    some (v64, g65))
  else (
    am_bd (fX12_beginText (0 : Int32) g1) fun u4 g5 =>
    am_bd (fX12_readLaw g5) fun u7 g8 =>
    fX12_law_L37 LKb am_fu g8)) := by
  unfold fX12_law
  rfl
/-- the tape of both -/
theorem RelM.tp {B t : Nat} {gc gr : am_G} (h : RelM B t gc gr) : ∃ b len, Tp b len ∧ CT b len gc ∧ am_I gr 0 13 = nI len ∧ ∀ i, i < len → am_I gr 9 i = nI (b i) := by
  obtain ⟨hR, hI, own, hU, hG, hTp, hC, hW, nl, hnl, enl, hLw⟩ := h
  have h0 : (0 : Int32) ≤ am_I gr 0 13 := Int32.le_iff_toInt_le.mpr (by have := hI.2.2.1.1; have : (0 : Int32).toInt = 0 := rfl; omega)
  obtain ⟨e1, e2⟩ := nn_of h0
  have hl : (am_I gr 0 13).toNatClampNeg ≤ 400 := by
    have z := hI.2.2.1.2
    have : (am_I gr 0 13).toNatClampNeg = (am_I gr 0 13).toInt.toNat := rfl
    omega
  generalize (am_I gr 0 13).toNatClampNeg = len at *
  have key : ∀ i, i < 400 → (am_I gr 9 i).toNatClampNeg < 256 ∧ am_I gr 9 i = nI (am_I gr 9 i).toNatClampNeg ∧ am_I gc 30 i = sb (am_I gr 9 i).toNatClampNeg := fun i hi => by
    obtain ⟨-, m, m1, m2, m3⟩ := hTp i hi
    rw [m2, pe_clamp (show m < 2147483648 by omega)]
    exact ⟨m1, rfl, m3⟩
  exact ⟨fun i => (am_I gr 9 i).toNatClampNeg, len, ⟨hl, fun i hi => (key i (by omega)).1⟩, ⟨(hR.at (by decide +kernel)).trans e1, fun i hi => (key i (by omega)).2.2⟩, e1, fun i hi => (key i (by omega)).2.1⟩
theorem FcR.of {g g1 g2 g3 : am_G} {v : Int32} (h1 : FcT g g1) (h2 : FcQ (rdS v g1) g2) (x : Int32) (h3 : g3 = am_si g2 29 5 x) : FcR g g3 ∧ am_I g3 29 4 = nI 0 := by
  subst h3
  have e1 : ∀ a k, ¬ (31 ≤ a ∧ a ≤ 70) → ¬ (a = 29 ∧ 4 ≤ k ∧ k ≤ 10) → am_I (rdS v g1) a k = am_I g1 a k := fun a k h1 h2 => by
    unfold rdS
    rw [pI_si, if_neg (by omega), pI_si, if_neg (by omega), pI_si, if_neg (by omega), pI_si, if_neg (by omega), pI_si, if_neg (by omega), pI_si, if_neg (by omega), pI_si, if_neg (by omega)]
  refine ⟨⟨h2.1.trans h1.1, fun a k ha hk => ?_⟩, ?_⟩
  · rw [pI_si, if_neg (by omega), h2.2 a k (by omega) (by omega) (by omega) (by omega), e1 a k ha hk, h1.2 a (by omega) (by omega)]
  · rw [pe_ik (by decide), h2.2 29 4 (by omega) (by omega) (by omega) (by omega)]
    unfold rdS
    rw [pe_ine (by decide), pe_ik (by decide), pe_ik (by decide), pe_ik (by decide), pe_ik (by decide), pe_ik (by decide), pe_ieq]
theorem FrR.of {g g1 : am_G} {v : Int32} (h : FrQ (am_si g 0 20 v) g1) : FrR g (etR g1) := by
  refine ⟨fun a k h1 h2 => ?_, fun a h0 _ _ _ => funext fun k => (h.2.1 a k (by omega)), h.2.2⟩
  unfold etR
  rw [pI_si, if_neg (by omega), pI_si, if_neg (by omega), h.1 a k (by unfold scR at h1; omega) (by unfold scR at h1; omega) (by unfold scR sc0 at h1; omega), pI_si, if_neg (by omega)]
theorem etR_20 (g : am_G) : am_I (etR g) 0 20 = nI 0 ∧ am_I (etR g) 0 13 = nI 0 ∧ am_I (etR g) 0 18 = am_I g 0 18 ∧ am_I (etR g) 0 19 = am_I g 0 19 := by
  unfold etR
  refine ⟨by rw [pe_ik (by decide), pe_ieq], pe_ieq _ _ _ _, by rw [pe_ik (by decide), pe_ik (by decide)], by rw [pe_ik (by decide), pe_ik (by decide)]⟩
theorem txtC_of {gc gc1 gr : am_G} {n u N : Nat} {c : Nat → pCl} {X : Cd} (hI : LwI n c u X gc gr) (hn : n ≤ 12) (h79 : 79 ≤ N) (hu : u ≤ 512) (s0 : am_S gc1 N = (6, 3)) (p0 : am_P gc1 N 0 = some (N + 1)) (p1 : am_P gc1 N 1 = some (N + 2)) (i2 : am_I gc1 N 2 = nI n) (s1 : am_S gc1 (N + 1) = (20, n * 6)) (s2 : am_S gc1 (N + 2) = (20, u)) (c1 : ∀ k, k < n * 6 → am_I gc1 (N + 1) k = am_I gc 34 k) (c2 : ∀ k, k < u → am_I gc1 (N + 2) k = am_I gc 35 k) : TxtC gc1 N (n, c) := by
  have val : ∀ a D, VC (am_I gc 35) u a D → ValC (am_I gc1 (N + 2)) u a D := fun a D h => by
    obtain ⟨e, d, y1, y2, y3, y4⟩ := h
    exact ⟨e, d, 0, y1.mono (Nat.le_refl _) (fun i _ hi => c2 i (by omega)), y2, y3, hu, by rw [c2 e y3]; exact y4, by decide⟩
  refine ⟨s0, hn, i2, h79, N + 1, N + 2, u, p0, p1, by omega, by omega, s1, s2, fun i hi => ?_⟩
  have hi' : i < n := hi
  obtain ⟨a1, a2, a3, a4, a5, a6⟩ := hI i hi'
  refine ⟨a1, by rw [c1 _ (by omega), show i * 6 + 0 = 6 * i by omega]; exact a2, fun z => ?_, fun T hT => ?_, fun hT => ?_⟩
  · obtain ⟨a, f, l, x1, x2, -⟩ := a4 z
    exact ⟨a, by rw [c1 _ (by omega), show i * 6 + 1 + 0 = 6 * i + 1 by omega]; exact x1, val _ _ x2⟩
  · obtain ⟨a, f, l, x0, x1, x2, -⟩ := a5 T hT
    exact ⟨a, by omega, by rw [c1 _ (by omega), show i * 6 + 4 = 6 * i + 4 by omega]; exact x1, val _ _ x2⟩
  · rw [c1 _ (by omega), show i * 6 + 4 = 6 * i + 4 by omega]; exact (a6 hT).1
theorem txtR_of {gc gr : am_G} {W : Nat → Int32} {n u at' : Nat} {c : Nat → pCl} {X : Cd} (hI : LwI n c u X gc gr) (hn : n ≤ 12) (hat : at' + 900 ≤ 5660) (hX : X.2.2 < 400) (w1 : W (at' + 1) = nI n) (w2 : ∀ k, k < 8 * n → W (at' + 2 + k) = am_I gr 10 k) (w3 : ∀ i, i < X.2.2 → W (at' + 98 + 2 * i) = nI (X.1 i) ∧ W (at' + 98 + 2 * i + 1) = nI (X.2.1 i)) : TxtR W at' (n, c) := by
  have val : ∀ f l D, VR false X f l D → l ≤ X.2.2 ∧ ValR false X.1 X.2.1 f l D := fun f l D h => by
    obtain ⟨d, y1, y2, y3⟩ := h
    exact ⟨y3, d, y1, by omega, by omega⟩
  refine ⟨hat, w1, hn, X.1, X.2.1, X.2.2, hX, w3, fun i hi => ?_⟩
  have hi' : i < n := hi
  obtain ⟨a1, a2, a3, a4, a5, a6⟩ := hI i hi'
  refine ⟨a1, by rw [w2 _ (by omega)]; exact a3, fun z => ?_, fun T hT => ?_, fun hT => ?_⟩
  · obtain ⟨a, f, l, -, -, x3, x4, x5⟩ := a4 z
    have v := val _ _ _ x5
    exact ⟨f, l, by rw [show at' + 2 + 8 * i + 3 = at' + 2 + (8 * i + 3) by omega, w2 _ (by omega)]; exact x3, by rw [show at' + 2 + 8 * i + 4 = at' + 2 + (8 * i + 4) by omega, w2 _ (by omega)]; exact x4, v.1, v.2⟩
  · obtain ⟨a, f, l, -, -, -, x3, x4, x5⟩ := a5 T hT
    have v := val _ _ _ x5
    exact ⟨f, l, by rw [show at' + 2 + 8 * i + 5 = at' + 2 + (8 * i + 5) by omega, w2 _ (by omega)]; exact x3, by rw [show at' + 2 + 8 * i + 6 = at' + 2 + (8 * i + 6) by omega, w2 _ (by omega)]; exact x4, v.1, v.2⟩
  · rw [show at' + 2 + 8 * i + 6 = at' + 2 + (8 * i + 6) by omega, w2 _ (by omega), show at' + 2 + 8 * i + 5 = at' + 2 + (8 * i + 5) by omega, w2 _ (by omega)]; exact (a6 hT).2
theorem m_law {t : Nat} {gc gr : am_G} (h : Rel t gc gr) : ∃ (v : Int32) (gc1 gr1 : am_G), fX11_law gc = some (v, gc1) ∧ fX12_law gr = some (v, gr1) ∧ Rel (t + 1) gc1 gr1 := by
  have hT := RelM.thr h
  obtain ⟨b, len, tp, ct, e13, e9⟩ := hT.tp
  obtain ⟨hR, hI, own, hU, hG, hTp, hC, hW, nl, hnl, enl, hLw⟩ := id hT
  have e17 : am_I gc 1 17 = nI nl := (hR.at (by decide +kernel)).trans enl
  have hfu : am_fu = 1048576 := rfl
  rw [law_eq, pu_let, show am_si gr 0 0 (0 : Int32) = thr gr from rfl, show am_in (4 : Int32) 5660 = true from rfl, pu_gdt, show (4 : Int32).toNatClampNeg = 4 from rfl, enl]
  unfold fX11_law
  rw [e17]
  by_cases h6 : nl = 6
  · subst h6
    rw [if_neg (show ¬ nI 6 < (6 : Int32) by decide), if_pos (show nI 6 = (6 : Int32) from rfl), pu_let, pu_let]
    have hrd : RelM (239760 * t) t (am_si gc 29 4 (nI 0)) (am_si (thr gr) 0 13 (nI 0)) := by
      refine hT.read ⟨rfl, fun a k h1 h2 => by rw [pI_si, if_neg (by omega)]⟩ ⟨fun a k h1 h2 => by rw [pI_si, if_neg (by omega)], fun _ _ _ _ _ => rfl, rfl⟩ (pe_ieq _ _ _ _) (pe_ieq _ _ _ _) ?_ ?_
      · rw [pe_ik (by decide), pe_ik (by decide)]; exact hR.at (by decide +kernel)
      · rw [pe_ik (by decide)]; exact hT.ord
    refine ⟨-nI 5, refC 5 (am_si gc 29 4 (nI 0)), refR 5 (am_si (thr gr) 0 13 (nI 0)), ?_, ?_, Rel.nx (hrd.refu (by decide))⟩
    · rw [show (-5 : Int32) = -nI 5 from rfl, show (0 : Int32) = nI 0 from rfl, q11_refused (by decide), pu_bd]
    · rw [show (-5 : Int32) = -nI 5 from rfl, show (0 : Int32) = nI 0 from rfl, q12_tellN (by decide) (by decide), pu_bd]
  · have hnl6 : nl < 6 := by omega
    rw [if_pos (show nI nl < (6 : Int32) from nI_lt (a := nl) (b := 6) hnl6 (by decide)), if_neg (show ¬ nI nl = (6 : Int32) from nne (k := 6) (by omega) (by decide) h6)]
    obtain ⟨gcs, pl, cs, fct, hrd⟩ := q5_readS tp ct false
    obtain ⟨gr0, b1, b2, b3, b4⟩ := q12_beginText false tp e13 e9 hC.2.2.2.2.2.2.2.2.2.1 hC.2.2.2.2.2.2.2.2.2.2.1
    rw [show fX5_read (1 : Int32) gc = fX5_read (nI (tN !false)) gc from rfl, hrd, show fX12_beginText (0 : Int32) (thr gr) = some ((), gr0) from b1, pu_bd]
    have l17 : am_L gr0 17 = am_L am_gr 17 := by rw [b4.L17]; exact hC.2.2.2.2.2.2.2.2.2.2.2.1
    have ll := lawLoop tp (K := LKb) 12 0 am_fu am_fu 0 0 0 (fun _ => 0, fun _ => 0, 0) (fun _ => (0, (fun _ => none), none)) (rdS (nI (tN !false)) gcs) gr0 (by decide) (by omega) (by omega) cs b2 b3 (by show 0 ≤ 0; omega) (by omega) (by omega) l17 (fun i hi => absurd hi (by omega))
    rcases ll with ⟨h', gc', gr', y1, y2, y3, y4, y5, y6, y7⟩ | ⟨h', u', p', X', n, c', gc', gr', y1, y2, y3, y4, y5, y6, y7, y8, y9, y10, y11, y12, y13, y14⟩
    · -- a fault
      have hb' := y4.b tp
      obtain ⟨gr2, t1, t2, t3, t4⟩ := endT_bad y6
      obtain ⟨f1, f2⟩ := FcR.of fct y2 (nI (plF b len h')) rfl
      have f3 := FrR.of (b4.tr (y7.tr t4))
      obtain ⟨r20, r13, r18, r19⟩ := etR_20 gr2
      have p32 : am_I gc' 32 h' = nI (plF b len h') := by
        rw [y2.2 32 h' (by omega) (by decide) (by decide) (by omega)]
        unfold rdS
        rw [pe_ine (by decide), pe_ine (by decide), pe_ine (by decide), pe_ine (by decide), pe_ine (by decide), pe_ine (by decide), pe_ine (by decide)]
        exact pl h' y4
      have hrel := hT.read f1 f3 f2 r13 (by rw [pe_ieq, r18, t3]) r20
      refine ⟨-nI 6, refC 6 (am_si gc' 29 5 (nI (plF b len h'))), refR 6 (etR gr2), ?_, ?_, Rel.nx (hrel.refu (by decide))⟩
      · rw [y1, pu_bd, if_pos (show nI 0 = (0 : Int32) from rfl), y3, pe_gd (show h' < 401 by omega) (by decide), pe_clamp (show h' < 2147483648 by omega), p32, pu_let, pz_0, pu_bd, if_pos (show nI 0 = (0 : Int32) from rfl), show (-6 : Int32) = -nI 6 from rfl, q11_refused (by decide), pu_bd]
      · refine y5.trans ?_
        unfold LKb
        rw [t1, pu_bd, if_neg (show ¬ am_I (etR gr2) 0 19 = 0 by rw [r19, t2]; decide), show (-6 : Int32) = -nI 6 from rfl, q12_tellN (by decide) (by decide), pu_bd]
    · -- a law
      have hb' := y5.2.2.2.2.2.2.b tp
      obtain ⟨t1, t2, t3⟩ := endT_ok y6 y7
      obtain ⟨f1, f2⟩ := FcR.of fct y3 (-1) rfl
      have f3 := FrR.of (b4.tr y4)
      obtain ⟨r20, r13, r18, r19⟩ := etR_20 gr'
      have hrel := hT.read f1 f3 f2 r13 (by rw [pe_ieq, r18, t3]) r20
      have i34 : am_I (am_si gc' 29 5 (-1)) 34 = am_I gc' 34 := pI_si_ne _ _ _ (by decide)
      have i35 : am_I (am_si gc' 29 5 (-1)) 35 = am_I gc' 35 := pI_si_ne _ _ _ (by decide)
      have i33 : am_I (am_si gc' 29 5 (-1)) 33 2 = nI n := by rw [pe_ine (by decide)]; exact y9
      have i296 : am_I (am_si gc' 29 5 (-1)) 29 6 = nI u' := by rw [pe_ik (by decide)]; exact y5.2.1
      have ec : (am_bd (fX5_readClauses_L2 am_fu (nI 0) (rdS (nI (tN !false)) gcs)) fun v12 g13 =>
  if v12 = 0 then (
    am_gd (am_in (am_I g13 29 7) 401) <|
    am_let (am_si g13 29 5 (am_I g13 32 (am_I g13 29 7).toNatClampNeg)) fun g17 =>
    am_gd (am_zb v12) <|
    some (v12, g17))
  else (
    am_let (am_si g13 29 5 (-1 : Int32)) fun g19 =>
    am_gd (am_zb v12) <|
    some (v12, g19))) = some (nI 1, am_si gc' 29 5 (-1)) := by
        rw [y1, pu_bd, if_neg (show ¬ nI 1 = (0 : Int32) by decide), pu_let, pz_1]
      rw [ec, pu_bd, if_neg (show ¬ nI 1 = (0 : Int32) by decide)]
      have gI : LwI n c' u' X' (am_si gc' 29 5 (-1)) gr' := y14.mono (fun _ _ => rfl) (Nat.le_refl _) (pfx.rf X') (fun i _ => by rw [i35]) (fun k _ => by rw [i34]) (fun _ _ => rfl)
      generalize am_si gc' 29 5 (-1) = gcA at *
      obtain ⟨hRA, hIA, ownA, hUA, hGA, hTA, hCA, hWA, nlA, hnlA, enlA, hLA⟩ := id hrel
      have h79 := hCA.2.2.2.2.1
      have sh := hCA.2.2.2.2.2.2.2.2.2.2.2.2
      have e17A : am_I gcA 1 17 = nI nl := by rw [f1.2 1 17 (by omega) (by omega)]; exact e17
      have e24A : am_I (etR gr') 2 4 = nI nl := by rw [f3.1 2 4 (by unfold scR; omega) (by omega)]; exact enl
      obtain ⟨g7, q1, q2, q3, q4, q5, q6, q7, q8, q9, q10, q11, q12⟩ := q6_trimmed (g := gcA) (n := n) (u := u') rfl h79 sh.2.1 sh.2.2.1 i33 y11 (by omega)
      have c1 : am_I (etR gr') 0 21 = nI n := by unfold etR; rw [pe_ik (by decide), pe_ik (by decide)]; exact y8
      have c23 : am_I (etR gr') 0 23 = nI X'.2.2 := by unfold etR; rw [pe_ik (by decide), pe_ik (by decide)]; exact y6.c.1
      have c10 : ∀ k, am_I (etR gr') 10 k = am_I gr' 10 k := fun k => by unfold etR; rw [pe_ine (by decide), pe_ine (by decide)]
      have c11 : ∀ i, i < X'.2.2 → am_I (etR gr') 11 i = nI (X'.1 i) ∧ am_I (etR gr') 12 i = nI (X'.2.1 i) := fun i hi => by
        unfold etR
        rw [pe_ine (by decide), pe_ine (by decide), pe_ine (by decide), pe_ine (by decide)]
        exact y6.cd i hi
      have hlk : (am_bd (fX12_readLaw gr0) fun u7 g8 => fX12_law_L37 LKb am_fu g8) = LKb gr' := y2
      rw [hlk]
      unfold LKb
      rw [t1, pu_bd, if_pos (show am_I (etR gr') 0 19 = 0 by rw [r19]; exact t2)]
      generalize etR gr' = grA at *
      have w1 := lawW1 (at' := 260 + 900 * nl) (n := n) (K := fun g40 => fX12_law_L146 (fun  (g52 : am_G) =>
            am_gd (am_in (4 : Int32) 5660) <|
            am_gd (am_in (4 : Int32) 5660) <|
            am_let (am_si g52 2 (4 : Int32).toNatClampNeg ((am_I g52 2 (4 : Int32).toNatClampNeg) + (1 : Int32))) fun g55 =>
            am_gd (am_in (4 : Int32) 5660) <|
            am_bd (fX12_tell ((am_I g55 2 (4 : Int32).toNatClampNeg) - (1 : Int32)) g55) fun v57 g58 =>
            some (v57, g58)) (nI (260 + 900 * nl)) am_fu (0 : Int32) g40) (by omega) y11 (8 * n) 0 am_fu (am_si grA 2 (260 + 900 * nl + 1) (nI n)) (by omega) (by omega) (by rw [pe_ine (by decide)]; exact c1)
      rw [Nat.add_zero] at w1
      generalize hF1 : am_sr (am_si grA 2 (260 + 900 * nl + 1) (nI n)) 2 (fun j => if 260 + 900 * nl + 2 ≤ j ∧ j < 260 + 900 * nl + 2 + 8 * n then am_I (am_si grA 2 (260 + 900 * nl + 1) (nI n)) 10 (j - (260 + 900 * nl + 2)) else am_I (am_si grA 2 (260 + 900 * nl + 1) (nI n)) 2 j) = gB at *
      have vB : ∀ a k, a ≠ 2 → am_I gB a k = am_I grA a k := fun a k ha => by rw [← hF1, pI_sr_ne _ _ ha, pe_ine ha]
      have vB2 : ∀ j, am_I gB 2 j = if 260 + 900 * nl + 2 ≤ j ∧ j < 260 + 900 * nl + 2 + 8 * n then am_I grA 10 (j - (260 + 900 * nl + 2)) else if j = 260 + 900 * nl + 1 then nI n else am_I grA 2 j := fun j => by
        rw [← hF1, pI_sr_row]
        by_cases z : 260 + 900 * nl + 2 ≤ j ∧ j < 260 + 900 * nl + 2 + 8 * n
        · rw [if_pos z, if_pos z, pe_ine (by decide)]
        · rw [if_neg z, if_neg z, pI_si]
          by_cases y : j = 260 + 900 * nl + 1
          · rw [if_pos ⟨rfl, y⟩, if_pos y]
          · rw [if_neg (fun w => y w.2), if_neg y]
      have vBg : gB.2 = grA.2 := by rw [← hF1]; rfl
      clear hF1
      have w2 := lawW2 (at' := 260 + 900 * nl) (c := X'.2.2) (K := fun  (g52 : am_G) =>
            am_gd (am_in (4 : Int32) 5660) <|
            am_gd (am_in (4 : Int32) 5660) <|
            am_let (am_si g52 2 (4 : Int32).toNatClampNeg ((am_I g52 2 (4 : Int32).toNatClampNeg) + (1 : Int32))) fun g55 =>
            am_gd (am_in (4 : Int32) 5660) <|
            am_bd (fX12_tell ((am_I g55 2 (4 : Int32).toNatClampNeg) - (1 : Int32)) g55) fun v57 g58 =>
            some (v57, g58)) (by omega) (by omega) X'.2.2 0 am_fu gB (by omega) (by omega) (by rw [vB 0 23 (by decide)]; exact c23)
      generalize hF2 : am_sr gB 2 (cdF gB (260 + 900 * nl) 0 X'.2.2) = gD at *
      have vD : ∀ a k, a ≠ 2 → am_I gD a k = am_I grA a k := fun a k ha => by rw [← hF2, pI_sr_ne _ _ ha, vB a k ha]
      have vD2 : ∀ j, am_I gD 2 j = cdF gB (260 + 900 * nl) 0 X'.2.2 j := fun j => by rw [← hF2, pI_sr_row]
      have vDg : gD.2 = grA.2 := by rw [← hF2]; exact vBg
      clear hF2
      have vout : ∀ j, (j < 260 + 900 * nl + 1 ∨ 260 + 900 * nl + 900 ≤ j) → am_I gD 2 j = am_I grA 2 j := fun j hj => by
        rw [vD2]
        unfold cdF
        rw [if_neg (by omega), vB2, if_neg (by omega), if_neg (by omega)]
      have v4 : am_I gD 2 4 = nI nl := by rw [vout 4 (by omega)]; exact e24A
      have fin : LwI n c' u' X' gcA grA := gI.mono (fun _ _ => rfl) (Nat.le_refl _) (pfx.rf X') (fun _ _ => rfl) (fun _ _ => rfl) (fun k _ => c10 k)
      refine ⟨nI nl, accC (am_si (am_sp g7 24 nl (some (am_n gcA))) 1 17 (nI (nl + 1))), accR (am_si gD 2 4 (nI (nl + 1))), ?_, ?_, ?_⟩
      · have e17' : am_I (am_sp g7 24 nl (some (am_n gcA))) 1 17 = nI nl := by rw [pI_sp, (q12 1 (by omega)).2.2]; exact e17A
        rw [i296, q1, pu_bd, pu_ocs, e17A, pe_gd (show nl < 6 from hnl6) (by decide), pu_gd (decide_eq_true q4), pe_clamp (show nl < 2147483648 by omega), pu_let, pu_let, e17', show nI nl + (1 : Int32) = nI (nl + 1) from nI_add nl 1, pe_ieq, show nI (nl + 1) - (1 : Int32) = nI nl from nI_ms nl, s11_accepted, pu_bd]
      · rw [pu_gd (show am_in (4 : Int32) 5660 = true from rfl), show am_I grA 2 (4 : Int32).toNatClampNeg = nI nl from e24A, show (260 : Int32) + (900 : Int32) * nI nl = nI (260 + 900 * nl) by rw [show (900 : Int32) = nI 900 from rfl, nn_mul, show (260 : Int32) = nI 260 from rfl, nI_add], pu_let, show nI (260 + 900 * nl) + (1 : Int32) = nI (260 + 900 * nl + 1) from nI_add _ 1, pe_gd (show 260 + 900 * nl + 1 < 5660 by omega) (by decide), pu_let, pe_clamp (show 260 + 900 * nl + 1 < 2147483648 by omega), c1]
        refine Eq.trans w1 ?_
        refine Eq.trans w2 ?_
        rw [pu_gd (show am_in (4 : Int32) 5660 = true from rfl), pu_gd (show am_in (4 : Int32) 5660 = true from rfl), show am_I gD 2 (4 : Int32).toNatClampNeg = nI nl from v4, show nI nl + (1 : Int32) = nI (nl + 1) from nI_add nl 1, pu_let, pu_gd (show am_in (4 : Int32) 5660 = true from rfl), show am_I (am_si gD 2 (4 : Int32).toNatClampNeg (nI (nl + 1))) 2 (4 : Int32).toNatClampNeg = nI (nl + 1) from pe_ieq _ _ _ _, show nI (nl + 1) - (1 : Int32) = nI nl from nI_ms nl, q12_tellP (by omega), pu_bd]
        rfl
      · have hR1 : TxtR (am_I (am_si gD 2 4 (nI (nl + 1))) 2) (260 + 900 * nl) (n, c') := by
          refine txtR_of fin y11 (by omega) (by omega) ?_ (fun k hk => ?_) (fun i hi => ?_)
          · rw [pe_ik (by omega), vD2]
            unfold cdF
            rw [if_neg (by omega), vB2, if_neg (by omega), if_pos rfl]
          · rw [pe_ik (by omega), vD2]
            unfold cdF
            rw [if_neg (by omega), vB2, if_pos (by omega), show 260 + 900 * nl + 2 + k - (260 + 900 * nl + 2) = k by omega]
          · rw [pe_ik (by omega), pe_ik (by omega), vD2, vD2]
            unfold cdF
            rw [if_pos (by omega), if_pos (by omega), if_pos (by omega), if_neg (by omega), show (260 + 900 * nl + 98 + 2 * i - (260 + 900 * nl + 98)) / 2 = i by omega, show (260 + 900 * nl + 98 + 2 * i + 1 - (260 + 900 * nl + 98)) / 2 = i by omega, vB 11 i (by decide), vB 12 i (by decide)]
            exact c11 i hi
        have I7 : ∀ a k, a < am_n gcA → ¬ (a = 1 ∧ k = 17) → am_I (am_si (am_sp g7 24 nl (some (am_n gcA))) 1 17 (nI (nl + 1))) a k = am_I gcA a k := fun a k ha h17 => by rw [pI_si, if_neg h17, pI_sp, (q12 a ha).2.2]
        have INk : ∀ a k, am_n gcA ≤ a → am_I (am_si (am_sp g7 24 nl (some (am_n gcA))) 1 17 (nI (nl + 1))) a k = am_I g7 a k := fun a k ha => by rw [pI_si, if_neg (by omega), pI_sp]
        have PNk : ∀ a, am_n gcA ≤ a → am_P (am_si (am_sp g7 24 nl (some (am_n gcA))) 1 17 (nI (nl + 1))) a = am_P g7 a := fun a ha => by rw [pP_si, pP_spn (by omega)]
        have hC1 : TxtC (am_si (am_sp g7 24 nl (some (am_n gcA))) 1 17 (nI (nl + 1))) (am_n gcA) (n, c') := txtC_of gI y11 h79 (show u' ≤ 512 by omega) (by rw [pS_si, pS_sp]; exact q4) (by rw [PNk _ (Nat.le_refl _)]; exact q5) (by rw [PNk _ (Nat.le_refl _)]; exact q6) (by rw [INk _ _ (Nat.le_refl _)]; exact q7) (by rw [pS_si, pS_sp]; exact q8) (by rw [pS_si, pS_sp]; exact q9) (fun k hk => by rw [INk _ _ (by omega)]; exact q10 k hk) (fun k hk => by rw [INk _ _ (by omega)]; exact q11 k hk)
        refine (RelM.newlaw hrel (N := am_n gcA) rfl hnl6 e24A (fun a ha => by rw [pS_si, pS_sp]; exact (q12 a ha).1) (fun a ha h24 => by rw [pP_si, pP_spn h24]; exact (q12 a ha).2.1) (fun l hl => by rw [pP_si, pP_spk hl]; exact congrFun (q12 24 (by omega)).2.1 l) (by rw [pP_si, pP_spe]) I7 (pe_ieq _ _ _ _) (by rw [pn_si, pn_sp]; exact q2) (by rw [ps_si, ps_sp, q3]; omega) (by rw [pS_si, pS_sp]; exact q4) (by rw [PNk _ (Nat.le_refl _)]; exact q5) (by rw [PNk _ (Nat.le_refl _)]; exact q6) (fun a k ha => by rw [pe_ine ha]; exact vD a k ha) (fun j hj h4 => by rw [pe_ik h4]; exact vout j (by omega)) (pe_ieq _ _ _ _) (fun j h1 h2 => by rw [pe_ik (by omega)]; exact vout j (by omega)) vDg hC1 hR1).acc.up (by omega) (Nat.le_refl _)
