/-! ===== a talk's test and its sums ===== -/
def TS (p : Nat) (b0 : Int32) (k s : Nat) (gc gr : am_G) : Prop := PkS gc p ∧ vr gc 1 p = rr gr ∧ (∃ nW, nW ≤ 16 ∧ am_I gr 2 0 = nI nW ∧ am_I gc 12 4 = nI nW) ∧ am_I gc 37 24 = nI k ∧ am_I gc 37 25 = nI s ∧ am_I gr 0 56 = nI k ∧ am_I gr 0 57 = nI s ∧ am_I gr 0 58 = b0
theorem evK {p k s : Nat} {b0 : Int32} {gc gr : am_G} (hp : okP p) (h : TS p b0 k s gc gr) : ∃ gc1, fX0_knowTalks p b0 gc = some ((), gc1) ∧ FcA gc gc1 ∧ LK (rset gr) (am_I gc1 37) ∧ am_I gc1 37 24 = nI k ∧ am_I gc1 37 25 = nI s := by
  obtain ⟨h1, h2, ⟨nW, h3, h4, h5⟩, h6, h7, h8, h9, h10⟩ := h
  obtain ⟨gc1, k1, k2, k3, k4, k5, k6, k7, k8⟩ := q0_know hp h1 b0
  have hr : ∀ j, j < 259 → am_I (rset gr) 2 j = vr gc 1 p j := fun j hj => by rw [h2, rr_at hj]; exact (rset_fr gr).1 2 j (by omega)
  refine ⟨gc1, k1, k2, ⟨fun k' a1 a2 => ?_, fun t ht => ?_⟩, by rw [k5]; exact h6, by rw [k6]; exact h7⟩
  · rcases (show k' = 1 ∨ k' = 2 ∨ k' = 3 ∨ k' = 4 ∨ k' = 5 by omega) with rfl | rfl | rfl | rfl | rfl
    · rw [k3, h2, rr_at (by decide)]
      unfold rset
      rw [pL_si, pL_nk (by decide), pL_nk (by decide), pL_nk (by decide), pL_nk (by decide), pL_eq]
    · rw [k4, h5, ← h4]
      unfold rset
      rw [pL_si, pL_nk (by decide), pL_nk (by decide), pL_nk (by decide), pL_eq]
    · rw [k5, h6, ← h8]
      unfold rset
      rw [pL_si, pL_nk (by decide), pL_nk (by decide), pL_eq]
    · rw [k6, h7, ← h9]
      unfold rset
      rw [pL_si, pL_nk (by decide), pL_eq]
    · rw [k7, h2, rr_at (by decide), ← h10]
      unfold rset
      rw [pL_si, pL_eq]
  · rw [(k8 t ht).1, (k8 t ht).2, hr _ (by omega), hr _ (by omega)]
    exact ⟨rfl, rfl⟩
def CTst (J25 J28 : am_G → Option (Int32 × am_G)) (x7 : Int32) (g18 : am_G) : Option (Int32 × am_G) :=
      am_bd (fX6_testOf 33 x7 g18) fun v20 g21 =>
      if v20 = (-1 : Int32) then (
        J28 g21)
      else (
        am_bd (fX0_value 35 v20 g21) fun v39 g40 =>
        if v39 = (1 : Int32) then (
          J28 g40)
        else (
          J25 g40))
theorem evT {n u i : Nat} {c : Nat → pTk} {X : Cd} {gc gr : am_G} {J25 J28 : am_G → Option (Int32 × am_G)} (hT : TxT n c u X gc gr) (hi : i < n) (hL : LK gr (am_I gc 37)) (h60 : am_I gr 0 60 = nI 0) (h20 : am_I gr 0 20 = nI 0) : ∃ gc2 gr2, FcA gc gc2 ∧ am_I gc2 37 = am_I gc 37 ∧ FrJ gr gr2 ∧ am_I gr2 0 20 = nI 0 ∧ ((CTst J25 J28 (nI i) gc = J25 gc2 ∧ RnT (nI (10 * i)) gr = some (nI 0, gr2)) ∨ (CTst J25 J28 (nI i) gc = J28 gc2 ∧ RnT (nI (10 * i)) gr = RJ21 (nI (10 * i)) gr2 ∧ am_I gr2 0 60 = nI 0 ∧ am_L gr2 19 = am_L gr 19)) := by
  obtain ⟨sh, t21, t33, hn, hI, hcd, hu, hX⟩ := hT
  obtain ⟨-, -, -, -, -, tT, tN⟩ := hI i hi
  have a7 : nI (10 * i) + (7 : Int32) = nI (10 * i + 7) := nI_add _ 7
  have a8 : nI (10 * i) + (8 : Int32) = nI (10 * i + 8) := nI_add _ 8
  have rt := (q6_row sh (show i < 12 by omega)).2.1
  have st : RnT (nI (10 * i)) gr = (if am_I gr 33 (10 * i + 8) ≤ am_I gr 33 (10 * i + 7) then RJ21 (nI (10 * i)) gr else (am_bd (fX12_sumOf (nI (10 * i + 7)) gr) fun w52 g53 =>
    if (am_I g53 0 60) = 0 then (
      if (lg_cmp w52 (0 : Int64)) = 0 then (
        some ((0 : Int32), g53))
      else (
        RJ21 (nI (10 * i)) g53))
    else (
      some ((0 : Int32), g53)))) := by
    unfold RnT
    rw [a7, a8, pe_gd (show 10 * i + 7 < 120 by omega) (by decide), pe_gd (show 10 * i + 8 < 120 by omega) (by decide), pu_jn, pe_clamp (show 10 * i + 7 < 2147483648 by omega), pe_clamp (show 10 * i + 8 < 2147483648 by omega)]
  unfold CTst
  rw [rt, pu_bd, st]
  cases hTo : (c i).2.2.2 with
  | none =>
    obtain ⟨z1, z2⟩ := tN hTo
    refine ⟨gc, gr, FcA.rf gc, rfl, FrJ.rf gr, h20, Or.inr ⟨?_, ?_, h60, rfl⟩⟩
    · rw [if_pos z1]
    · rw [if_pos (by rw [z2]; exact Int32.le_rfl)]
  | some T =>
    obtain ⟨dt, a, f, l, z0, z1, z2, z3, z4, z5⟩ := tT T hTo
    obtain ⟨gc2, y1, y2, y3⟩ := q0_val sh hu z2
    have hfl : f < l ∧ l ≤ X.2.2 := by
      obtain ⟨d, v1, v2, v3⟩ := z5
      exact ⟨v1.1, v3⟩
    obtain ⟨w, gr2, x1, x2, x3, x4, x5, x6⟩ := q12_sumOf (K := am_I gc 37) (show 10 * i + 7 + 1 < 120 by omega) h60 z3 z4 z5 hX hcd hL
    rw [z1, if_neg (show ¬ nI a = -1 from nI_m1ne (by omega)), y1, pu_bd, if_neg (show ¬ am_I gr 33 (10 * i + 8) ≤ am_I gr 33 (10 * i + 7) by rw [z3, z4, nI_leI (by omega) (by omega)]; omega), x1, pu_bd]
    cases hv : T (am_I gc 37) with
    | none =>
      refine ⟨gc2, gr2, y2, y3, x2, x4, Or.inl ⟨?_, ?_⟩⟩
      · rw [if_neg (show ¬ (none : Option Int32).getD pBR = 1 by decide)]
      · rw [if_neg (show ¬ am_I gr2 0 60 = 0 by rw [x6 hv]; decide)]
        rfl
    | some v =>
      obtain ⟨w1, w2⟩ := x5 v hv
      rw [if_pos (show am_I gr2 0 60 = 0 from w2), w1]
      rcases dt _ v hv with rfl | rfl
      · refine ⟨gc2, gr2, y2, y3, x2, x4, Or.inl ⟨?_, ?_⟩⟩
        · rw [if_neg (show ¬ (some (nI 0)).getD pBR = 1 by decide)]
        · rw [if_pos (show lg_cmp (nI 0).toInt64 0 = 0 by decide)]
          rfl
      · refine ⟨gc2, gr2, y2, y3, x2, x4, Or.inr ⟨?_, ?_, w2, x3⟩⟩
        · rw [if_pos (show (some (nI 1)).getD pBR = 1 by decide)]
        · rw [if_neg (show ¬ lg_cmp (nI 1).toInt64 0 = 0 by decide)]
/-- what is told, its sums reckoned -/
def TOs (a1 : Nat) (a3 v8 v14 v20 : Int32) (g21 : am_G) : Option (Int32 × am_G) :=
    am_bd (fX11_isPlace v14 g21) fun v23 g24 =>
    if v23 = 0 then (
      some ((-3 : Int32), g24))
    else (
      am_bd (fX11_isLoud v20 g24) fun v27 g28 =>
      if v27 = 0 then (
        some ((-3 : Int32), g28))
      else (
        am_bd (fX10_has v8 g28) fun v31 g32 =>
        if v31 = 0 then (
          some ((-3 : Int32), g32))
        else (
          am_bd (fX11_isBarred a1 v8 v14 v20 g32) fun v35 g36 =>
          if v35 = 0 then (
            if a3 = 0 then (
              am_bd (fX11_utter a1 (0 : Int32) v8 v14 v20 g36) fun v40 g41 =>
              some (v40, g41))
            else (
              am_bd (fX8_keep a1 (0 : Int32) g36) fun u43 g44 =>
              am_bd (fX11_utter a1 (0 : Int32) v8 v14 v20 g44) fun v46 g47 =>
              some (v46, g47)))
          else (
            some ((-3 : Int32), g36)))))
theorem evS {n u i p : Nat} {c : Nat → pTk} {X : Cd} {gc gr : am_G} {a3 : Int32} (hT : TxT n c u X gc gr) (hi : i < n) (h0 : (c i).1 = 0) (hL : LK gr (am_I gc 37)) (h60 : am_I gr 0 60 = nI 0) : ∃ V0 V1 V2 gc2 gr2, FcA gc gc2 ∧ am_I gc2 37 = am_I gc 37 ∧ FrJ gr gr2 ∧ am_I gr2 0 20 = nI 0 ∧ fX11_tellOnce p (nI i) a3 gc = TOs p a3 V0 V1 V2 gc2 ∧ (RJ21 (nI (10 * i)) gr = am_bd (fX12_sayNow 0 V0 V1 V2 gr2) RJ26 ∨ ((V0 = pBR ∨ V1 = pBR ∨ V2 = pBR) ∧ RJ21 (nI (10 * i)) gr = RJ26 (-3) gr2)) := by
  have hT0 := hT
  obtain ⟨sh, t21, t33, hn, hI, hcd, hu, hX⟩ := hT
  obtain ⟨-, hd1, hd2, tS, -⟩ := hI i hi
  have tS := tS h0
  have a1 : nI (10 * i) + (1 : Int32) = nI (10 * i + 1) := nI_add _ 1
  have a3' : nI (10 * i) + (3 : Int32) = nI (10 * i + 3) := nI_add _ 3
  have a5 : nI (10 * i) + (5 : Int32) = nI (10 * i + 5) := nI_add _ 5
  obtain ⟨b0, f0, l0, z00, z01, z02, z03, z04, z05⟩ := tS 0 (by decide)
  obtain ⟨b1, f1, l1, z10, z11, z12, z13, z14, z15⟩ := tS 1 (by decide)
  obtain ⟨b2, f2, l2, z20, z21, z22, z23, z24, z25⟩ := tS 2 (by decide)
  -- the class
  obtain ⟨gc1, y1, y2, y3⟩ := q0_val sh hu z02
  have T1 := hT0.fr y2 (FrJ.rf gr)
  obtain ⟨gc2, y4, y5, y6⟩ := q0_val (g := gc1) T1.1 hu (by rw [y2.2 35 (by decide) (by decide)]; exact z12)
  have T2 := T1.fr y5 (FrJ.rf gr)
  obtain ⟨gc3, y7, y8, y9⟩ := q0_val (g := gc2) T2.1 hu (by rw [y5.2 35 (by decide) (by decide), y2.2 35 (by decide) (by decide)]; exact z22)
  rw [y3] at y4
  rw [y6, y3] at y7
  have r0 := q6_row sh (show i < 12 by omega)
  have r1 := q6_row T1.1 (show i < 12 by omega)
  have r2 := q6_row T2.1 (show i < 12 by omega)
  have eC : fX11_tellOnce p (nI i) a3 gc = TOs p a3 (((c i).2.1 0 (am_I gc 37)).getD pBR) (((c i).2.1 1 (am_I gc 37)).getD pBR) (((c i).2.1 2 (am_I gc 37)).getD pBR) gc3 := by
    unfold fX11_tellOnce
    rw [r0.1, pu_bd, hd1, h0, if_neg (show ¬ nI (5 + 0) = (6 : Int32) by decide), show (0 : Int32) = nI 0 from rfl, show (1 : Int32) = nI 1 from rfl, show (2 : Int32) = nI 2 from rfl, r0.2.2.2 0 (by decide), pu_bd, z01, y1, pu_bd, r1.2.2.2 1 (by decide), pu_bd, y2.2 34 (by decide) (by decide), z11, y4, pu_bd, r2.2.2.2 2 (by decide), pu_bd, y5.2 34 (by decide) (by decide), y2.2 34 (by decide) (by decide), z21, y7, pu_bd]
    rfl
  -- the reference
  have eR : RJ21 (nI (10 * i)) gr = (am_bd (fX12_sumOf (nI (10 * i + 1)) gr) fun w30 g31 =>
      am_bd (fX12_sumOf (nI (10 * i + 3)) g31) fun w34 g35 =>
      am_bd (fX12_sumOf (nI (10 * i + 5)) g35) fun w38 g39 =>
      if (am_I g39 0 60) = 0 then (
        am_bd (fX12_sayNow (0 : Int32) w30.toInt32 w34.toInt32 w38.toInt32 g39) RJ26)
      else (
        RJ26 (-3 : Int32) g39)) := by
    unfold RJ21
    rw [pe_gd (show 10 * i < 120 by omega) (by decide), pu_jn, pe_clamp (show 10 * i < 2147483648 by omega), hd2, h0, if_neg (show ¬ nI 0 = (1 : Int32) by decide), a1, a3', a5]
    rfl
  have fC := (y2.tr y5).tr y8
  have eK : am_I gc3 37 = am_I gc 37 := by rw [y9, y6, y3]
  obtain ⟨w0, g1, x1, x2, x3, x4, x5, x6⟩ := q12_sumOf (K := am_I gc 37) (a := 10 * i + 1) (by omega) h60 z03 z04 z05 hX hcd hL
  rw [eR, x1, pu_bd]
  have L1 := hL.fr x2 x3
  cases e0 : (c i).2.1 0 (am_I gc 37) with
  | none =>
    rw [e0] at eC
    refine ⟨_, _, _, gc3, g1, fC, eK, x2, x4, eC, Or.inr ⟨Or.inl rfl, ?_⟩⟩
    rw [q12_sumOfN (x6 e0), pu_bd, q12_sumOfN (x6 e0), pu_bd, if_neg (show ¬ am_I g1 0 60 = 0 by rw [x6 e0]; decide)]
  | some v0 =>
    obtain ⟨q1, q2⟩ := x5 v0 e0
    obtain ⟨w1, g2, x7, x8, x9, x10, x11, x12⟩ := q12_sumOf (g := g1) (K := am_I gc 37) (a := 10 * i + 3) (by omega) q2 (by rw [x2.1 33 _ (by omega)]; exact z13) (by rw [x2.1 33 _ (by omega)]; exact z14) z15 hX (fun j hj => by rw [x2.1 11 _ (by omega), x2.1 12 _ (by omega)]; exact hcd j hj) L1
    rw [x7, pu_bd]
    have L2 := L1.fr x8 x9
    cases e1 : (c i).2.1 1 (am_I gc 37) with
    | none =>
      rw [e1] at eC
      refine ⟨_, _, _, gc3, g2, fC, eK, x2.tr x8, x10, eC, Or.inr ⟨Or.inr (Or.inl rfl), ?_⟩⟩
      rw [q12_sumOfN (x12 e1), pu_bd, if_neg (show ¬ am_I g2 0 60 = 0 by rw [x12 e1]; decide)]
    | some v1 =>
      obtain ⟨q3, q4⟩ := x11 v1 e1
      obtain ⟨w2, g3, x13, x14, x15, x16, x17, x18⟩ := q12_sumOf (g := g2) (K := am_I gc 37) (a := 10 * i + 5) (by omega) q4 (by rw [x8.1 33 _ (by omega), x2.1 33 _ (by omega)]; exact z23) (by rw [x8.1 33 _ (by omega), x2.1 33 _ (by omega)]; exact z24) z25 hX (fun j hj => by rw [x8.1 11 _ (by omega), x2.1 11 _ (by omega), x8.1 12 _ (by omega), x2.1 12 _ (by omega)]; exact hcd j hj) L2
      rw [x13, pu_bd]
      cases e2 : (c i).2.1 2 (am_I gc 37) with
      | none =>
        rw [e2] at eC
        refine ⟨_, _, _, gc3, g3, fC, eK, (x2.tr x8).tr x14, x16, eC, Or.inr ⟨Or.inr (Or.inr rfl), ?_⟩⟩
        rw [if_neg (show ¬ am_I g3 0 60 = 0 by rw [x18 e2]; decide)]
      | some v2 =>
        obtain ⟨q5, q6⟩ := x17 v2 e2
        rw [e0, e1, e2] at eC
        refine ⟨v0, v1, v2, gc3, g3, fC, eK, (x2.tr x8).tr x14, x16, eC, Or.inl ?_⟩
        rw [if_pos (show am_I g3 0 60 = 0 from q6), q1, q3, q5, i64_32, i64_32, i64_32]
