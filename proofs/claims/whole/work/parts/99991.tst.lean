/-! ===== one telling, both sides ===== -/
def TJ28 (a1 : Nat) (a2 x7 : Int32) (J25 : am_G → Option (Int32 × am_G)) (g27 : am_G) : Option (Int32 × am_G) :=
        am_bd (fX11_tellOnce a1 x7 a2 g27) fun v29 g30 =>
        if 0 ≤ v29 then (
          am_gd (am_in (24 : Int32) 40) <|
          am_gd (am_in (24 : Int32) 40) <|
          am_let (am_si g30 37 (24 : Int32).toNatClampNeg ((am_I g30 37 (24 : Int32).toNatClampNeg) + (1 : Int32))) fun g35 =>
          am_gd (am_in (25 : Int32) 40) <|
          am_gd (am_in (25 : Int32) 40) <|
          am_let (am_si g35 37 (25 : Int32).toNatClampNeg ((am_I g35 37 (25 : Int32).toNatClampNeg) + v29)) fun g38 =>
          J25 g38)
        else (
          some (x7, g30))
def cnC (m : Nat) (g : am_G) : am_G := am_si (am_si g 37 24 (am_I g 37 24 + nI 1)) 37 25 (am_I g 37 25 + nI m)
def cnR (m : Nat) (g : am_G) : am_G := am_si (am_si g 0 57 (am_I g 0 57 + nI m)) 0 56 (am_I g 0 56 + nI 1)
theorem J28_ok {p m : Nat} {a2 x7 : Int32} {J25 : am_G → Option (Int32 × am_G)} {g g3 : am_G} (hm : m ≤ 6) (h : fX11_tellOnce p x7 a2 g = some (nI m, g3)) : TJ28 p a2 x7 J25 g = J25 (cnC m g3) := by
  unfold TJ28
  rw [h, pu_bd, if_pos (show (0 : Int32) ≤ nI m from (nI_leI (a := 0) (by decide) (by omega)).mpr (Nat.zero_le _)), pu_gd (show am_in (24 : Int32) 40 = true from rfl), pu_gd (show am_in (24 : Int32) 40 = true from rfl), pu_let, pu_gd (show am_in (25 : Int32) 40 = true from rfl), pu_gd (show am_in (25 : Int32) 40 = true from rfl), pu_let, show (24 : Int32).toNatClampNeg = 24 from rfl, show (25 : Int32).toNatClampNeg = 25 from rfl, pe_ik (show (25 : Nat) ≠ 24 by decide)]
  rfl
theorem J28_no {p : Nat} {a2 x7 : Int32} {J25 : am_G → Option (Int32 × am_G)} {g g3 : am_G} (h : fX11_tellOnce p x7 a2 g = some (-3, g3)) : TJ28 p a2 x7 J25 g = some (x7, g3) := by
  unfold TJ28
  rw [h, pu_bd, if_neg (show ¬ (0 : Int32) ≤ -3 by decide)]
theorem RJ26_n {v : Int32} {g : am_G} (hv : ¬ 0 ≤ v) : RJ26 v g = some (-3, g) := if_neg hv
theorem RJ26_p {m : Nat} {g : am_G} (hm : m ≤ 6) : RJ26 (nI m) g = some (nI 0, cnR m g) := by
  unfold RJ26
  rw [if_pos (show (0 : Int32) ≤ nI m from (nI_leI (a := 0) (by decide) (by omega)).mpr (Nat.zero_le _)), pu_let, pu_let, pe_ik (show (56 : Nat) ≠ 57 by decide)]
  rfl
theorem act_fin {p n u j m : Nat} {b0 : Int32} {g0 gc gr gc5 gr5 : am_G} {q : Option pLw} {c : Nat → pTk} {X : Cd} {Q : Nat → am_G → am_G → Prop} (hp : okP p) (hA2 : ∀ j gc gr gc' gr', Q j gc gr → FcA gc gc' → FrT gr gr' → Q j gc' gr') (h : BI p b0 g0 q n c u X j gc gr) (ra : RA q gr gr5) (ca : CA p q gc gc5 gr5) (hQ : Q (j + 1) gc5 gr5) : BI p b0 g0 q n c u X (j + 1) (cnC m gc5) (cnR m gr5) ∧ Q (j + 1) (cnC m gc5) (cnR m gr5) := by
  obtain ⟨x1, x2, x3, x4, x5, x6, x7, x8, x9, x10⟩ := ca
  obtain ⟨y1, y2, y3, y4, ⟨k8, hk8, e8⟩, y6⟩ := ra
  have h' := h
  obtain ⟨⟨k, s, hk, t1, t2, -, t6, t7, t8, t9, t10⟩, -⟩ := h'
  have f : FcA gc5 (cnC m gc5) := ⟨rfl, fun a h1 h2 => by unfold cnC; rw [pI_si_ne _ _ _ h1, pI_si_ne _ _ _ h1]⟩
  have fr : FrT gr5 (cnR m gr5) := ((FrT.rf gr5).si (show scR 0 57 by unfold scR sc0; omega) _).si (show scR 0 56 by unfold scR sc0; omega) _
  have r2 : am_I (cnR m gr5) 2 = am_I gr5 2 := by unfold cnR; rw [pI_si_ne _ _ _ (by decide), pI_si_ne _ _ _ (by decide)]
  have rk : ∀ k, k ≠ 56 → k ≠ 57 → am_I (cnR m gr5) 0 k = am_I gr5 0 k := fun k h1 h2 => by unfold cnR; rw [pe_ik h1, pe_ik h2]
  have er : rr (cnR m gr5) = rr gr5 := rr_cg r2
  refine ⟨h.act (x1.eq f.1) (by rw [hp.fa f, er]; exact x2) (x3.eq rfl rfl) (x4.fc f) ?_ ?_ ?_ ?_ (y1.tr (((FrU.rf gr5).si (by omega) _).si (by omega) _)) (by rw [r2]; exact y2) (by rw [er]; exact y3) (by rw [rk 20 (by decide) (by decide)]; exact y4) ⟨k8, hk8, by rw [rk 8 (by decide) (by decide)]; exact e8⟩ ⟨k + 1, s + m, by omega, ?_, ?_, ?_, ?_⟩ (by rw [rk 58 (by decide) (by decide)]; exact y6 58 (by omega)), hA2 _ _ _ _ _ hQ f fr⟩
  · rw [f.2 33 (by decide) (by decide)]; exact x8
  · rw [f.2 34 (by decide) (by decide)]; exact x9
  · rw [f.2 35 (by decide) (by decide)]; exact x10
  · rw [f.2 12 (by decide) (by decide)]; exact x7
  · unfold cnC; rw [pe_ik (by decide), pe_ieq, x5, t6, nI_add]
  · unfold cnC; rw [pe_ieq, x6, t7, nI_add]
  · unfold cnR; rw [pe_ieq, y6 56 (by omega), t8, nI_add]
  · unfold cnR; rw [pe_ik (by decide), pe_ieq, y6 57 (by omega), t9, nI_add]
theorem tellN {p i : Nat} {a3 : Int32} {g : am_G} (hs : ShR g) (hP : PkS g p) (hi : i < 12) (h6 : am_I g 34 (6 * i) = nI 6) : fX11_tellOnce p (nI i) a3 g = if am_I g p 5 < 999 then aNi p a3 g else some (-3, g) := by
  unfold fX11_tellOnce
  rw [(q6_row hs hi).1, pu_bd, h6, if_pos (show nI 6 = (6 : Int32) from rfl), pu_gd (decide_eq_true hP.1), bd_eta, bd_etaU]
  rfl
theorem RJ21_n {i : Nat} {g : am_G} (hi : i < 12) (h : am_I g 33 (10 * i) = nI 1) : RJ21 (nI (10 * i)) g = am_bd (fX12_dawnNow g) RJ26 := by
  unfold RJ21
  rw [pe_gd (show 10 * i < 120 by omega) (by decide), pu_jn, pe_clamp (show 10 * i < 2147483648 by omega), h, if_pos (show nI 1 = (1 : Int32) from rfl)]
theorem tstep {p n u i j : Nat} {a3 b0 : Int32} {g0 gc gr : am_G} {q : Option pLw} {c : Nat → pTk} {X : Cd} {Q : Nat → am_G → am_G → Prop} {J25 : am_G → Option (Int32 × am_G)} (hp : okP p) (hA : Act p a3 q Q) (hB : BI p b0 g0 q n c u X j gc gr) (hQ : Q j gc gr) (hj : j < 240) (hi : i < n) :
    (∃ gc' gr', (am_bd (fX0_knowTalks p b0 gc) fun _ g18 => CTst J25 (TJ28 p a3 (nI i) J25) (nI i) g18) = J25 gc' ∧ fX12_run (nI (10 * i)) gr = some (nI 0, gr') ∧ BI p b0 g0 q n c u X (j + 1) gc' gr' ∧ Q (j + 1) gc' gr') ∨
    (∃ gc' gr', (am_bd (fX0_knowTalks p b0 gc) fun _ g18 => CTst J25 (TJ28 p a3 (nI i) J25) (nI i) g18) = some (nI i, gc') ∧ fX12_run (nI (10 * i)) gr = some (-3, gr') ∧ FrU g0 gr' ∧ ∃ gr'', Q j gc' gr'') := by
  obtain ⟨hA1, hA2, hA3, hA4⟩ := hA
  have hB' := hB
  obtain ⟨⟨k, s, hk, hTS⟩, hT, hL, hL', hV, h20, h8, hU⟩ := hB'
  have hn12 : n ≤ 12 := hT.2.2.2.1
  obtain ⟨gc1, a1, a2, a3', a4, a5⟩ := evK hp hTS
  rw [a1, pu_bd, run_st]
  have fr := rset_fr gr
  have T1 := hT.fr a2 fr
  have r20 : am_I (rset gr) 0 20 = nI 0 := by unfold rset; rw [pe_ik (by decide)]; exact h20
  have r60 : am_I (rset gr) 0 60 = nI 0 := by unfold rset; rw [pe_ieq]
  obtain ⟨gc2, gr2, b1, b2, b3, b4, hc⟩ := evT (J25 := J25) (J28 := TJ28 p a3 (nI i) J25) T1 hi a3' r60 r20
  have f2 : FrJ gr gr2 := fr.tr b3
  have F2 : FrU gr gr2 := f2.U (by rw [b4, h20])
  have G2 : FrT gr gr2 := f2.T (by rw [b4, h20])
  have C2 : FcA gc gc2 := a2.tr b1
  have e24 : am_I gc2 37 24 = am_I gc 37 24 := by rw [b2, a4, hTS.2.2.2.1]
  have e25 : am_I gc2 37 25 = am_I gc 37 25 := by rw [b2, a5, hTS.2.2.2.2.1]
  have B2 : ∀ j', j ≤ j' → BI p b0 g0 q n c u X j' gc2 gr2 := fun j' hj' => hB.quiet hp hj' C2 e24 e25 F2 (funext fun k => f2.1 2 k (by omega)) b4 (fun k hk => f2.1 0 k (by omega))
  have Q2 := hA2 _ _ _ _ _ hQ C2 G2
  rcases hc with ⟨c1, c2⟩ | ⟨c1, c2, c3, c4⟩
  · exact Or.inl ⟨gc2, gr2, c1, c2, B2 (j + 1) (Nat.le_succ j), hA1 _ _ _ Q2⟩
  have B2 := B2 j (Nat.le_refl j)
  have T2 := T1.fr b1 b3
  have L2 : LK gr2 (am_I gc2 37) := by rw [b2]; exact a3'.fr b3 c4
  rw [c1, c2]
  by_cases h0 : (c i).1 = 0
  · obtain ⟨V0, V1, V2, gc3, gr3, d1, d2, d3, d4, d5, d6⟩ := evS (p := p) (a3 := a3) T2 hi h0 L2 c3
    have F3 : FrU gr2 gr3 := d3.U (by rw [d4, b4])
    have G3 : FrT gr2 gr3 := d3.T (by rw [d4, b4])
    have B3 : BI p b0 g0 q n c u X j gc3 gr3 := B2.quiet hp (Nat.le_refl j) d1 (by rw [d2]) (by rw [d2]) F3 (funext fun k => d3.1 2 k (by omega)) d4 (fun k hk => d3.1 0 k (by omega))
    have Q3 := hA2 _ _ _ _ _ Q2 d1 G3
    have B3' := B3
    obtain ⟨⟨k3, s3, hk3, t1, t2, ⟨nW, t3, t4, t5⟩, -⟩, hT3, hL3, hL3', hV3, h203, h83, hU3⟩ := B3'
    rcases actS hp t1 t2 hV3 hL3 hL3' h203 t3 t4 t5 a3 V0 V1 V2 with ⟨gc', gr', v, x1, x2, x3, x4, x5, x6⟩ | ⟨w, pl, l, gc4, gr4, x1, x2, x3, x4, x5, xk, x6, x7, x8⟩
    · right
      have eC : TJ28 p a3 (nI i) J25 gc2 = some (nI i, gc') := J28_no (d5.trans x1)
      rcases d6 with d6 | ⟨-, d6⟩
      · refine ⟨gc', gr', eC, ?_, hU3.tr x6.W.U, gr', hA2 _ _ _ _ _ Q3 x5 x6.T⟩
        rw [d6, x2, pu_bd, RJ26_n]
        rcases (show v = 1 ∨ v = 2 ∨ v = 3 by omega) with rfl | rfl | rfl <;> decide
      · refine ⟨gc', gr3, eC, ?_, hU3, gr3, hA2 _ _ _ _ _ Q3 x5 (FrT.rf gr3)⟩
        rw [d6, RJ26_n (by decide)]
    · left
      rcases d6 with d6 | ⟨z, -⟩
      · have B4 : BI p b0 g0 q n c u X j gc4 gr4 := B3.quiet hp (Nat.le_refl j) x5 (xk.2 24 (by decide)) (xk.2 25 (by decide)) x6.W.U (x6.row (by decide)) (by rw [x6.1 0 20 (by omega)]; exact h203) (fun k hk => x6.1 0 k (by omega))
        have Q4 := hA2 _ _ _ _ _ Q3 x5 x6.T
        have B4' := B4
        obtain ⟨⟨k4, s4, hk4, u1, u2, -⟩, hT4, hL4, hL4', hV4, h204, h84, hU4⟩ := B4'
        obtain ⟨gr5, gr6, y1, y2, y3, y4⟩ := refSay (w := w) (pl := pl) (l := l) x1 x2 x3 hL4' hV4 h204 h84
        obtain ⟨gc6, z1, z2, z3⟩ := hA3 j gc4 gr4 gr5 gr6 w pl l hj Q4 u1 hT4.1 u2 hL4 hL4' hV4 x1 x2 x3 y1 y2 y3
        have hm := sayP_le q (rr gr4) 0 w pl l
        have eC : TJ28 p a3 (nI i) J25 gc2 = J25 (cnC (sayP q (rr gr4) 0 w pl l).1 gc6) := J28_ok hm ((d5.trans x7).trans z1)
        obtain ⟨w1, w2⟩ := act_fin (m := (sayP q (rr gr4) 0 w pl l).1) hp hA2 B4 y4 z3 z2
        refine ⟨_, _, eC, ?_, w1, w2⟩
        rw [d6, x8 gr5 gr6 _ y1 y2, pu_bd, RJ26_p hm]
      · exact absurd z x4
  · obtain ⟨h2, e34, e33, -⟩ := T2.2.2.2.2.1 i hi
    have h1 : (c i).1 = 1 := by omega
    rw [h1] at e34 e33
    have B2' := B2
    obtain ⟨⟨k3, s3, hk3, t1, t2, -⟩, hT3, hL3, hL3', hV3, h203, h83, hU3⟩ := B2'
    obtain ⟨m, hm, em⟩ := hV3.day
    have eD : am_I gc2 p 5 = nI m := by rw [show am_I gc2 p 5 = vr gc2 1 p 6 from r_da, t2]; exact em
    have eR : am_I gr2 2 6 = nI m := by rw [← rr_at (by decide)]; exact em
    have tn := tellN (a3 := a3) hT3.1 t1 (show i < 12 by omega) e34
    rw [eD] at tn
    rw [RJ21_n (show i < 12 by omega) e33]
    by_cases h9 : m = 999
    · right
      subst h9
      rw [if_neg (show ¬ nI 999 < (999 : Int32) by decide)] at tn
      refine ⟨gc2, gr2, J28_no tn, ?_, hU3, gr2, Q2⟩
      rw [dawnNowN eR, pu_bd, RJ26_n (by decide)]
    · left
      have hd : rr gr2 6 < nI 999 := by rw [em]; exact nI_lt (by omega) (by decide)
      rw [if_pos (show nI m < (999 : Int32) from nI_lt (a := m) (b := 999) (by omega) (by decide))] at tn
      obtain ⟨gr5, gr6, y1, y2, y3, y4⟩ := refNight hd hL3' hV3 h203 h83
      obtain ⟨gc6, z1, z2, z3⟩ := hA4 j gc2 gr2 gr5 gr6 hj Q2 t1 hT3.1 t2 hL3 hL3' hV3 hd y1 y2 y3
      have hm := dwnP_le q (rr gr2)
      have eC : TJ28 p a3 (nI i) J25 gc2 = J25 (cnC (dwnP q (rr gr2)).1 gc6) := J28_ok hm (tn.trans z1)
      obtain ⟨w1, w2⟩ := act_fin (m := (dwnP q (rr gr2)).1) hp hA2 B2 y4 z3 z2
      refine ⟨_, _, eC, ?_, w1, w2⟩
      rw [dawnNowS (show ¬ am_I gr2 2 6 = nI 999 by rw [eR]; exact fun z => h9 ((nn_eq (by omega) (by decide)).mp z)) y1 y2, pu_bd, RJ26_p hm]
