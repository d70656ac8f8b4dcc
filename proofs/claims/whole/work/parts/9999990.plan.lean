/-! ===== plan, both ===== -/
def KPl (a2 x67 : Int32) (g68 : am_G) : Option (Int32 × am_G) :=
          if x67 = 0 then (
            some ((-1 : Int32), g68))
          else (
            if a2 = (-1 : Int32) then (
              some (x67, g68))
            else (
              am_gd (am_in a2 6) <|
              some (am_I g68 28 a2.toNatClampNeg, g68)))
theorem m_plan {t : Nat} (ht : t < 512) {gc gr : am_G} (h : Rel t gc gr) (a1 a2 : Int32) : ∃ (v : Int32) (gc1 gr1 : am_G), fX11_plan a1 a2 gc = some (v, gc1) ∧ fX12_plan a1 a2 gr = some (v, gr1) ∧ Rel (t + 1) gc1 gr1 := by
  have hfu : am_fu = 1048576 := rfl
  have hT := RelM.thr h
  have no : Rel (t + 1) gc (thr gr) := Rel.nx hT
  obtain ⟨T, hT6, eT⟩ := okAt_nat ((hT.2.1.1 2 (by decide)).2 (by unfold stp; omega)) (by decide) rfl rfl (n := 6)
  have ec15 : am_I gc 1 15 = nI T := (hT.1.at (ra := 2) (rk := 2) (by decide +kernel)).trans eT
  have e64 : (nI T).toInt64 - (1 : Int64) = (nI T - (1 : Int32)).toInt64 := by
    rcases (show T = 0 ∨ T = 1 ∨ T = 2 ∨ T = 3 ∨ T = 4 ∨ T = 5 ∨ T = 6 by omega) with rfl | rfl | rfl | rfl | rfl | rfl | rfl <;> rfl
  unfold fX11_plan fX12_plan
  rw [pu_let, show am_si gr 0 0 (0 : Int32) = thr gr from rfl, pu_gd (show am_in (2 : Int32) 5660 = true from rfl), show (2 : Int32).toNatClampNeg = 2 from rfl, eT, pu_let, q11_within, pu_bd, show (1 : Int64) = (1 : Int32).toInt64 from rfl, show (4 : Int64) = (4 : Int32).toInt64 from rfl, q12_in, pu_bd]
  by_cases h1 : (1 : Int32) ≤ a1 ∧ a1 ≤ 4
  rotate_left
  · rw [pb_f h1, if_pos (show nI 0 = (0 : Int32) from rfl), if_pos (show nI 0 = (0 : Int32) from rfl)]
    exact ⟨_, _, _, rfl, rfl, no⟩
  rw [pb_t h1, if_neg (show ¬ nI 1 = (0 : Int32) by decide), if_neg (show ¬ nI 1 = (0 : Int32) by decide), ec15, q11_within, pu_bd, show (nI T).toInt64 - (1 : Int32).toInt64 = (nI T - (1 : Int32)).toInt64 from e64, show (-(1 : Int32).toInt64) = (-1 : Int32).toInt64 from rfl, q12_in, pu_bd]
  by_cases h2 : (-1 : Int32) ≤ a2 ∧ a2 ≤ nI T - (1 : Int32)
  rotate_left
  · rw [pb_f h2, if_pos (show nI 0 = (0 : Int32) from rfl), if_pos (show nI 0 = (0 : Int32) from rfl)]
    exact ⟨_, _, _, rfl, rfl, no⟩
  rw [pb_t h2, if_neg (show ¬ nI 1 = (0 : Int32) by decide), if_neg (show ¬ nI 1 = (0 : Int32) by decide)]
  obtain ⟨N, hN4, rfl⟩ := nn_rng (n := 4) (by decide) ⟨Int32.le_trans (by decide) h1.1, h1.2⟩
  have hN0 : 0 < N := (nI_leI (a := 1) (by decide) (by omega)).mp h1.1
  have hNT : N ^ T ≤ 4096 := by
    have h3 : N ^ T ≤ 4 ^ T := Nat.pow_le_pow_left hN4 T
    have h4 : 4 ^ T ≤ 4 ^ 6 := Nat.pow_le_pow_right (by decide) hT6
    have h5 : (4 : Nat) ^ 6 = 4096 := rfl
    omega
  obtain ⟨q, hq, hq'⟩ := RelM.law hT
  have hO := hT.2.1.okR
  have hV := hO.ov
  have hr := hT.1.row
  -- the talks
  have hTx : ∃ tw tp tl : Nat → Nat, ∀ k, k < 6 → (tw k < 16 ∧ tp k < 4 ∧ tl k ≤ 3) ∧ am_I (thr gr) 2 (211 + 3 * k) = nI (tw k) ∧ am_I (thr gr) 2 (212 + 3 * k) = nI (tp k) ∧ am_I (thr gr) 2 (213 + 3 * k) = nI (tl k) := by
    have hi : ∀ k, k < 6 → okHi 0 (211 + 3 * k) = 15 ∧ okHi 0 (212 + 3 * k) = 3 ∧ okHi 0 (213 + 3 * k) = 3 ∧ okLo (211 + 3 * k) = 0 ∧ okLo (212 + 3 * k) = 0 ∧ okLo (213 + 3 * k) = 0 := by decide +kernel
    have ex : ∀ k, ∃ z : Nat × Nat × Nat, k < 6 → (z.1 < 16 ∧ z.2.1 < 4 ∧ z.2.2 ≤ 3) ∧ am_I (thr gr) 2 (211 + 3 * k) = nI z.1 ∧ am_I (thr gr) 2 (212 + 3 * k) = nI z.2.1 ∧ am_I (thr gr) 2 (213 + 3 * k) = nI z.2.2 := fun k => by
      by_cases hk : k < 6
      · obtain ⟨i1, i2, i3, i4, i5, i6⟩ := hi k hk
        obtain ⟨a, a1, a2⟩ := okAt_nat ((hT.2.1.1 (211 + 3 * k) (by omega)).2 (by unfold stp; omega)) (by omega) i4 i1 (n := 15)
        obtain ⟨b, b1, b2⟩ := okAt_nat ((hT.2.1.1 (212 + 3 * k) (by omega)).2 (by unfold stp; omega)) (by omega) i5 i2 (n := 3)
        obtain ⟨c, c1, c2⟩ := okAt_nat ((hT.2.1.1 (213 + 3 * k) (by omega)).2 (by unfold stp; omega)) (by omega) i6 i3 (n := 3)
        exact ⟨(a, b, c), fun _ => ⟨⟨by show a < 16; omega, by show b < 4; omega, c1⟩, a2, b2, c2⟩⟩
      · exact ⟨(0, 0, 0), fun z => absurd z hk⟩
    exact ⟨fun k => (Classical.choose (ex k)).1, fun k => (Classical.choose (ex k)).2.1, fun k => (Classical.choose (ex k)).2.2, fun k hk => Classical.choose_spec (ex k) hk⟩
  obtain ⟨tw, tp, tl, htx⟩ := hTx
  have htk : ∀ k, k < T → tw k < 16 ∧ tp k < 4 ∧ tl k ≤ 3 := fun k hk => (htx k (by omega)).1
  have om18a : ∀ k, k < 6 → ((2, 211 + 3 * k), (18, k)) ∈ om := by decide +kernel
  have om18b : ∀ k, k < 6 → ((2, 212 + 3 * k), (19, k)) ∈ om := by decide +kernel
  have om18c : ∀ k, k < 6 → ((2, 213 + 3 * k), (20, k)) ∈ om := by decide +kernel
  have kC : TkC T tw tp tl gc := ⟨ec15, fun k hk => ⟨(hT.1.at (om18a k (by omega))).trans (htx k (by omega)).2.1, (hT.1.at (om18b k (by omega))).trans (htx k (by omega)).2.2.1, (hT.1.at (om18c k (by omega))).trans (htx k (by omega)).2.2.2⟩⟩
  have kR : TkR T tw tp tl (thr gr) := ⟨eT, fun k hk => (htx k (by omega)).2⟩
  -- the numbers of the days
  have hNx : ∃ (snD stD hdD : Nat → Nat → Nat) (shD : Nat → Nat → Nat → Nat), ∀ d, d < N → (∀ e, e < d → okN q (rr (thr gr)) e) → DNm q T tw tp tl (rhoD q (rr (thr gr)) d) (snD d) (stD d) (hdD d) (fun k => !brd q (rhoD q (rr (thr gr)) d) (tw k) (tp k) (tl k)) (shD d) := by
    have ex : ∀ d, ∃ z : (Nat → Nat) × (Nat → Nat) × (Nat → Nat) × (Nat → Nat → Nat), d < N → (∀ e, e < d → okN q (rr (thr gr)) e) → DNm q T tw tp tl (rhoD q (rr (thr gr)) d) z.1 z.2.1 z.2.2.1 (fun k => !brd q (rhoD q (rr (thr gr)) d) (tw k) (tp k) (tl k)) z.2.2.2 := fun d => by
      by_cases hd : d < N ∧ ∀ e, e < d → okN q (rr (thr gr)) e
      · have hVd := rhoD_ok (q := q) hV d hd.2
        have ex1 : ∀ s, ∃ z : Nat × Nat × Nat, s < 6 → (z.1 ≤ 9999 ∧ z.2.1 ≤ 900000000 ∧ z.2.2 ≤ 9999) ∧ rhoD q (rr (thr gr)) d (10 + 10 * s + 0) = nI z.1 ∧ rhoD q (rr (thr gr)) d (10 + 10 * s + 8) = nI z.2.1 ∧ rhoD q (rr (thr gr)) d (10 + 10 * s + 1) = nI z.2.2 := fun s => by
          by_cases hs : s < 6
          · obtain ⟨a, a1, a2⟩ := hVd.snow hs
            obtain ⟨c, c1, c2⟩ := hVd.hold hs
            have hb : ∃ b, b ≤ 900000000 ∧ rhoD q (rr (thr gr)) d (10 + 10 * s + 8) = nI b := by
              cases d with
              | zero =>
                obtain ⟨b, b1, b2⟩ := okB_nat (by unfold stp; omega) (hO (10 + 10 * s + 8) (by omega)) (by omega)
                exact ⟨b, by omega, b2⟩
              | succ d =>
                refine ⟨0, by omega, ?_⟩
                rw [rhoD]
                unfold dwn eas
                rw [if_pos (by omega)]
            obtain ⟨b, b1, b2⟩ := hb
            exact ⟨(a, b, c), fun _ => ⟨⟨a1, b1, c1⟩, a2, b2, c2⟩⟩
          · exact ⟨(0, 0, 0), fun z => absurd z hs⟩
        have ex2 : ∀ k s, ∃ m, k < T → s < 6 → m ≤ 999 ∧ shk q (rhoD q (rr (thr gr)) d) (tw k) (tp k) (tl k) s = nI m := fun k s => by
          by_cases hk : k < T
          · by_cases hs : s < 6
            · obtain ⟨w1, w2, w3⟩ := htk k hk
              obtain ⟨m, m1, m2⟩ := shk_rg (q := q) hVd w1 w2 w3 hs
              exact ⟨m, fun _ _ => ⟨m1, m2⟩⟩
            · exact ⟨0, fun _ z => absurd z hs⟩
          · exact ⟨0, fun z => absurd z hk⟩
        exact ⟨(fun s => (Classical.choose (ex1 s)).1, fun s => (Classical.choose (ex1 s)).2.1, fun s => (Classical.choose (ex1 s)).2.2, fun k s => Classical.choose (ex2 k s)), fun _ _ => ⟨fun s hs => Classical.choose_spec (ex1 s) hs, fun k hk => ⟨rfl, fun s hs => Classical.choose_spec (ex2 k s) hk hs⟩⟩⟩
      · exact ⟨(fun _ => 0, fun _ => 0, fun _ => 0, fun _ _ => 0), fun z1 z2 => absurd ⟨z1, z2⟩ hd⟩
    exact ⟨fun d => (Classical.choose (ex d)).1, fun d => (Classical.choose (ex d)).2.1, fun d => (Classical.choose (ex d)).2.2.1, fun d => (Classical.choose (ex d)).2.2.2, fun d h1 h2 => Classical.choose_spec (ex d) h1 h2⟩
  obtain ⟨snD, stD, hdD, shD, hNum⟩ := hNx
  generalize hopD : (fun d k => !brd q (rhoD q (rr (thr gr)) d) (tw k) (tp k) (tl k)) = opD
  have hNum' : ∀ d, d < N → (∀ e, e < d → okN q (rr (thr gr)) e) → DNm q T tw tp tl (rhoD q (rr (thr gr)) d) (snD d) (stD d) (hdD d) (opD d) (shD d) := fun d h1 h2 => by rw [← hopD]; exact hNum d h1 h2
  -- the class looks ahead
  have h' := hT
  obtain ⟨hR, hI, own, hU, hG, hTp, hC, hW, nl, hnl, enl, hLw⟩ := h'
  have P65 : PkS gc 65 := hC.2.2.1
  have fK := cpk_fr gc 65 2
  have fS0 : FcS gc (cpk gc 65 2) := ⟨fK.1, fun a h1 h2 => fK.2 a (by omega)⟩
  have er : vr (cpk gc 65 2) 1 65 = rr (thr gr) := by rw [cpk_vr (by unfold VP; omega) (by omega)]; exact hr
  have kC1 : TkC T tw tp tl (cpk gc 65 2) := by
    unfold TkC at kC ⊢
    rw [fK.2 1 (by omega), fK.2 18 (by omega), fK.2 19 (by omega), fK.2 20 (by omega)]
    exact kC
  have look := lookL (q := q) (ρ := rr (thr gr)) (N := N) hT6 hN4 htk hV N 0 am_fu (cpk gc 65 2) (by omega) (by omega) kC1 (hq.gen fK.1 (fK.2 1 (by omega)) (fun a ha => fK.2 a (by omega))) (P65.eq fK.1) er (fun e he => absurd he (by omega)) (fun e he => absurd he (by omega))
  have eL : fX11_lookAhead (nI N) gc = fX11_lookAhead_L16 (nI N) am_fu (nI 0) (cpk gc 65 2) := by
    unfold fX11_lookAhead
    rw [q2_copyFrom P65 hT.pk (by omega), pu_bd]
    rfl
  rw [eL]
  -- the reference
  have run : ∀ P : (Nat → Nat) → Bool, (∀ c, (∀ j, j < T → c j < N) → (((∀ e, e + 1 < N → okN q (rr (thr gr)) e) ∧ ∀ j, j < T → aPl opD shD (fun d s => rmB (snD d) (stD d) (hdD d) s) j c (c j) = true) ↔ P c = true)) → ∃ g', fX12_plan_L47 (fun (x20 : Int32) (g21 : am_G) => am_bd (fX12_keepAll (16 : Int32) g21) fun u22 g23 => fX12_plan_L77 (KPl a2) (nI N) a2 (nI T) x20 am_fu (0 : Int32) (0 : Int32) g23) (nI N) a2 (nI T) am_fu (1 : Int32) (0 : Int32) (thr gr) = KPl a2 (nI (fldQ P (0, fun _ => 0) (rwL N tt3 T 0 (fun _ => 0))).1) g' ∧ FrT (thr gr) g' ∧ SPr T g' (fldQ P (0, fun _ => 0) (rwL N tt3 T 0 (fun _ => 0))) := by
    intro P hP
    have hk2 : am_I (am_sr (thr gr) 5 (fun j => if 136 * 16 ≤ j ∧ j < 136 * 16 + 136 then am_I (thr gr) 2 (6 + (j - 136 * 16)) else am_I (thr gr) 5 j)) 2 = am_I (thr gr) 2 := pI_sr_ne _ _ (by decide)
    have fk : FrT (thr gr) (am_sr (thr gr) 5 (fun j => if 136 * 16 ≤ j ∧ j < 136 * 16 + 136 then am_I (thr gr) 2 (6 + (j - 136 * 16)) else am_I (thr gr) 5 j)) := ⟨fun a k hs => by
      by_cases e5 : a = 5
      · subst e5
        rw [pI_sr_row, if_neg (fun z => hs (by unfold scR; omega))]
      · rw [pI_sr_ne _ _ e5], fun _ _ _ _ _ => rfl, rfl⟩
    obtain ⟨g', z1, z2, z3⟩ := codeL (K := KPl a2) (a2 := a2) (P := P) hT6 hN0 hN4 hNT htk hV hNum' hP (N ^ T) 0 am_fu (0, fun _ => 0) (am_sr (thr gr) 5 (fun j => if 136 * 16 ≤ j ∧ j < 136 * 16 + 136 then am_I (thr gr) 2 (6 + (j - 136 * 16)) else am_I (thr gr) 5 j)) (by omega) (by omega) (Nat.le_refl _) (by unfold TkR at kR ⊢; rw [hk2]; exact kR) (by rw [hk2]; exact hq') (by rw [fk.1 0 20 (by unfold scR sc0; omega)]; exact hT.ord) (rr_cg hk2) (fun j h1 h2 => by rw [pI_sr_row, if_pos (by omega), hk2, show 6 + (2176 + (j - 6) - 136 * 16) = j by omega]) (Or.inl rfl)
    rw [rwL_lsR hN0]
    refine ⟨g', ?_, fk.tr z2.1, z3⟩
    have hpw := powL (K := fun (x20 : Int32) (g21 : am_G) => am_bd (fX12_keepAll (16 : Int32) g21) fun u22 g23 => fX12_plan_L77 (KPl a2) (nI N) a2 (nI T) x20 am_fu (0 : Int32) (0 : Int32) g23) (N := N) (T := T) (a2 := a2) (g := thr gr) hT6 T 0 am_fu (by omega) (by omega)
    refine Eq.trans hpw ?_
    rw [show (16 : Int32) = nI 16 from rfl, q12_keepAll (by decide), pu_bd]
    exact z1
  rcases look with ⟨g1, x1, x2, x3, x4⟩ | ⟨g1, e0, x1, x2, x3, x4, x5⟩
  · -- nights are quiet
    rw [x1, pu_bd, if_neg (show ¬ nI 1 = (0 : Int32) by decide)]
    have hok : ∀ d, d < N → ∀ e, e < d → okN q (rr (thr gr)) e := fun d hd e he => x4 e (by omega)
    have hDN := fun d hd => hNum' d hd (hok d hd)
    have hsh : ∀ d, d < N → ∀ k, k < T → ∀ s, s < 6 → shD d k s ≤ 999 := fun d hd k hk s hs => (((hDN d hd).2 k hk).2 s hs).1
    have hb : ∀ d, d < N → ∀ s, s < 6 → -1000000000 ≤ rmB (snD d) (stD d) (hdD d) s ∧ rmB (snD d) (stD d) (hdD d) s ≤ 1000000000 := fun d hd s hs => by
      obtain ⟨⟨b1, b2, b3⟩, -⟩ := (hDN d hd).1 s hs
      unfold rmB
      by_cases hz : snD d s = 0
      · rw [if_pos hz]; omega
      · rw [if_neg hz]; omega
    have hbg : fX4_begin (nI N) g1 = some ((), am_si (am_si g1 45 7 (nI N)) 45 8 (0 : Int32)) := rfl
    have hPD : PDt T N opD shD (am_si (am_si g1 45 7 (nI N)) 45 8 (0 : Int32)) := by
      refine ⟨by rw [pe_ine (by decide), pe_ine (by decide), (fS0.tr x2).2 1 (by omega) (by decide)]; exact ec15, by rw [pe_ik (by decide), pe_ieq], fun d hd k hk => ?_⟩
      obtain ⟨y1, y2⟩ := (x3 d hd).1 k hk
      refine ⟨?_, fun s hs => by rw [pe_ine (by decide), pe_ine (by decide), y2 s hs]; exact (((hDN d hd).2 k hk).2 s hs).2⟩
      rw [pe_ine (by decide), pe_ine (by decide), y1, ((hDN d hd).2 k hk).1]
      cases brd q (rhoD q (rr (thr gr)) d) (tw k) (tp k) (tl k) <;> rfl
    have hRm : RmP N shD (fun d s => rmB (snD d) (stD d) (hdD d) s) 0 (fun _ => 0) (am_si (am_si g1 45 7 (nI N)) 45 8 (0 : Int32)) := fun d hd s hs => by
      rw [pe_ine (by decide), pe_ine (by decide), (x3 d hd).2 s hs]
      obtain ⟨⟨b1, b2, b3⟩, c1, c2, c3⟩ := (hDN d hd).1 s hs
      have e0 : usd shD (fun _ => 0) d 0 s = 0 := rfl
      rw [e0]
      show (rmV (rhoD q (rr (thr gr)) d) s).toInt = rmB (snD d) (stD d) (hdD d) s - 0
      rw [Int.sub_zero]
      unfold rmV rmB
      rw [c1, c2, c3]
      by_cases hz : snD d s = 0
      · rw [if_pos hz, if_pos (by rw [hz])]
        rfl
      · rw [if_neg hz, if_neg (fun z => hz ((nn_eq (b := 0) (by omega) (by decide)).mp z))]
        exact sub3 b3 b1 (by omega)
    have hlen := rwL_len (N := N) (A := aPl opD shD (fun d s => rmB (snD d) (stD d) (hdD d) s)) T 0 (fun _ => 0)
    obtain ⟨g2, s1, s2, s3, -, -⟩ := psrch (T := T) (N := N) (b := fun d s => rmB (snD d) (stD d) (hdD d) s) hT6 hN4 hsh hb T 0 64 (fun _ => 0) (0, fun _ => 0) _ (by omega) (by omega) ⟨hPD, fun j hj => absurd hj (by omega), hRm, fun j hj => absurd hj (by omega), fun j hj => absurd hj (by omega)⟩ ⟨by rw [pe_ieq]; rfl, Or.inl rfl⟩ (by show 0 + _ ≤ 1000000; omega)
    obtain ⟨gr2, r1, r2, r3⟩ := run (allA (aPl opD shD (fun d s => rmB (snD d) (stD d) (hdD d) s)) T) (fun c hc => ⟨fun z => decide_eq_true z.2, fun z => ⟨x4, of_decide_eq_true z⟩⟩)
    rw [fldQ_prune (P := allA (aPl opD shD (fun d s => rmB (snD d) (stD d) (hdD d) s)) T) (T := T) (A := aPl opD shD (fun d s => rmB (snD d) (stD d) (hdD d) s)) (fun e he => of_decide_eq_true he) (fun k c c' w hcc => aPl_cg k c c' w hcc) T 0 (fun _ => 0) (0, fun _ => 0) (by omega)] at r1 r3
    have hqle := fldQ_le (P := allA (aPl opD shD (fun d s => rmB (snD d) (stD d) (hdD d) s)) T) (rwL N (aPl opD shD (fun d s => rmB (snD d) (stD d) (hdD d) s)) T 0 (fun _ => 0)) (0, fun _ => 0)
    generalize fldQ (allA (aPl opD shD (fun d s => rmB (snD d) (stD d) (hdD d) s)) T) (0, fun _ => 0) (rwL N (aPl opD shD (fun d s => rmB (snD d) (stD d) (hdD d) s)) T 0 (fun _ => 0)) = S at *
    have fc2 : FcS gc g2 := ((fS0.tr x2).tr (((FcS.rf g1).si (by omega) 7 _).si (by omega) 8 _)).tr s3.S
    have hrel : Rel (t + 1) g2 gr2 := Rel.nx (hT.scrT fc2 r2)
    rw [hbg, pu_bd, show fX4_search 64 (0 : Int32) (am_si (am_si g1 45 7 (nI N)) 45 8 (0 : Int32)) = some ((), g2) from s1, pu_bd, s2.1]
    have r1' := r1
    unfold KPl at r1'
    refine Exists.imp (fun v hv => Exists.imp (fun gc1 hc => ?_) hv) (?_ : ∃ (v : Int32) (gc1 gr1 : am_G), (if nI S.1 = (0 : Int32) then some ((-1 : Int32), g2) else if a2 = (-1 : Int32) then some (nI S.1, g2) else am_gd (am_in a2 6) (some (am_I g2 50 a2.toNatClampNeg, g2))) = some (v, gc1) ∧ (if nI S.1 = (0 : Int32) then some ((-1 : Int32), gr2) else if a2 = (-1 : Int32) then some (nI S.1, gr2) else am_gd (am_in a2 6) (some (am_I gr2 28 a2.toNatClampNeg, gr2))) = some (v, gr1) ∧ Rel (t + 1) gc1 gr1)
    · obtain ⟨gr1, u1, u2, u3⟩ := hc
      exact ⟨gr1, u1, r1'.trans u2, u3⟩
    · by_cases hz : nI S.1 = (0 : Int32)
      · rw [if_pos hz, if_pos hz]
        exact ⟨_, _, _, rfl, rfl, hrel⟩
      · rw [if_neg hz, if_neg hz]
        by_cases hm : a2 = -1
        · rw [if_pos hm, if_pos hm]
          exact ⟨_, _, _, rfl, rfl, hrel⟩
        · have h0 : (0 : Int32) ≤ a2 := by
            have h3 := Int32.le_iff_toInt_le.mp h2.1
            have h4 : (-1 : Int32).toInt = -1 := rfl
            have h5 : a2.toInt ≠ -1 := fun z => hm (Int32.toInt_inj.mp (by rw [z]; rfl))
            exact Int32.le_iff_toInt_le.mpr (by have : (0 : Int32).toInt = 0 := rfl; omega)
          have hT0 : 0 < T := by
            apply Nat.pos_of_ne_zero
            intro z
            have h3 := Int32.le_iff_toInt_le.mp (Int32.le_trans h0 h2.2)
            rw [z] at h3
            exact absurd h3 (by decide)
          obtain ⟨T', rfl⟩ : ∃ T', T = T' + 1 := ⟨T - 1, by omega⟩
          obtain ⟨x, hx, rfl⟩ := nn_rng (n := T') (by omega) ⟨h0, by have := h2.2; rw [show nI (T' + 1) - (1 : Int32) = nI T' from nI_ms T'] at this; exact this⟩
          have hS0 : S.1 ≠ 0 := fun z => hz (by rw [z]; rfl)
          rw [if_neg hm, if_neg hm, pe_gd (show x < 6 by omega) (by decide), pe_gd (show x < 6 by omega) (by decide), pe_clamp (show x < 2147483648 by omega)]
          rcases s2.2 with z | z
          · exact absurd z hS0
          · rcases r3 with z' | z'
            · exact absurd z' hS0
            · rw [z x (by omega), z' x (by omega)]
              exact ⟨_, _, _, rfl, rfl, hrel⟩
  · -- a night is not
    rw [x1, pu_bd, if_pos (show nI 0 = (0 : Int32) from rfl)]
    obtain ⟨gr2, r1, r2, -⟩ := run (fun _ => false) (fun c _ => ⟨fun z => absurd (z.1 e0 x3) x4, fun z => absurd z Bool.false_ne_true⟩)
    rw [fldQ_no (P := fun _ => false) (fun c _ => Bool.false_ne_true)] at r1
    unfold KPl at r1
    rw [if_pos (show nI 0 = (0 : Int32) from rfl)] at r1
    exact ⟨-1, g1, gr2, rfl, r1, Rel.nx (hT.scrT (fS0.tr x2) r2)⟩
