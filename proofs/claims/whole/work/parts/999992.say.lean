/-! ===== saying ===== -/
section SAYM
variable {nW n : Nat} {L : Nat → Nat} {mg sy : Nat → Int32} {op : Nat → Bool} {sh : Nat → Nat → Nat} {sn st hd : Nat → Nat}
theorem sumEqv (f : Nat → Nat) {c d : Nat → Nat} (hc : isR nW op mg sy n c) (hd : isR nW op mg sy n d) (h : eqv nW (cnt n c) (cnt n d)) : smW n (fun j => f (c j)) = smW n (fun j => f (d j)) := by
  rw [sum_cnt f (fun j hj => (hc j hj).1), sum_cnt f (fun j hj => (hd j hj).1)]
  exact smW_cg fun x hx => by rw [h x hx]
theorem fitEqv {b : Nat → Int} {c d : Nat → Nat} (hc : isR nW op mg sy n c) (hd : isR nW op mg sy n d) (h : eqv nW (cnt n c) (cnt n d)) : fitS sh b n c = fitS sh b n d ∧ lenS L n c = lenS L n d := by
  refine ⟨?_, sumEqv L hc hd h⟩
  unfold fitS
  have e : okK sh b n c ↔ okK sh b n d := by
    constructor
    · intro z s hs
      have := z s hs
      rw [sumEqv (fun x => sh x s) hc hd h] at this
      exact this
    · intro z s hs
      have := z s hs
      rw [← sumEqv (fun x => sh x s) hc hd h] at this
      exact this
  by_cases h1 : n = 0 ∨ okK sh b n c
  · rw [decide_eq_true h1, decide_eq_true (h1.imp id e.mp)]
  · rw [decide_eq_false h1, decide_eq_false (fun z => h1 (z.imp id e.mpr))]
theorem lenB (hn : n ≤ 5) (hL : ∀ w, w < nW → L w ≤ 9) {c : Nat → Nat} (hc : isR nW op mg sy n c) : lenS L n c ≤ 45 := by
  have := smW_le (f := fun j => L (c j)) (M := 9) (k := n) fun j hj => hL _ (hc j hj).1
  show smW n (fun j => L (c j)) ≤ 45
  omega
/-- the reference finds -/
theorem q12_find {q : Option pLw} {ρ : Row} {pl l : Nat} {g : am_G} (hn : n ≤ 5) (hW : nW ≤ 16) (hp : pl < 4) (hl : l ≤ 3) (hV : okV ρ) (hq : LawR (am_I g 2) q) (h20 : am_I g 0 20 = nI 0) (hr : rr g = ρ) (h0 : am_I g 2 0 = nI nW) (h1 : am_I g 2 1 = nI n) (hsy : ∀ k, k < n → am_I g 2 (206 + k) = sy k) (hL : ∀ w, w < nW → L w ≤ 9 ∧ ρ (142 + 4 * w + 0) = nI (L w)) (hmg : ∀ w, w < nW → ρ (142 + 4 * w + 2) = mg w) (hop : ∀ w, w < nW → (if brd q ρ w pl l = true then nI 0 else nI 1) = (if op w = true then nI 1 else nI 0)) (hsh : ∀ w, w < nW → ∀ s, s < 6 → sh w s ≤ 999 ∧ shk q ρ w pl l s = nI (sh w s)) (hsl : ∀ s, s < 6 → (sn s ≤ 9999 ∧ st s ≤ 900000000 ∧ hd s ≤ 9999) ∧ ρ (10 + 10 * s + 0) = nI (sn s) ∧ ρ (10 + 10 * s + 8) = nI (st s) ∧ ρ (10 + 10 * s + 1) = nI (hd s)) : ∃ g', fX12_findSaying (nI pl) (nI l) g = some ((), g') ∧ SyR n g' (fld (fitS sh (rmB sn st hd) n) (lenS L n) (fun _ => 1) (100000000, 0, fun _ => 0) (rwL nW (alW op mg sy) n 0 (fun _ => 0))) ∧ FrT g g' := by
  have hfu : am_fu = 1048576 := rfl
  unfold fX12_findSaying
  rw [pu_gd (show am_in (1 : Int32) 5660 = true from rfl), pu_let, show (1 : Int32).toNatClampNeg = 1 from rfl, h1]
  obtain ⟨g1, e1, f1, d1⟩ := fnL10 (K := fun  (g30 : am_G) =>
    am_let (am_si g30 0 47 (100000000 : Int32)) fun g31 =>
    am_let (am_si g31 0 48 (0 : Int32)) fun g32 =>
    if nI n = 0 then (
      am_bd (fX12_weighSaying (0 : Int32) g32) fun u64 g65 =>
      some ((), g65))
    else (
      am_gd (am_in (0 : Int32) 5) <|
      am_let (am_si g32 25 (0 : Int32).toNatClampNeg (-1 : Int32)) fun g35 =>
      fX12_findSaying_L121 (nI n) am_fv (0 : Int32) g35)) (x2 := nI n) (q := q) (ρ := ρ) hW hp hl hV nW 0 am_fu g (by omega) (by omega) h0 hq h20 hr (fun i hi => absurd hi (by omega))
  have eR : ∀ j, j < 259 → am_I g1 2 j = ρ j := fun j hj => by rw [f1.r2, ← rr_at hj, hr]
  have hD : RDs nW n L mg sy op sh sn st hd g1 := by
    refine ⟨by rw [f1.r2]; exact h0, by rw [f1.r2]; exact h1, fun k hk => by rw [f1.r2]; exact hsy k hk, fun w hw => ⟨by rw [eR _ (by omega)]; exact (hL w hw).2, by rw [eR _ (by omega)]; exact hmg w hw, by rw [(d1 w hw).1]; exact hop w hw, fun s hs => by rw [(d1 w hw).2 s hs]; exact (hsh w hw s hs).2⟩, fun s hs => ?_⟩
    rw [eR _ (by omega), eR _ (by omega), eR _ (by omega)]
    exact (hsl s hs).2
  have f2 : FZ g1 (am_si (am_si g1 0 47 (100000000 : Int32)) 0 48 (0 : Int32)) := ⟨rfl, fun a j h3 _ _ => by rw [pI_si, if_neg (by omega), pI_si, if_neg (by omega)]⟩
  have hS : SyR n (am_si (am_si g1 0 47 (100000000 : Int32)) 0 48 (0 : Int32)) (100000000, 0, fun _ => 0) := ⟨by rw [pe_ik (by decide), pe_ieq]; rfl, by rw [pe_ieq]; rfl, Or.inl rfl, Nat.le_refl _⟩
  have hbd := fun s hs => (hsl s hs).1
  have hL' := fun w hw => (hL w hw).1
  have hsh' := fun w hw s hs => (hsh w hw s hs).1
  by_cases hn0 : n = 0
  · subst hn0
    obtain ⟨g2, x1, x2, x3, -⟩ := wghR (c := fun _ => 0) hn hW hL' hsh' hbd (hD.fz f2) (fun j hj => absurd hj (by omega)) (fun j hj => absurd hj (by omega)) hS
    refine ⟨g2, ?_, x2, (f1.T.tr f2.T).tr x3.T⟩
    refine Eq.trans e1 ?_
    rw [pu_let, pu_let, if_pos (show nI 0 = (0 : Int32) from rfl), show fX12_weighSaying (0 : Int32) (am_si (am_si g1 0 47 (100000000 : Int32)) 0 48 (0 : Int32)) = some ((), g2) from x1, pu_bd]
  · have f3 := f2.s25 0 (-1)
    obtain ⟨g2, x1, x2, x3⟩ := odoA (S := (100000000, 0, fun _ => 0)) hn (by omega) hW hL' hsh' hbd (hD.fz f3) (pe_ieq _ _ _ _) (hS.fr (fun j => pe_ine (by decide)) (pI_si_ne _ _ _ (by decide)))
    refine ⟨g2, ?_, x2, (f1.T.tr f3.T).tr x3.T⟩
    refine Eq.trans e1 ?_
    rw [pu_let, pu_let, if_neg (show ¬ nI n = (0 : Int32) from fun z => hn0 ((nn_eq (b := 0) (by omega) (by decide)).mp z)), pu_gd (show am_in (0 : Int32) 5 = true from rfl), pu_let, show (0 : Int32).toNatClampNeg = 0 from rfl]
    exact x1
/-- the class finds -/
theorem q3_find {q : Option pLw} {ρ : Row} {pl l : Nat} {g : am_G} (hn : n ≤ 5) (hW : nW ≤ 16) (hp : pl < 4) (hl : l ≤ 3) (hV : okV ρ) (hq : LawC g q) (hP : PkS g 2) (hr : vr g 1 2 = ρ) (h12 : am_I g 12 4 = nI nW) (h14 : am_I g 1 14 = nI n) (hsy : ∀ k, k < n → am_I g 17 k = sy k) (hL : ∀ w, w < nW → L w ≤ 9 ∧ ρ (142 + 4 * w + 0) = nI (L w)) (hmg : ∀ w, w < nW → ρ (142 + 4 * w + 2) = mg w) (hop : ∀ w, w < nW → (if brd q ρ w pl l = true then nI 0 else nI 1) = (if op w = true then nI 1 else nI 0)) (hsh : ∀ w, w < nW → ∀ s, s < 6 → sh w s ≤ 999 ∧ shk q ρ w pl l s = nI (sh w s)) (hsl : ∀ s, s < 6 → (sn s ≤ 9999 ∧ st s ≤ 900000000 ∧ hd s ≤ 9999) ∧ ρ (10 + 10 * s + 0) = nI (sn s) ∧ ρ (10 + 10 * s + 8) = nI (st s) ∧ ρ (10 + 10 * s + 1) = nI (hd s)) : ∃ g1 g', fX3_prepare (nI pl) (nI l) g = some ((), g1) ∧ fX3_search 64 (nI 0) (nI 0) (nI 1) g1 = some ((), g') ∧ SyC n g' (fld (fitS sh (rmB sn st hd) n) (lenS L n) (fun c => num nW op mg sy n (cnt n c)) (1000000000, 0, fun _ => 0) (rwL nW (soW op mg sy) n 0 (fun _ => 0))) ∧ FcS g g' := by
  obtain ⟨g1, e1, f1, d7, d8, d42, d40⟩ := q3_prepare hW hp hl hV h12 hq hr hP
  have k1 : ∀ a, a ≠ 37 → a ≠ 38 → a ≠ 39 → a ≠ 40 → a ≠ 41 → a ≠ 42 → am_I g1 a = am_I g a := f1.2
  have hrm : ∀ s, s < 6 → (rmV ρ s).toInt = rmB sn st hd s := fun s hs => by
    obtain ⟨⟨b1, b2, b3⟩, c1, c2, c3⟩ := hsl s hs
    unfold rmV rmB
    rw [c1, c2, c3]
    by_cases hz : sn s = 0
    · rw [if_pos hz, if_pos (by rw [hz])]
      rfl
    · rw [if_neg hz, if_neg (fun z => hz ((nn_eq (b := 0) (by omega) (by decide)).mp z))]
      exact sub3 b3 b1 (by omega)
  have hb : ∀ s, s < 6 → -1000000000 ≤ rmB sn st hd s ∧ rmB sn st hd s ≤ 1000000000 := fun s hs => by
    obtain ⟨⟨b1, b2, b3⟩, -⟩ := hsl s hs
    unfold rmB
    by_cases hz : sn s = 0
    · rw [if_pos hz]; omega
    · rw [if_neg hz]; omega
  have hD : CDs nW n L mg sy op sh g1 := ⟨by rw [k1 1 (by decide) (by decide) (by decide) (by decide) (by decide) (by decide)]; exact h14, by rw [k1 12 (by decide) (by decide) (by decide) (by decide) (by decide) (by decide)]; exact h12, fun k hk => by rw [k1 17 (by decide) (by decide) (by decide) (by decide) (by decide) (by decide)]; exact hsy k hk, fun w hw => ⟨by rw [k1 13 (by decide) (by decide) (by decide) (by decide) (by decide) (by decide), show am_I g 13 w = vr g 1 2 (142 + 4 * w + 0) from r_wd (c := 0) (by omega) (by decide), hr]; exact (hL w hw).2, by rw [k1 15 (by decide) (by decide) (by decide) (by decide) (by decide) (by decide), show am_I g 15 w = vr g 1 2 (142 + 4 * w + 2) from r_wd (c := 2) (by omega) (by decide), hr]; exact hmg w hw, by rw [(d40 w hw).1]; exact hop w hw, fun s hs => by rw [(d40 w hw).2 s hs]; exact (hsh w hw s hs).2⟩⟩
  have hLv : Lv nW n L mg sy op sh (rmB sn st hd) 0 (fun _ => 0) g1 := ⟨hD, fun j hj => absurd hj (by omega), fun s hs => by
    rw [Nat.mul_zero, Nat.zero_add, d42 s hs, hrm s hs, smW]
    omega⟩
  obtain ⟨g', x1, x2, x3⟩ := srch hn hW (fun w hw => (hL w hw).1) (fun w hw s hs => (hsh w hw s hs).1) hb n 0 64 (fun _ => 0) (1000000000, 0, fun _ => 0) g1 (by omega) (by omega) (fun j hj => absurd hj (by omega)) (fun i j h1 h2 => absurd h2 (by omega)) (Or.inl rfl) hLv ⟨d7, d8, Or.inl rfl, Nat.le_refl _⟩
  have en : num nW op mg sy 0 (cnt 0 (fun _ => 0)) = 1 := by rw [num, if_pos (show eqv nW (fun _ => 0) (cnt 0 (fun _ => 0)) from fun _ _ => rfl)]
  rw [en] at x1
  exact ⟨g1, g', e1, x1, x2, FcS.tr ⟨f1.1, fun a h1 h2 => f1.2 a (by omega) (by omega) (by omega) (by omega) (by omega) (by omega)⟩ x3.S⟩
end SAYM
theorem m_saying {t : Nat} (ht : t < 512) {gc gr : am_G} (h : Rel t gc gr) (a1 a2 a3 : Int32) : ∃ (v : Int32) (gc1 gr1 : am_G), fX11_saying a1 a2 a3 gc = some (v, gc1) ∧ fX12_saying a1 a2 a3 gr = some (v, gr1) ∧ Rel (t + 1) gc1 gr1 := by
  have hT := RelM.thr h
  obtain ⟨nW, hW, er0, ec0⟩ := RelM.cntw hT
  obtain ⟨n, hn, en⟩ := okAt_nat ((hT.2.1.1 1 (by decide)).2 (by unfold stp; omega)) (by decide) rfl rfl (n := 5)
  have ec14 : am_I gc 1 14 = nI n := (hT.1.at (ra := 2) (rk := 1) (by decide +kernel)).trans en
  have e64 : (1 : Int64) + (nI n).toInt64 = (nI (n + 1)).toInt64 := by
    rcases (show n = 0 ∨ n = 1 ∨ n = 2 ∨ n = 3 ∨ n = 4 ∨ n = 5 by omega) with rfl | rfl | rfl | rfl | rfl | rfl <;> rfl
  have no : Rel (t + 1) gc (thr gr) := Rel.nx hT
  unfold fX11_saying fX12_saying
  rw [pu_let, show am_si gr 0 0 (0 : Int32) = thr gr from rfl, q11_isPlace, pu_bd, q12_isPlace, pu_bd]
  by_cases h1 : nI 0 ≤ a1 ∧ a1 ≤ nI 3
  rotate_left
  · rw [pb_f h1, if_pos (show nI 0 = (0 : Int32) from rfl), if_pos (show nI 0 = (0 : Int32) from rfl)]
    exact ⟨_, _, _, rfl, rfl, no⟩
  rw [pb_t h1, if_neg (show ¬ nI 1 = (0 : Int32) by decide), if_neg (show ¬ nI 1 = (0 : Int32) by decide), q11_isLoud, pu_bd, q12_isLoud, pu_bd]
  by_cases h2 : nI 1 ≤ a2 ∧ a2 ≤ nI 3
  rotate_left
  · rw [pb_f h2, if_pos (show nI 0 = (0 : Int32) from rfl), if_pos (show nI 0 = (0 : Int32) from rfl)]
    exact ⟨_, _, _, rfl, rfl, no⟩
  rw [pb_t h2, if_neg (show ¬ nI 1 = (0 : Int32) by decide), if_neg (show ¬ nI 1 = (0 : Int32) by decide), ec14, show nI n + (1 : Int32) = nI (n + 1) from nI_add n 1, q11_within, pu_bd, pu_gd (show am_in (1 : Int32) 5660 = true from rfl), show (1 : Int32).toNatClampNeg = 1 from rfl, en, e64, show (0 : Int64) = (0 : Int32).toInt64 from rfl, q12_in, pu_bd]
  by_cases h3 : (0 : Int32) ≤ a3 ∧ a3 ≤ nI (n + 1)
  rotate_left
  · rw [pb_f h3, if_pos (show nI 0 = (0 : Int32) from rfl), if_pos (show nI 0 = (0 : Int32) from rfl)]
    exact ⟨_, _, _, rfl, rfl, no⟩
  rw [pb_t h3, if_neg (show ¬ nI 1 = (0 : Int32) by decide), if_neg (show ¬ nI 1 = (0 : Int32) by decide)]
  obtain ⟨pl, hpl, rfl⟩ := nn_rng (n := 3) (by decide) h1
  obtain ⟨l, hl1, hl2, rfl⟩ := loud_rng h2
  obtain ⟨x, hx, rfl⟩ := nn_rng (n := n + 1) (by omega) h3
  obtain ⟨q, hq, hq'⟩ := RelM.law hT
  have hO := hT.2.1.okR
  have hV := hO.ov
  have hr := hT.1.row
  -- the numbers
  have hLx : ∃ L : Nat → Nat, ∀ w, w < nW → L w ≤ 9 ∧ rr (thr gr) (142 + 4 * w + 0) = nI (L w) := by
    have ex : ∀ w, ∃ m, w < nW → m ≤ 9 ∧ rr (thr gr) (142 + 4 * w + 0) = nI m := fun w => by
      by_cases hw : w < nW
      · obtain ⟨m, m1, m2⟩ := hV.long (w := w) (by omega)
        exact ⟨m, fun _ => ⟨m1, m2⟩⟩
      · exact ⟨0, fun z => absurd z hw⟩
    exact ⟨fun w => Classical.choose (ex w), fun w hw => Classical.choose_spec (ex w) hw⟩
  obtain ⟨L, hL⟩ := hLx
  have hSx : ∃ sh : Nat → Nat → Nat, ∀ w, w < nW → ∀ s, s < 6 → sh w s ≤ 999 ∧ shk q (rr (thr gr)) w pl l s = nI (sh w s) := by
    have ex : ∀ w s, ∃ m, w < nW → s < 6 → m ≤ 999 ∧ shk q (rr (thr gr)) w pl l s = nI m := fun w s => by
      by_cases hw : w < nW
      · by_cases hs : s < 6
        · obtain ⟨m, m1, m2⟩ := shk_rg (q := q) hV (w := w) (p := pl) (l := l) (s := s) (by omega) (by omega) hl2 hs
          exact ⟨m, fun _ _ => ⟨m1, m2⟩⟩
        · exact ⟨0, fun _ z => absurd z hs⟩
      · exact ⟨0, fun z => absurd z hw⟩
    exact ⟨fun w s => Classical.choose (ex w s), fun w hw s hs => Classical.choose_spec (ex w s) hw hs⟩
  obtain ⟨sh, hsh⟩ := hSx
  have hBx : ∃ sn st hd : Nat → Nat, ∀ s, s < 6 → (sn s ≤ 9999 ∧ st s ≤ 900000000 ∧ hd s ≤ 9999) ∧ rr (thr gr) (10 + 10 * s + 0) = nI (sn s) ∧ rr (thr gr) (10 + 10 * s + 8) = nI (st s) ∧ rr (thr gr) (10 + 10 * s + 1) = nI (hd s) := by
    have ex : ∀ s, ∃ z : Nat × Nat × Nat, s < 6 → (z.1 ≤ 9999 ∧ z.2.1 ≤ 900000000 ∧ z.2.2 ≤ 9999) ∧ rr (thr gr) (10 + 10 * s + 0) = nI z.1 ∧ rr (thr gr) (10 + 10 * s + 8) = nI z.2.1 ∧ rr (thr gr) (10 + 10 * s + 1) = nI z.2.2 := fun s => by
      by_cases hs : s < 6
      · obtain ⟨a, a1, a2⟩ := hV.snow hs
        obtain ⟨c, c1, c2⟩ := hV.hold hs
        obtain ⟨b, b1, b2⟩ := okB_nat (by unfold stp; omega) (hO (10 + 10 * s + 8) (by omega)) (by omega)
        exact ⟨(a, b, c), fun _ => ⟨⟨a1, by show b ≤ 900000000; omega, c1⟩, a2, b2, c2⟩⟩
      · exact ⟨(0, 0, 0), fun z => absurd z hs⟩
    exact ⟨fun s => (Classical.choose (ex s)).1, fun s => (Classical.choose (ex s)).2.1, fun s => (Classical.choose (ex s)).2.2, fun s hs => Classical.choose_spec (ex s) hs⟩
  obtain ⟨sn, st, hd, hsl⟩ := hBx
  have hop : ∀ w, w < nW → (if brd q (rr (thr gr)) w pl l = true then nI 0 else nI 1) = (if (!brd q (rr (thr gr)) w pl l) = true then nI 1 else nI 0) := fun w _ => by
    cases brd q (rr (thr gr)) w pl l <;> rfl
  have om17 : ∀ k, k < 5 → ((2, 206 + k), (17, k)) ∈ om := by decide +kernel
  obtain ⟨g1, gc2, x1, x2, x3, x4⟩ := q3_find (sy := fun k => am_I (thr gr) 2 (206 + k)) (mg := fun w => rr (thr gr) (142 + 4 * w + 2)) (op := fun w => !brd q (rr (thr gr)) w pl l) (g := gc) hn hW (by omega) hl2 hV hq hT.pk hr ec0 ec14 (fun k hk => hT.1.at (om17 k (by omega))) hL (fun w hw => rfl) hop hsh hsl
  obtain ⟨gr2, y1, y2, y3⟩ := q12_find (sy := fun k => am_I (thr gr) 2 (206 + k)) (mg := fun w => rr (thr gr) (142 + 4 * w + 2)) (op := fun w => !brd q (rr (thr gr)) w pl l) (g := thr gr) hn hW (by omega) hl2 hV hq' hT.ord rfl er0 en (fun k hk => rfl) hL (fun w hw => rfl) hop hsh hsl
  have hrel : Rel (t + 1) gc2 gr2 := Rel.nx (hT.scrT x4 y3)
  rw [x1, pu_bd, show fX3_search 64 (0 : Int32) (0 : Int32) (1 : Int32) g1 = some ((), gc2) from x2, pu_bd, y1, pu_bd]
  generalize hF1 : fld (fitS sh (rmB sn st hd) n) (lenS L n) (fun _ => 1) (100000000, 0, fun _ => 0) (rwL nW (alW (fun w => !brd q (rr (thr gr)) w pl l) (fun w => rr (thr gr) (142 + 4 * w + 2)) (fun k => am_I (thr gr) 2 (206 + k))) n 0 (fun _ => 0)) = S1 at y2
  generalize hF2 : fld (fitS sh (rmB sn st hd) n) (lenS L n) (fun c => num nW (fun w => !brd q (rr (thr gr)) w pl l) (fun w => rr (thr gr) (142 + 4 * w + 2)) (fun k => am_I (thr gr) 2 (206 + k)) n (cnt n c)) (1000000000, 0, fun _ => 0) (rwL nW (soW (fun w => !brd q (rr (thr gr)) w pl l) (fun w => rr (thr gr) (142 + 4 * w + 2)) (fun k => am_I (thr gr) 2 (206 + k))) n 0 (fun _ => 0)) = S2 at x3
  obtain ⟨m1, r1, c1⟩ := S1
  obtain ⟨m2, r2, c2⟩ := S2
  obtain ⟨er, hor⟩ := sayEq (B := 100000000) (B' := 1000000000) (fun c d hc hd' he => fitEqv hc hd' he) (fun c hc => by
    have := lenB hn (fun w hw => (hL w hw).1) hc
    omega) _ _ hF1 hF2
  subst er
  obtain ⟨u1, u2, u3, u4⟩ := x3
  obtain ⟨v1, v2, v3, v4⟩ := y2
  dsimp only at u1 u2 u3 u4 v1 v2 v3 v4
  rw [pu_jn]
  dsimp only
  rw [u1, u2, v1, v2]
  by_cases hx1 : x = 1
  · subst hx1
    rw [if_pos (show nI 1 = (1 : Int32) from rfl), if_pos (show nI 1 = (1 : Int32) from rfl), if_pos (show nI 1 = (1 : Int32) from rfl)]
    exact ⟨_, _, _, rfl, rfl, hrel⟩
  · have hne : ¬ nI x = (1 : Int32) := fun z => hx1 ((nn_eq (b := 1) (by omega) (by decide)).mp z)
    rw [if_neg hne, if_neg hne]
    by_cases hz : nI r1 = (0 : Int32)
    · rw [if_pos hz, if_pos hz, if_neg hne]
      exact ⟨_, _, _, rfl, rfl, hrel⟩
    · rw [if_neg hz, if_neg hz]
      rcases hor with z | ⟨z1, z2, z3, z4⟩
      · exact absurd (by rw [z]; rfl) hz
      · subst z1
        subst z2
        by_cases hx0 : x = 0
        · subst hx0
          rw [if_pos (show nI 0 = (0 : Int32) from rfl), if_pos (show nI 0 = (0 : Int32) from rfl)]
          exact ⟨_, _, _, rfl, rfl, hrel⟩
        · have hne0 : ¬ nI x = (0 : Int32) := fun z => hx0 ((nn_eq (b := 0) (by omega) (by decide)).mp z)
          obtain ⟨y, rfl⟩ : ∃ y, x = y + 2 := ⟨x - 2, by omega⟩
          have e2 : nI (y + 2) - (2 : Int32) = nI y := by rw [show (2 : Int32) = nI 2 from rfl, pe_sub (by omega)]; congr 1
          rcases u3 with z | z
          · omega
          · rcases v3 with z' | z'
            · omega
            · rw [if_neg hne0, if_neg hne0, e2, pe_gd (show y < 5 by omega) (by decide), pe_gd (show y < 5 by omega) (by decide), pe_clamp (show y < 2147483648 by omega), z y (by omega), z' y (by omega)]
              exact ⟨_, _, _, rfl, rfl, hrel⟩
