/-! ===== law ===== -/
theorem RelM.newlaw {B t N nl : Nat} {gc gr gc1 gr1 : am_G} {L : pLw} (h : RelM B t gc gr) (hN : am_n gc = N) (hnl6 : nl < 6) (enl : am_I gr 2 4 = nI nl)
    (hS : ∀ a, a < N → am_S gc1 a = am_S gc a) (hP : ∀ a, a < N → a ≠ 24 → am_P gc1 a = am_P gc a) (hP24 : ∀ l, l ≠ nl → am_P gc1 24 l = am_P gc 24 l) (hPn : am_P gc1 24 nl = some N) (hI' : ∀ a k, a < N → ¬ (a = 1 ∧ k = 17) → am_I gc1 a k = am_I gc a k) (hI17 : am_I gc1 1 17 = nI (nl + 1)) (hn : am_n gc1 = N + 3) (hs : am_s gc1 ≤ am_s gc + 1100) (hSN : am_S gc1 N = (6, 3)) (hp0 : am_P gc1 N 0 = some (N + 1)) (hp1 : am_P gc1 N 1 = some (N + 2))
    (rN : ∀ a k, a ≠ 2 → am_I gr1 a k = am_I gr a k) (r2 : ∀ j, j < 260 → j ≠ 4 → am_I gr1 2 j = am_I gr 2 j) (r24 : am_I gr1 2 4 = nI (nl + 1)) (rO : ∀ j, 260 ≤ j → (j < 260 + 900 * nl ∨ 260 + 900 * nl + 900 ≤ j) → am_I gr1 2 j = am_I gr 2 j) (rg : gr1.2 = gr.2) (hC' : TxtC gc1 N L) (hR' : TxtR (am_I gr1 2) (260 + 900 * nl) L) : RelM B (t + 1) gc1 gr1 := by
  obtain ⟨hR, hI, own, hU, hG, hT, hC, hW, nl', hnl', enl', hLw⟩ := h
  have hnl : nl' = nl := (nn_eq (by omega) (by omega)).mp (enl'.symm.trans enl)
  subst hnl
  have h79 := hC.2.2.2.2.1
  rw [hN] at h79
  have eL : am_L gr1 = am_L gr := congrArg (fun z => z.1) rg
  have enr : am_n gr1 = am_n gr := congrArg (fun z => z.2.2.2.1) rg
  have esr : am_s gr1 = am_s gr := congrArg (fun z => z.2.2.2.2) rg
  have cI : ∀ a, a < N → a ≠ 1 → am_I gc1 a = am_I gc a := fun a ha h1 => funext fun k => hI' a k ha (by omega)
  have rI : ∀ a, a ≠ 2 → am_I gr1 a = am_I gr a := fun a ha => funext fun k => rN a k ha
  have hown : ∀ a, a < N → (fun a => if N ≤ a then 0 else own a) a = own a := fun a ha => if_neg (by omega)
  have old : ∀ a, 79 ≤ a → a < am_n gc → own a = 0 → (fun a => if N ≤ a then 0 else own a) a = 0 ∧ am_S gc1 a = am_S gc a ∧ am_P gc1 a = am_P gc a ∧ am_I gc1 a = am_I gc a := fun a h1 h2 ho => ⟨by rw [hown a (by omega)]; exact ho, hS a (by omega), hP a (by omega) (by omega), cI a (by omega) (by omega)⟩
  have lw : ∀ {la : Nat} {ρ : Row} {m : Nat}, la < N → la ≠ 24 → LwsR own gc la ρ m → LwsR (fun a => if N ≤ a then 0 else own a) gc1 la ρ m := fun hl hla hL => hL.tra (by rw [hn, hN]; omega) (fun l _ => by rw [hP _ hl hla]) old (fun _ _ => rfl)
  have pk : ∀ p, PkS gc p → p + 5 < N → p ≠ 24 → PkS gc1 p := fun p hp hl hne => hp.tra (fun a _ _ => hS a (by omega)) (hP p (by omega) hne)
  have okrow : ∀ j, j < 259 → okB B j (am_I gr1 2 j) := fun j hj => by
    by_cases e : j = 4
    · subst e
      rw [r24]
      exact ⟨fun z => absurd z (by unfold stp; omega), fun _ => ⟨Or.inr (Or.inr (Or.inr ⟨by rw [nn_toInt (by omega)]; unfold okLo; rw [if_neg (by decide), if_neg (by omega)]; omega, by rw [nn_toInt (by omega)]; unfold okHi; rw [if_neg (by decide), if_neg (by decide), if_neg (by decide), if_neg (by decide), if_pos rfl]; omega⟩)), fun z => by omega⟩⟩
    · rw [r2 j (by omega) e]; exact hI.1 j hj
  have vrj : ∀ p j, VP 1 p → j < 259 → j ≠ 4 → vA 1 p j < N → am_I gc1 (vA 1 p j) (vS j) = am_I gc (vA 1 p j) (vS j) := fun p j hv hj h4 hl => hI' _ _ hl (fun z => h4 (vA_inj (p := p) hv hj (by decide : 4 < 259) (by rw [z.1]; rfl) (by rw [z.2]; rfl)))
  refine ⟨fun q hq => ?_, ⟨okrow, ?_, by rw [rN 0 13 (by decide)]; exact hI.2.2.1, by rw [rN 0 8 (by decide)]; exact hI.2.2.2⟩, fun a => if N ≤ a then 0 else own a, ?_, ?_, ?_, ?_, ?_, nl' + 1, by omega, r24, ?_⟩
  · by_cases e : q.1 = (2, 4)
    · have e2 : q.2 = (1, 17) := by
        have := om_i1 (q := ((2, 4), (1, 17))) (q' := q) (by decide +kernel) hq e
        rw [this]
      rw [e, e2]
      exact hI17.trans r24.symm
    · have n17 : ¬ (q.2.1 = 1 ∧ q.2.2 = 17) := fun z => e (by
        have := om_i2 (q := ((2, 4), (1, 17))) (q' := q) (by decide +kernel) hq (Prod.ext z.1 z.2)
        rw [this])
      rw [hI' _ _ (by have := (om_keep q hq).1; omega) n17]
      by_cases h2 : q.1.1 = 2
      · have y1 := ((om_bk q hq).1 h2).1
        rw [h2, r2 _ (by omega) (fun z => e (Prod.ext h2 z)), ← h2]
        exact hR q hq
      · rw [rN _ _ h2]
        exact hR q hq
  · rw [r2 5 (by decide) (by decide), r24]
    rcases hI.2.1 with z | z
    · exact Or.inl z
    · right
      rw [enl, nn_toInt (by omega)] at z
      rw [nn_toInt (by omega)]
      omega
  · obtain ⟨x, kk, hx, hkk, ex, ek, hring, hu⟩ := hU
    refine ⟨x, kk, hx, hkk, by rw [cI 26 (by omega) (by decide)]; exact ex, by rw [rN 0 8 (by decide)]; exact ek, fun j p hj hjp => ?_, fun i hi => ?_⟩
    · rw [hP 27 (by omega) (by decide)] at hjp
      obtain ⟨y1, y2, y3, y4⟩ := hring j p hj hjp
      exact ⟨y1, by rw [hn]; omega, pk p y3 (by omega) (by omega), fun c hc => by rw [hown _ (by omega)]; exact y4 c hc⟩
    · obtain ⟨p, u1, u2, u3, u4⟩ := hu i hi
      obtain ⟨y1, y2, y3, y4⟩ := hring _ p (Nat.mod_lt _ (by decide)) u1
      refine ⟨p, by rw [hP 27 (by omega) (by decide)]; exact u1, by rw [cI 28 (by omega) (by decide), rI 6 (by decide)]; exact u2, by rw [rI 6 (by decide)]; exact u3, fun j h1 h2 => ?_⟩
      rw [rI 5 (by decide)]
      refine ⟨?_, (u4 j h1 h2).2⟩
      rw [← (u4 j h1 h2).1, vr_at (by omega), vr_at (by omega)]
      exact vrj p j (Or.inr (Or.inl (by omega))) (by omega) (by omega) (by have := vA_rg (v := 1) (p := p) (show j < 259 by omega); omega)
  · intro kk hkk
    rw [rI 4 (by decide)]
    rcases hG kk hkk with ⟨z1, z2⟩ | ⟨v, z1, z2, z3, z4, z5, z6, z7, z8, n, z9, z10, z11⟩
    · exact Or.inl ⟨by rw [hP 25 (by omega) (by decide)]; exact z1, z2⟩
    · have ei : imr gr1 kk = imr gr kk := by unfold imr; rw [rI 3 (by decide)]
      refine Or.inr ⟨v, by rw [hP 25 (by omega) (by decide)]; exact z1, z2, z3, by rw [hn]; omega, z5.tra (fun a h1 h2 => ⟨hS a (by omega), hP a (by omega) (by omega)⟩), fun c hc => by rw [hown _ (by omega)]; exact z6 c hc, fun j hj => ?_, by rw [ei]; exact z8, n, z9, by rw [ei]; exact z10, by rw [ei]; exact lw (by omega) (by omega) z11⟩
      rw [ei]
      refine ⟨?_, (z7 j hj).2⟩
      rw [← (z7 j hj).1]
      exact congrFun (vr_cg fun a ha => cI a (by omega) (by omega)) j
  · intro i hi
    rw [cI 30 (by omega) (by decide), rI 9 (by decide)]
    exact hT i hi
  · obtain ⟨c1, c2, c3, c4, c5, c6, c7, c8, c9, c10, c11, c12⟩ := hC
    refine ⟨by rw [cI 28 (by omega) (by decide)]; exact c1, ?_, pk 65 c3 (by omega) (by decide), pk 71 c4 (by omega) (by decide), by rw [hn]; omega, by rw [enr]; exact c6, by rw [esr]; exact c7, by rw [hn, hP 27 (by omega) (by decide)]; omega, by rw [hP 27 (by omega) (by decide)]; omega, by rw [eL]; exact c10, by rw [eL]; exact c11, by rw [eL]; exact c12.1, c12.2.tra (fun a ha => hS a (by omega)) (hP 33 (by omega) (by decide))⟩
    obtain ⟨d1, d2, d3, d4, d5, d6, d7, d8, d9, d10, d11, d12⟩ := c2
    refine ⟨by rw [hS _ (by omega)]; exact d1, pk _ d2 (by omega) (by omega), by rw [hS _ (by omega)]; exact d3, by rw [hS _ (by omega)]; exact d4, by rw [hS _ (by omega)]; exact d5, by rw [hS _ (by omega)]; exact d6, by rw [hS _ (by omega)]; exact d7, fun c hc => ⟨by rw [hP _ (by omega) (by omega)]; exact (d8 c hc).1, by rw [hS _ (by omega)]; exact (d8 c hc).2⟩, by rw [hS _ (by omega)]; exact d9, fun c hc => ⟨by rw [hS _ (by omega)]; exact (d10 c hc).1, by rw [hS _ (by omega)]; exact (d10 c hc).2⟩, by rw [hS _ (by omega)]; exact d11, ?_⟩
    rw [hP 1 (by omega) (by decide)]
    exact d12
  · intro s hs'
    rw [cI 72 (by omega) (by decide), cI 76 (by omega) (by decide), rI 34 (by decide)]
    exact hW s hs'
  · refine ⟨fun l hl => ?_, fun l p hl hp => ?_⟩
    · by_cases e : l = nl'
      · subst e
        refine ⟨N, L, hPn, hC', ⟨by rw [hn]; omega, if_pos (Nat.le_refl _), fun a ha => ?_, fun a ha => ?_⟩, hR'⟩
        · rw [hp0] at ha; rw [← Option.some.inj ha]; exact ⟨by rw [hn]; omega, if_pos (by omega)⟩
        · rw [hp1] at ha; rw [← Option.some.inj ha]; exact ⟨by rw [hn]; omega, if_pos (by omega)⟩
      · obtain ⟨p, L0, y1, y2, y3, y4⟩ := hLw.1 l (by omega)
        obtain ⟨o1, o2, o3, o4⟩ := y3
        have p79 := y2.2.2.2.1
        obtain ⟨-, -, -, -, pr, ps, ns, t5, t6, t7, t8, -⟩ := id y2
        have ep := old p p79 o1 o2
        have er := old pr t7 (o3 pr t5).1 (o3 pr t5).2
        have es := old ps t8 (o4 ps t6).1 (o4 ps t6).2
        refine ⟨p, L0, by rw [hP24 l e]; exact y1, y2.tra ?_, ⟨by rw [hn]; omega, ep.1, ?_, ?_⟩, y4.cgB (fun k h1 h2 => rO k (by omega) (Or.inl (by omega)))⟩
        · rintro a (rfl | ha | ha)
          · exact ep.2
          · rw [t5] at ha; rw [← Option.some.inj ha]; exact er.2
          · rw [t6] at ha; rw [← Option.some.inj ha]; exact es.2
        · intro a ha
          rw [ep.2.2.1, t5] at ha
          rw [← Option.some.inj ha]
          exact ⟨by rw [hn]; have := (o3 pr t5).1; omega, er.1⟩
        · intro a ha
          rw [ep.2.2.1, t6] at ha
          rw [← Option.some.inj ha]
          exact ⟨by rw [hn]; have := (o4 ps t6).1; omega, es.1⟩
    · by_cases e : l = nl'
      · subst e
        rw [hPn] at hp
        rw [← Option.some.inj hp]
        exact ⟨h79, by rw [hn]; omega, if_pos (Nat.le_refl _), hSN⟩
      · rw [hP24 l e] at hp
        obtain ⟨y1, y2, y3, y4⟩ := hLw.2 l p hl hp
        exact ⟨y1, by rw [hn]; omega, by rw [hown _ (by omega)]; exact y3, by rw [hS _ (by omega)]; exact y4⟩
