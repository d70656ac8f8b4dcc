/-! ===== a keeping keeps the relation ===== -/
theorem PkS.tra {g g' : am_G} {p : Nat} (h : PkS g p) (e : ∀ a, p ≤ a → a ≤ p + 5 → am_S g' a = am_S g a) (e' : am_P g' p = am_P g p) : PkS g' p := by
  obtain ⟨h0, h1, h2, h3, h4, h5, s1, s2, s3, s4, s5⟩ := h
  exact ⟨by rw [e _ (by omega) (by omega)]; exact h0, by rw [e']; exact h1, by rw [e']; exact h2, by rw [e']; exact h3, by rw [e']; exact h4, by rw [e']; exact h5, by rw [e _ (by omega) (by omega)]; exact s1, by rw [e _ (by omega) (by omega)]; exact s2, by rw [e _ (by omega) (by omega)]; exact s3, by rw [e _ (by omega) (by omega)]; exact s4, by rw [e _ (by omega) (by omega)]; exact s5⟩
theorem ImS.tra {g g' : am_G} {v : Nat} (h : ImS g v) (e : ∀ a, v ≤ a → a ≤ v + 23 → am_S g' a = am_S g a ∧ am_P g' a = am_P g a) : ImS g' v := by
  obtain ⟨h1, h2, h3, h4, h5, h6, h7, h8, h9, h10, h11, h12, h13, h14, h15, h16, h17, h18, h19, h20⟩ := h
  have S : ∀ c, c ≤ 23 → am_S g' (v + c) = am_S g (v + c) := fun c hc => (e (v + c) (by omega) (by omega)).1
  have P0 : am_P g' v = am_P g v := (e v (by omega) (by omega)).2
  refine ⟨by rw [(e v (by omega) (by omega)).1]; exact h1, h2.tra (fun a x y => (e a (by omega) (by omega)).1) (e _ (by omega) (by omega)).2, by rw [S 7 (by omega)]; exact h3, by rw [S 8 (by omega)]; exact h4, by rw [S 9 (by omega)]; exact h5, by rw [S 10 (by omega)]; exact h6, by rw [S 11 (by omega)]; exact h7, fun c hc => ⟨by rw [(e (v + 11) (by omega) (by omega)).2]; exact (h8 c hc).1, by rw [(e (v + 12 + c) (by omega) (by omega)).1]; exact (h8 c hc).2⟩, by rw [S 16 (by omega)]; exact h9, fun c hc => ⟨by rw [(e (v + 17 + c) (by omega) (by omega)).1]; exact (h10 c hc).1, by rw [(e (v + 20 + c) (by omega) (by omega)).1]; exact (h10 c hc).2⟩, by rw [S 23 (by omega)]; exact h11, ?_⟩
  rw [P0]
  exact ⟨h12, h13, h14, h15, h16, h17, h18, h19, h20⟩
theorem nulN_le {P : Nat → Option Nat} {x p : Nat} : ∀ n, n ≤ x → nulN (am_up P x (some p)) n = nulN P n
  | 0, _ => rfl
  | n + 1, h => by rw [nulN, nulN, nulN_le n (by omega), am_up_ne (by omega)]
theorem nulN_up {P : Nat → Option Nat} {x p : Nat} (hx : P x = none) : ∀ n, x < n → nulN (am_up P x (some p)) n + 1 = nulN P n
  | 0, h => absurd h (by omega)
  | n + 1, h => by
    rw [nulN, nulN]
    by_cases e : x = n
    · subst e
      rw [nulN_le x (Nat.le_refl _), am_up_eq, hx]
      simp
    · rw [am_up_ne (show n ≠ x by omega)]
      have := nulN_up (p := p) hx n (by omega)
      omega
theorem up_self {α : Type} {f : Nat → α} {k : Nat} {x : α} (h : f k = x) : am_up f k x = f := by
  funext j
  by_cases e : j = k
  · subst e; rw [am_up_eq, h]
  · rw [am_up_ne e]
theorem om_keep : ∀ q ∈ om, q.2.1 < 79 ∧ q.1.1 ≠ 5 ∧ q.1.1 ≠ 6 ∧ (q.2.1 = 26 → q.2.2 = 3 ∧ q.1 = (0, 8)) ∧ (q.2.1 = 28 → q.2.2 = 100) ∧ (q.1 = (0, 8) → q.2 = (26, 3)) := by decide +kernel
theorem RelM.keep {B t kd : Nat} {gc gr : am_G} (h : RelM B t gc gr) (hkd : kd = 0 ∨ kd = 1) : ∃ gc1 gr1, fX8_keep 2 (nI kd) gc = some ((), gc1) ∧ fX12_remember (nI kd) gr = some ((), gr1) ∧ RelM B t gc1 gr1 ∧ vr gc1 1 2 = vr gc 1 2 ∧ (∀ a, a < 79 → a ≠ 26 → a ≠ 28 → am_I gc1 a = am_I gc a) ∧ am_I gr1 2 = am_I gr 2 ∧ (∀ k, k ≠ 8 → am_I gr1 0 k = am_I gr 0 k) ∧ ∀ q, LawC gc q → LawC gc1 q := by
  obtain ⟨hR, hI, own, hU, hG, hT, hC, hW, nl, hnl, enl, hLw⟩ := h
  obtain ⟨x, k, hx, hk, ex, ek, hring, hu⟩ := hU
  have ec : am_I gc 26 3 = nI k := (hR.at (ra := 0) (rk := 8) (by decide +kernel)).trans ek
  obtain ⟨c1, c2, c3, c4, c5, c6, c7, c8, c9, c10, c11, c12⟩ := hC
  have hP2 := c2.2.1
  obtain ⟨gr1, m1, m2, m3, m4, m5, m6⟩ := q12_remember (kd := kd) hk ek
  have key : ∃ (h : am_G) (p5 : Nat) (own' : Nat → Nat), fX8_keep 2 (nI kd) gc = some ((), kpT h p5 2 x k kd) ∧ am_n gc ≤ am_n h ∧ am_n h + 6 * nulN (am_P h 27) 16 ≤ 175 + 30 * t ∧ am_s h + 98 * nulN (am_P h 27) 16 ≤ am_s am_gc + 1568 + 1100 * t ∧ (∀ a, a < am_n gc → am_S h a = am_S gc a ∧ am_I h a = am_I gc a ∧ (a ≠ 27 → am_P h a = am_P gc a)) ∧ am_P h 27 = am_up (am_P gc 27) x (some p5) ∧ 79 ≤ p5 ∧ p5 + 5 < am_n h ∧ PkS h p5 ∧ (∀ a, a < am_n gc → own' a = own a) ∧ (∀ c, c < 6 → own' (p5 + c) = 1 + x) := by
    cases h5 : am_P gc 27 x with
    | some p5 =>
      obtain ⟨z1, z2, z3, z4⟩ := hring x p5 hx h5
      exact ⟨gc, p5, own, q8_keepS hx hk ex ec hP2 h5 z3 z1, Nat.le_refl _, c8, c9, fun a _ => ⟨rfl, rfl, fun _ => rfl⟩, (up_self h5).symm, z1, z2, z3, fun _ _ => rfl, z4⟩
    | none =>
      obtain ⟨h, z1, z2, z3, z4, z5, z6, z7⟩ := q8_keepN (kd := kd) hx hk ex ec hP2 h5 c5
      have hnu := nulN_up (p := am_n gc) h5 16 hx
      refine ⟨h, am_n gc, fun a => if am_n gc ≤ a then 1 + x else own a, z1, by omega, by rw [z2, z7]; omega, by rw [z3, z7]; omega, fun a ha => ⟨(z5 a ha).1, (z5 a ha).2, z6 a ha⟩, z7, c5, by omega, z4, fun a ha => if_neg (by omega), fun c hc => if_pos (by omega)⟩
  obtain ⟨h, p5, own', k1, k2, k3, k4, k5, k6, k7, k8, k9, k10, k11⟩ := key
  have fI : ∀ a, ¬ (p5 ≤ a ∧ a ≤ p5 + 5) → a ≠ 26 → a ≠ 28 → am_I (kpT h p5 2 x k kd) a = am_I h a := by
    intro a ha h26 h28
    unfold kpT
    rw [pI_si_ne _ _ _ h26, pI_si_ne _ _ _ h26, pI_si_ne _ _ _ h28, (cpk_fr h p5 2).2 a ha]
  have f28 : ∀ j, am_I (kpT h p5 2 x k kd) 28 j = if j = x then nI kd else am_I gc 28 j := by
    intro j
    unfold kpT
    rw [pI_si_ne _ _ _ (by decide), pI_si_ne _ _ _ (by decide)]
    by_cases e : j = x
    · subst e; rw [pe_ieq, if_pos rfl]
    · rw [pe_ik e, if_neg e, (cpk_fr h p5 2).2 28 (by omega), (k5 28 (by omega)).2.1]
  have f262 : am_I (kpT h p5 2 x k kd) 26 2 = nI ((x + 1) % 16) := by unfold kpT; rw [pe_ik (by decide), pe_ieq]
  have f263 : am_I (kpT h p5 2 x k kd) 26 3 = nI (min 16 (k + 1)) := by unfold kpT; rw [pe_ieq]
  have e2 : (kpT h p5 2 x k kd).2 = h.2 := rfl
  have eS : am_S (kpT h p5 2 x k kd) = am_S h := rfl
  have eP : am_P (kpT h p5 2 x k kd) = am_P h := rfl
  have en : am_n (kpT h p5 2 x k kd) = am_n h := rfl
  have es : am_s (kpT h p5 2 x k kd) = am_s h := rfl
  have fv5 : vr (kpT h p5 2 x k kd) 1 p5 = vr gc 1 2 := by
    have a1 : vr (kpT h p5 2 x k kd) 1 p5 = vr (cpk h p5 2) 1 p5 := vr_cg fun a ha => by
      unfold kpT
      rw [pI_si_ne _ _ _ (by omega), pI_si_ne _ _ _ (by omega), pI_si_ne _ _ _ (by omega)]
    have a2 : vr h 1 2 = vr gc 1 2 := vr_cg fun a ha => (k5 a (by omega)).2.1
    rw [a1, cpk_vr (by unfold VP; omega) (by omega), a2]
  generalize kpT h p5 2 x k kd = g1 at k1 fI f28 f262 f263 e2 eS eP en es fv5
  have fG : ∀ a, a < am_n gc → ¬ (p5 ≤ a ∧ a ≤ p5 + 5) → a ≠ 26 → a ≠ 28 → am_I g1 a = am_I gc a := fun a h1 h2 h3 h4 => (fI a h2 h3 h4).trans (k5 a h1).2.1
  have fL : ∀ a, a < 79 → a ≠ 26 → a ≠ 28 → am_I g1 a = am_I gc a := fun a h1 h3 h4 => fG a (by omega) (by omega) h3 h4
  -- a cell of another owner is not the kept pack's
  have far : ∀ a, a < am_n gc → own a ≠ 1 + x → ¬ (p5 ≤ a ∧ a ≤ p5 + 5) := by
    intro a ha ho hr
    apply ho
    rw [← k10 a ha, ← k11 (a - p5) (by omega)]
    congr 1
    omega
  have r2 : am_I gr1 2 = am_I gr 2 := funext fun j => m3 2 (by decide) (by decide) j (by omega)
  have lw : ∀ {la : Nat} {ρ ρ' : Row} {n : Nat}, la ≠ 27 → la < am_n gc → LwsR own gc la ρ n → (∀ k, 260 ≤ k → ρ' k = ρ k) → LwsR own' g1 la ρ' n := fun hla hla' hL hρ => hL.tra (by rw [en]; exact k2) (fun l _ => by rw [eP, (k5 _ hla').2.2 hla]) (fun a ha ha' ho => ⟨by rw [k10 a ha']; exact ho, by rw [eS]; exact (k5 a ha').1, by rw [eP]; exact (k5 a ha').2.2 (by omega), fG a ha' (far a ha' (by omega)) (by omega) (by omega)⟩) hρ
  have v2 : vr g1 1 2 = vr gc 1 2 := vr_cg fun a ha => fL a (by omega) (by omega) (by omega)
  refine ⟨g1, gr1, k1, m1, ⟨?_, ?_, own', ⟨(x + 1) % 16, min 16 (k + 1), by omega, by omega, f262, m4, ?_, ?_⟩, ?_, ?_, ?_, ?_, nl, hnl, by rw [r2]; exact enl, ?_⟩, v2, fL, r2, fun j hj => m3 0 (by decide) (by decide) j (by omega), ?_⟩
  · intro q hq
    obtain ⟨o1, o2, o3, o4, o5, o6⟩ := om_keep q hq
    by_cases h26 : q.2.1 = 26
    · obtain ⟨z1, z2⟩ := o4 h26
      rw [h26, z1, z2, f263, m4]
    · have hne8 : ¬ (q.1.1 = 0 ∧ q.1.2 = 8) := fun z => h26 (by rw [o6 (Prod.ext z.1 z.2)])
      rw [m3 _ o2 o3 _ hne8]
      by_cases h28 : q.2.1 = 28
      · have := hR q hq
        rw [h28, o5 h28] at this ⊢
        rw [f28, if_neg (by omega)]
        exact this
      · rw [fL _ o1 h26 h28]
        exact hR q hq
  · refine ⟨fun j hj => by rw [r2]; exact hI.1 j hj, by rw [r2]; exact hI.2.1, by rw [m3 0 (by decide) (by decide) 13 (by decide)]; exact hI.2.2.1, ?_⟩
    rw [m4, nn_toInt (by omega)]
    omega
  · intro j p hj hjp
    rw [eP, k6] at hjp
    by_cases e : j = x
    · subst e
      rw [am_up_eq] at hjp
      obtain rfl := Option.some.inj hjp
      exact ⟨k7, by rw [en]; exact k8, k9.eq2 eP eS, k11⟩
    · rw [am_up_ne e] at hjp
      obtain ⟨z1, z2, z3, z4⟩ := hring j p hj hjp
      exact ⟨z1, by rw [en]; omega, z3.tra (fun a h1 h2 => by rw [eS]; exact (k5 a (by omega)).1) (by rw [eP]; exact (k5 p (by omega)).2.2 (by omega)), fun c hc => by rw [k10 _ (by omega)]; exact z4 c hc⟩
  · intro i hi
    by_cases e : i = min 15 k
    · have er : ((x + 1) % 16 + 16 - min 16 (k + 1) + i) % 16 = x := by omega
      refine ⟨p5, by rw [er, eP, k6, am_up_eq], by rw [er, f28, if_pos rfl, m6 i hi, if_pos e], by rw [m6 i hi, if_pos e]; rcases hkd with rfl | rfl; exact Or.inl rfl; exact Or.inr rfl, fun j h1 h2 => ?_⟩
      rw [m5 i (j - 6) hi (by omega), if_pos e, fv5, show 6 + (j - 6) = j by omega]
      exact ⟨by rw [hR.row, rr_at (by omega)], hI.1 j (by omega)⟩
    · have hi0 : i + dl k < k := by unfold dl; split <;> omega
      have er : ((x + 1) % 16 + 16 - min 16 (k + 1) + i) % 16 = (x + 16 - k + (i + dl k)) % 16 := by unfold dl; split <;> omega
      have hne : (x + 16 - k + (i + dl k)) % 16 ≠ x := by unfold dl; split <;> omega
      obtain ⟨p, u1, u2, u3, u4⟩ := hu (i + dl k) hi0
      rw [er]
      refine ⟨p, by rw [eP, k6, am_up_ne hne]; exact u1, by rw [f28, if_neg hne, m6 i hi, if_neg e]; exact u2, by rw [m6 i hi, if_neg e]; exact u3, fun j h1 h2 => ?_⟩
      rw [m5 i (j - 6) hi (by omega), if_neg e]
      refine ⟨?_, (u4 j h1 h2).2⟩
      rw [← (u4 j h1 h2).1]
      obtain ⟨z1, z2, z3, z4⟩ := hring _ p (Nat.mod_lt _ (by decide)) u1
      refine congrFun (vr_cg fun a ha => ?_) j
      rcases ha with ha | ha
      · refine fG a (by omega) (far a (by omega) ?_) (by omega) (by omega)
        rw [show a = p + (a - p) by omega, z4 (a - p) (by omega)]
        omega
      · exact fL a (by omega) (by omega) (by omega)
  · intro kk hkk
    rcases hG kk hkk with ⟨z1, z2⟩ | ⟨v, z1, z2, z3, z4, z5, z6, z7, z8, n, z9, z10, z11⟩
    · exact Or.inl ⟨by rw [eP, (k5 25 (by omega)).2.2 (by decide)]; exact z1, by rw [m3 4 (by decide) (by decide) kk (by omega)]; exact z2⟩
    · have ei : imr gr1 kk = imr gr kk := funext fun j => m3 3 (by decide) (by decide) _ (by omega)
      have hv : ∀ a, v ≤ a → a ≤ v + 23 → a < am_n gc ∧ ¬ (p5 ≤ a ∧ a ≤ p5 + 5) := by
        intro a h1 h2
        refine ⟨by omega, far a (by omega) ?_⟩
        rw [show a = v + (a - v) by omega, z6 (a - v) (by omega)]
        omega
      refine Or.inr ⟨v, by rw [eP, (k5 25 (by omega)).2.2 (by decide)]; exact z1, by rw [m3 4 (by decide) (by decide) kk (by omega)]; exact z2, z3, by rw [en]; omega, z5.tra (fun a h1 h2 => ⟨by rw [eS]; exact (k5 a (hv a h1 h2).1).1, by rw [eP]; exact (k5 a (hv a h1 h2).1).2.2 (by omega)⟩), fun c hc => by rw [k10 _ (by omega)]; exact z6 c hc, fun j hj => ?_, by rw [ei]; exact z8, n, z9, by rw [ei]; exact z10, ?_⟩
      · rw [ei]
        refine ⟨?_, (z7 j hj).2⟩
        rw [← (z7 j hj).1]
        refine congrFun (vr_cg fun a ha => ?_) j
        exact fG a (hv a (by omega) (by omega)).1 (hv a (by omega) (by omega)).2 (by omega) (by omega)
      · rw [ei]
        exact lw (by omega) (by omega) z11 (fun _ _ => rfl)
  · intro i hi
    rw [fL 30 (by decide) (by decide) (by decide), m3 9 (by decide) (by decide) i (by omega)]
    exact hT i hi
  · have er : gr1.2 = gr.2 := m2
    have eL : am_L gr1 = am_L gr := congrArg (fun z => z.1) er
    have enr : am_n gr1 = am_n gr := congrArg (fun z => z.2.2.2.1) er
    have esr : am_s gr1 = am_s gr := congrArg (fun z => z.2.2.2.2) er
    exact ⟨by rw [f28, if_neg (by omega)]; exact c1, c2.tra (fun a h1 h2 => ⟨by rw [eS]; exact (k5 a (by omega)).1, by rw [eP]; exact (k5 a (by omega)).2.2 (by omega)⟩), c3.tra (fun a h1 h2 => by rw [eS]; exact (k5 a (by omega)).1) (by rw [eP]; exact (k5 65 (by omega)).2.2 (by decide)), c4.tra (fun a h1 h2 => by rw [eS]; exact (k5 a (by omega)).1) (by rw [eP]; exact (k5 71 (by omega)).2.2 (by decide)), by rw [en]; omega, by rw [enr]; exact c6, by rw [esr]; exact c7, by rw [en, eP]; exact k3, by rw [es, eP]; exact k4, by rw [eL]; exact c10, by rw [eL]; exact c11, by rw [eL]; exact c12.1, c12.2.tra (fun a ha => by rw [eS]; exact (k5 a (by omega)).1) (by rw [eP]; exact (k5 33 (by omega)).2.2 (by decide))⟩
  · intro s hs
    rw [fL 72 (by decide) (by decide) (by decide), fL 76 (by decide) (by decide) (by decide), m3 34 (by decide) (by decide) _ (by omega), m3 34 (by decide) (by decide) _ (by omega)]
    exact hW s hs
  · exact lw (by decide) (by omega) hLw (fun k _ => by rw [r2])
  · intro q hq
    rcases hq with ⟨a, rfl⟩ | ⟨f, L, p, hf, hf5, hPf, hTx, rfl⟩
    · exact Or.inl ⟨by rw [fL 1 (by decide) (by decide) (by decide)]; exact a, rfl⟩
    · have e5 : am_I gr 2 5 = nI f := (hR.at (ra := 2) (rk := 5) (ca := 1) (ck := 18) (by decide +kernel)).symm.trans hf5
      have hfn : f < nl := by
        rcases hI.2.1 with z | z
        · exact absurd (e5.symm.trans z) (nI_m1ne (by omega))
        · rw [e5, enl, nn_toInt (by omega), nn_toInt (by omega)] at z
          omega
      obtain ⟨p', L', z1, z2, z3, z4⟩ := hLw.1 f hfn
      rw [hPf] at z1
      obtain rfl := Option.some.inj z1
      obtain ⟨o1, o2, o3, o4⟩ := z3
      have h79 := hTx.2.2.2.1
      obtain ⟨-, -, -, -, pr, ps, ns, t5, t6, t7, t8, -⟩ := id hTx
      have st : ∀ a, 79 ≤ a → a < am_n gc → own a = 0 → am_S g1 a = am_S gc a ∧ am_P g1 a = am_P gc a ∧ am_I g1 a = am_I gc a := fun a ha ha' ho => ⟨by rw [eS]; exact (k5 a ha').1, by rw [eP]; exact (k5 a ha').2.2 (by omega), fG a ha' (far a ha' (by omega)) (by omega) (by omega)⟩
      refine Or.inr ⟨f, L, p, hf, by rw [fL 1 (by decide) (by decide) (by decide)]; exact hf5, by rw [eP, (k5 24 (by omega)).2.2 (by decide)]; exact hPf, hTx.tra ?_, rfl⟩
      rintro a (rfl | ha | ha)
      · exact st a h79 o1 o2
      · rw [t5] at ha; obtain rfl := Option.some.inj ha; exact st pr t7 (o3 pr t5).1 (o3 pr t5).2
      · rw [t6] at ha; obtain rfl := Option.some.inj ha; exact st ps t8 (o4 ps t6).1 (o4 ps t6).2
