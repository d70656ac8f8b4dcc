/-! ===== plan: all days, and all rows, in the reference ===== -/
section QUJ
variable {q : Option pLw} {ρ : Row} {T N : Nat} {tw tp tl : Nat → Nat} {snD stD hdD : Nat → Nat → Nat} {opD : Nat → Nat → Bool} {shD : Nat → Nat → Nat → Nat}
theorem quietL4 {c : Nat → Nat} (hT : T ≤ 6) (hN : N ≤ 4) (hc : ∀ j, j < T → c j < N) (htk : ∀ k, k < T → tw k < 16 ∧ tp k < 4 ∧ tl k ≤ 3) (hV : okV ρ) (hNum : ∀ d, d < N → (∀ e, e < d → okN q ρ e) → DNm q T tw tp tl (rhoD q ρ d) (snD d) (stD d) (hdD d) (opD d) (shD d)) : ∀ (r d m : Nat) (g : am_G), d + r = N → r + 1 < m → TkR T tw tp tl g → LawR (am_I g 2) q → am_I g 0 20 = nI 0 → (∀ j, j < T → am_I g 27 j = nI (c j)) → ((d = 0 ∧ rr g = ρ) ∨ (0 < d ∧ agE (rr g) (rhoD q ρ (d - 1)))) → (∀ e, e + 1 < d → okN q ρ e) → ∃ g' x, fX12_isQuiet_L4 (nI N) m (nI 1) (nI d) g = some (nI x, g') ∧ FrW g g' ∧ x ≤ 1 ∧ (x = 1 ↔ ((∀ e, d ≤ e + 1 → e + 1 < N → okN q ρ e) ∧ ∀ j, j < T → d ≤ c j → aPl opD shD (fun d s => rmB (snD d) (stD d) (hdD d) s) j c (c j) = true))
  | 0, d, m, g, hr, hm, hk, hq, h20, h27, hst, hO => by
    obtain ⟨m, rfl⟩ : ∃ m', m = m' + 1 := ⟨m - 1, by omega⟩
    obtain rfl : d = N := by omega
    refine ⟨g, 1, ?_, FrW.rf g, Nat.le_refl _, ⟨fun _ => ⟨fun e h1 h2 => absurd h1 (by omega), fun j hj h1 => absurd (hc j hj) (by omega)⟩, fun _ => rfl⟩⟩
    rw [fX12_isQuiet_L4, if_pos Int32.le_rfl, pz_1]
  | r + 1, d, m, g, hr, hm, hk, hq, h20, h27, hst, hO => by
    obtain ⟨m, rfl⟩ : ∃ m', m = m' + 1 := ⟨m - 1, by omega⟩
    have hfu : am_fu = 1048576 := rfl
    have hdN : d < N := by omega
    have ed : nI d + (1 : Int32) = nI (d + 1) := nI_add d 1
    -- the talks of the day
    have day : ∀ g1, FrW g g1 → agE (rr g1) (rhoD q ρ d) → (∀ s, s < 6 → rr g1 (10 + 10 * s + 8) = rhoD q ρ d (10 + 10 * s + 8)) → (∀ e, e < d → okN q ρ e) → ∃ g' x, fX12_isQuiet_L43 (fun (x46 : Int32) (g47 : am_G) => am_let (nI d + (1 : Int32)) fun x48 => fX12_isQuiet_L4 (nI N) m x46 x48 g47) (nI N) (nI d) am_fu (nI 1) (nI 0) g1 = some (nI x, g') ∧ FrW g g' ∧ x ≤ 1 ∧ (x = 1 ↔ ((∀ e, d ≤ e + 1 → e + 1 < N → okN q ρ e) ∧ ∀ j, j < T → d ≤ c j → aPl opD shD (fun d s => rmB (snD d) (stD d) (hdD d) s) j c (c j) = true)) := by
      intro g1 f1 a1 a2 hO'
      have hDN := hNum d hdN hO'
      have hst1 : ∀ s, s < 6 → rr g1 (10 + 10 * s + 8) = nI (stD d s + usd shD c d 0 s) := fun s hs => by
        rw [a2 s hs, (hDN.1 s hs).2.2.1]
        rfl
      have h43 := quietL43 (K := fun (x46 : Int32) (g47 : am_G) => am_let (nI d + (1 : Int32)) fun x48 => fX12_isQuiet_L4 (nI N) m x46 x48 g47) (a1 := nI N) (c := c) hT hdN hN hc htk (rhoD_ok hV d hO') hDN T 0 am_fu g1 (by omega) (by omega) (hk.fw f1 hT) (hq.fw f1) (by rw [f1.1 0 20 (by decide) (by decide) (by omega) (by omega)]; exact h20) (fun j hj => by rw [f1.1 27 j (by decide) (by decide) (by omega) (by omega)]; exact h27 j hj) a1 hst1
      rcases h43 with ⟨g2, x1, x2, x3, x4⟩ | ⟨g2, x1, x2, j, x3, x4, x5, x6⟩
      · have f2 := f1.tr x2
        obtain ⟨g3, x, y1, y2, y3, y4⟩ := quietL4 hT hN hc htk hV hNum r (d + 1) m g2 (by omega) (by omega) (hk.fw f2 hT) (hq.fw f2) (by rw [f2.1 0 20 (by decide) (by decide) (by omega) (by omega)]; exact h20) (fun j hj => by rw [f2.1 27 j (by decide) (by decide) (by omega) (by omega)]; exact h27 j hj) (Or.inr ⟨by omega, by rw [show d + 1 - 1 = d by omega]; exact x3⟩) (fun e he => hO' e (by omega))
        refine ⟨g3, x, ?_, f2.tr y2, y3, y4.trans ⟨fun z => ⟨fun e h1 h2 => ?_, fun j hj h1 => ?_⟩, fun z => ⟨fun e h1 h2 => z.1 e (by omega) h2, fun j hj h1 => z.2 j hj (by omega)⟩⟩⟩
        · rw [x1, pu_let, ed]
          exact y1
        · by_cases w : e < d
          · exact hO' e w
          · exact z.1 e (by omega) h2
        · by_cases w : c j = d
          · rw [w]; exact x4 j (by omega) hj w
          · exact z.2 j hj (by omega)
      · refine ⟨g2, 0, ?_, f1.tr x2, by omega, ⟨fun z => absurd z (by decide), fun z => absurd (z.2 j x4 (by omega)) (by rw [x5]; exact x6)⟩⟩
        rw [x1, pu_let]
        obtain ⟨m, rfl⟩ : ∃ m', m = m' + 1 := ⟨m - 1, by omega⟩
        exact quiet4_0
    have bad : ∀ g1, FrW g g1 → 0 < d → ¬ okN q ρ (d - 1) → ∃ g' x, fX12_isQuiet_L43 (fun (x46 : Int32) (g47 : am_G) => am_let (nI d + (1 : Int32)) fun x48 => fX12_isQuiet_L4 (nI N) m x46 x48 g47) (nI N) (nI d) am_fu (nI 0) (nI 0) g1 = some (nI x, g') ∧ FrW g g' ∧ x ≤ 1 ∧ (x = 1 ↔ ((∀ e, d ≤ e + 1 → e + 1 < N → okN q ρ e) ∧ ∀ j, j < T → d ≤ c j → aPl opD shD (fun d s => rmB (snD d) (stD d) (hdD d) s) j c (c j) = true)) := by
      intro g1 f1 h0 hn
      refine ⟨g1, 0, ?_, f1, by omega, ⟨fun z => absurd z (by decide), fun z => absurd (z.1 (d - 1) (by omega) (by omega)) hn⟩⟩
      obtain ⟨f, ef⟩ : ∃ f, am_fu = f + 1 := ⟨1048575, rfl⟩
      rw [ef, quiet_0, pu_let]
      obtain ⟨m, rfl⟩ : ∃ m', m = m' + 1 := ⟨m - 1, by omega⟩
      exact quiet4_0
    rw [fX12_isQuiet_L4, if_neg (fun z => absurd ((nI_leI (by omega) (by omega)).mp z) (by omega)), if_neg (show ¬ nI 1 = (0 : Int32) by decide), pu_jn]
    dsimp only
    by_cases h0 : d = 0
    · subst h0
      rw [if_pos (show nI 0 ≤ (0 : Int32) from Int32.le_rfl)]
      rcases hst with ⟨-, hr0⟩ | ⟨z, -⟩
      · exact day g (FrW.rf g) (by rw [hr0]; exact agE.rf ρ) (fun s hs => by rw [hr0]; rfl) (fun e he => absurd he (by omega))
      · omega
    · rcases hst with ⟨z, -⟩ | ⟨hd0, hag⟩
      · exact absurd z h0
      obtain ⟨d, rfl⟩ : ∃ d', d = d' + 1 := ⟨d - 1, by omega⟩
      rw [show d + 1 - 1 = d by omega] at hag bad
      have hO0 : ∀ e, e < d → okN q ρ e := fun e he => hO e (by omega)
      have hVd := rhoD_ok hV d hO0
      have hVs : okV (rr g) := hVd.cg (fun j h1 h2 => hag.V j h1 h2)
      obtain ⟨x, hx, ex⟩ := hVd.day
      have e6 : am_I g 2 6 = nI x := by rw [← rr_at (by decide), hag 6 (by omega)]; exact ex
      rw [if_neg (show ¬ nI (d + 1) ≤ (0 : Int32) from fun z => absurd ((nI_leI (b := 0) (by omega) (by decide)).mp z) (by omega)), q12_day, pu_bd, pu_jn]
      dsimp only
      rw [pu_jn]
      dsimp only
      rw [e6]
      by_cases h9 : x = 999
      · rw [if_pos (by rw [h9]; decide)]
        refine bad g (FrW.rf g) (by omega) fun z => ?_
        have := z.1
        rw [ex, h9] at this
        exact absurd this (by decide)
      · have hlt : rhoD q ρ d 6 < nI 999 := by rw [ex]; exact nI_lt (by omega) (by decide)
        have hlt' : rr g 6 < nI 999 := by rw [hag 6 (by omega)]; exact hlt
        rw [if_neg (show ¬ (999 : Int32) ≤ nI x from fun z => absurd ((nI_leI (a := 999) (by decide) (by omega)).mp z) (by omega))]
        obtain ⟨g1, b1, b2, b3⟩ := q12_dawnIt (g := g) (ρ := rr g) hq h20 rfl hVs hlt'
        have eP : dwnP q (rr g) = dwnP q (rhoD q ρ d) := by unfold dwnP; rw [dwn_E hag]
        rw [eP] at b1 b2
        have hle := dwnP_le q (rhoD q ρ d)
        rw [b1, pu_bd]
        by_cases hz : (dwnP q (rhoD q ρ d)).1 = 0
        · have er : rr g1 = rhoD q ρ (d + 1) := by rw [b2]; exact sldU_e 6 0 _ hz
          rw [hz, if_pos (show nI 0 = (0 : Int32) from rfl)]
          exact day g1 b3 (by rw [er]; exact agE.rf _) (fun s hs => by rw [er]) (fun e he => by
            by_cases z : e = d
            · subst z; exact ⟨hlt, hz⟩
            · exact hO0 e (by omega))
        · rw [if_neg (show ¬ nI (dwnP q (rhoD q ρ d)).1 = (0 : Int32) from fun z => hz ((nn_eq (b := 0) (by omega) (by decide)).mp z))]
          exact bad g1 b3 (by omega) fun z => hz z.2
end QUJ
/-! the days of a row by its number -/
theorem md_N {X N : Nat} (hX : X < 2147483648) (hN0 : 0 < N) (hN : N < 2147483648) : nI X - nI X / nI N * nI N = nI (X % N) := by
  have h1 := Nat.div_add_mod X N
  have h2 : X / N * N = N * (X / N) := Nat.mul_comm _ _
  rw [pdv hX hN0 hN, nn_mul, pe_sub (by omega)]
  congr 1
  omega
theorem digPl {K : am_G → Option (Int32 × am_G)} {N : Nat} {a2 x3 x20 x25 x26 : Int32} (hN0 : 0 < N) (hN : N ≤ 4) : ∀ (i m X : Nat) (g : am_G), i ≤ 6 → i < m → X < 2147483648 → ∃ g', fX12_plan_L93 K (nI N) a2 x3 x20 x25 x26 m (nI X) (nI i - (1 : Int32)) g = K g' ∧ (g'.2 = g.2 ∧ ∀ a, a ≠ 27 → am_I g' a = am_I g a) ∧ (∀ j, j < i → am_I g' 27 j = nI (X / N ^ (i - 1 - j) % N)) ∧ ∀ j, i ≤ j → am_I g' 27 j = am_I g 27 j
  | 0, m, X, g, hi, hm, hX => by
    obtain ⟨m, rfl⟩ : ∃ m', m = m' + 1 := ⟨m - 1, by omega⟩
    refine ⟨g, ?_, ⟨rfl, fun _ _ => rfl⟩, fun j hj => absurd hj (by omega), fun _ _ => rfl⟩
    rw [fX12_plan_L93, if_pos (show nI 0 - (1 : Int32) < 0 by decide)]
  | i + 1, m, X, g, hi, hm, hX => by
    obtain ⟨m, rfl⟩ : ∃ m', m = m' + 1 := ⟨m - 1, by omega⟩
    have hXN : X / N ≤ X := Nat.div_le_self _ _
    obtain ⟨g', b1, b2, b3, b4⟩ := digPl (K := K) (a2 := a2) (x3 := x3) (x20 := x20) (x25 := x25) (x26 := x26) hN0 hN i m (X / N) (am_si g 27 i (nI (X % N))) (by omega) (by omega) (by omega)
    have hne : (!decide (nI N = 0)) = true := by
      rw [decide_eq_false (show ¬ nI N = (0 : Int32) from fun z => absurd ((nn_eq (b := 0) (by omega) (by decide)).mp z) (by omega))]
      rfl
    refine ⟨g', ?_, ⟨b2.1, fun a ha => by rw [b2.2 a ha, pI_si_ne _ _ _ ha]⟩, fun j hj => ?_, fun j hj => ?_⟩
    · rw [fX12_plan_L93, show nI (i + 1) - (1 : Int32) = nI i from nI_ms i, if_neg (show ¬ nI i < (0 : Int32) from fun z => absurd ((nI_ltI (b := 0) (by omega) (by decide)).mp z) (by omega)), pu_gd hne, pe_gd (show i < 6 by omega) (by decide), pu_let, pu_gd hne, pu_let, pu_let, pe_clamp (show i < 2147483648 by omega), md_N hX hN0 (by omega), pdv hX hN0 (by omega), ← Int32.sub_eq_add_neg]
      exact b1
    · by_cases e : j = i
      · subst e
        rw [b4 j (Nat.le_refl _), pe_ieq, show j + 1 - 1 - j = 0 by omega, Nat.pow_zero, Nat.div_one]
      · rw [b3 j (by omega), Nat.div_div_eq_div_mul, Nat.mul_comm N, ← Nat.pow_succ, show (i - 1 - j).succ = i + 1 - 1 - j by omega]
    · rw [b4 j (by omega), pe_ik (by omega)]
theorem cpyL {K : am_G → Option (Int32 × am_G)} {T : Nat} {a1 a2 x20 x26 : Int32} (hT : T ≤ 6) : ∀ (e j m : Nat) (g : am_G), j + e = T → e < m → ∃ g', fX12_plan_L137 K a1 a2 (nI T) x20 (nI 0) x26 (nI 1) m (nI j) g = K g' ∧ (g'.2 = g.2 ∧ ∀ a, a ≠ 28 → am_I g' a = am_I g a) ∧ (∀ i, j ≤ i → i < T → am_I g' 28 i = am_I g 27 i) ∧ ∀ i, i < j → am_I g' 28 i = am_I g 28 i
  | 0, j, m, g, he, hm => by
    obtain ⟨m, rfl⟩ : ∃ m', m = m' + 1 := ⟨m - 1, by omega⟩
    obtain rfl : j = T := by omega
    refine ⟨g, ?_, ⟨rfl, fun _ _ => rfl⟩, fun i h1 h2 => absurd h1 (by omega), fun _ _ => rfl⟩
    rw [fX12_plan_L137, if_pos Int32.le_rfl]
  | e + 1, j, m, g, he, hm => by
    obtain ⟨m, rfl⟩ : ∃ m', m = m' + 1 := ⟨m - 1, by omega⟩
    obtain ⟨g', b1, b2, b3, b4⟩ := cpyL (K := K) (a1 := a1) (a2 := a2) (x20 := x20) (x26 := x26) hT e (j + 1) m (am_si g 28 j (am_I g 27 j)) (by omega) (by omega)
    refine ⟨g', ?_, ⟨b2.1, fun a ha => by rw [b2.2 a ha, pI_si_ne _ _ _ ha]⟩, fun i h1 h2 => ?_, fun i hi => ?_⟩
    · rw [fX12_plan_L137, if_neg (fun z => absurd ((nI_leI (by omega) (by omega)).mp z) (by omega)), if_neg (show ¬ nI 1 = (0 : Int32) by decide), if_pos (show nI 0 = (0 : Int32) from rfl), pe_gd (show j < 6 by omega) (by decide), pe_gd (show j < 6 by omega) (by decide), pu_let, pu_let, pe_clamp (show j < 2147483648 by omega), show nI j + (1 : Int32) = nI (j + 1) from nI_add j 1]
      exact b1
    · by_cases z : i = j
      · subst z; rw [b4 i (by omega), pe_ieq]
      · rw [b3 i (by omega) h2, pe_ine (by decide)]
    · rw [b4 i (by omega), pe_ik (by omega)]
theorem powL {K : Int32 → am_G → Option (Int32 × am_G)} {N T : Nat} {a2 : Int32} {g : am_G} (hT : T ≤ 6) : ∀ (e j m : Nat), j + e = T → e < m → fX12_plan_L47 K (nI N) a2 (nI T) m (nI (N ^ j)) (nI j) g = K (nI (N ^ T)) g
  | 0, j, m, he, hm => by
    obtain ⟨m, rfl⟩ : ∃ m', m = m' + 1 := ⟨m - 1, by omega⟩
    obtain rfl : j = T := by omega
    rw [fX12_plan_L47, if_pos Int32.le_rfl]
  | e + 1, j, m, he, hm => by
    obtain ⟨m, rfl⟩ : ∃ m', m = m' + 1 := ⟨m - 1, by omega⟩
    have ih := powL (K := K) (N := N) (a2 := a2) (g := g) hT e (j + 1) m (by omega) (by omega)
    rw [fX12_plan_L47, if_neg (fun z => absurd ((nI_leI (by omega) (by omega)).mp z) (by omega)), pu_let, pu_let, nn_mul, ← Nat.pow_succ, show nI j + (1 : Int32) = nI (j + 1) from nI_add j 1]
    exact ih
