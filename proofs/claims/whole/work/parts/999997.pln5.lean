/-! ===== plan: whether all stays quiet, in the reference ===== -/
def TkR (T : Nat) (tw tp tl : Nat → Nat) (g : am_G) : Prop := am_I g 2 2 = nI T ∧ ∀ k, k < T → am_I g 2 (211 + 3 * k) = nI (tw k) ∧ am_I g 2 (212 + 3 * k) = nI (tp k) ∧ am_I g 2 (213 + 3 * k) = nI (tl k)
theorem TkR.fw {T : Nat} {tw tp tl : Nat → Nat} {g g' : am_G} (h : TkR T tw tp tl g) (f : FrW g g') (hT : T ≤ 6) : TkR T tw tp tl g' := by
  have e : ∀ j, 142 ≤ j ∨ j < 6 → am_I g' 2 j = am_I g 2 j := fun j hj => f.1 2 j (by decide) (by decide) (by omega) (by unfold pkj; omega)
  refine ⟨by rw [e 2 (by omega)]; exact h.1, fun k hk => ?_⟩
  rw [e _ (by omega), e _ (by omega), e _ (by omega)]
  exact h.2 k hk
/-- the numbers of day d -/
def DNm (q : Option pLw) (T : Nat) (tw tp tl : Nat → Nat) (ρ : Row) (sn st hd : Nat → Nat) (op : Nat → Bool) (sh : Nat → Nat → Nat) : Prop := (∀ s, s < 6 → (sn s ≤ 9999 ∧ st s ≤ 900000000 ∧ hd s ≤ 9999) ∧ ρ (10 + 10 * s + 0) = nI (sn s) ∧ ρ (10 + 10 * s + 8) = nI (st s) ∧ ρ (10 + 10 * s + 1) = nI (hd s)) ∧ ∀ k, k < T → op k = !brd q ρ (tw k) (tp k) (tl k) ∧ ∀ s, s < 6 → sh k s ≤ 999 ∧ shk q ρ (tw k) (tp k) (tl k) s = nI (sh k s)
theorem quiet_0 {K : Int32 → am_G → Option (Int32 × am_G)} {a1 x2 x13 : Int32} {n : Nat} {g : am_G} : fX12_isQuiet_L43 K a1 x2 (n + 1) (nI 0) x13 g = K (nI 0) g := by
  rw [fX12_isQuiet_L43, pu_gd (show am_in (2 : Int32) 5660 = true from rfl)]
  by_cases h : am_I g 2 (2 : Int32).toNatClampNeg ≤ x13
  · rw [if_pos h]
  · rw [if_neg h, if_pos (show nI 0 = (0 : Int32) from rfl)]
theorem quiet4_0 {a1 x2 : Int32} {n : Nat} {g : am_G} : fX12_isQuiet_L4 a1 (n + 1) (nI 0) x2 g = some (nI 0, g) := by
  rw [fX12_isQuiet_L4]
  by_cases h : a1 ≤ x2
  · rw [if_pos h, pz_0]
  · rw [if_neg h, if_pos (show nI 0 = (0 : Int32) from rfl), pz_0]
section QUI
variable {q : Option pLw} {ρ : Row} {T N : Nat} {tw tp tl : Nat → Nat} {snD stD hdD : Nat → Nat → Nat} {opD : Nat → Nat → Bool} {shD : Nat → Nat → Nat → Nat}
/-- pressed by one more talk -/
theorem unst_prs {σ ρd : Row} {d k : Nat} {c : Nat → Nat} {w p l : Nat} (hw : w < 16) (hp : p < 4) (hl : l ≤ 3) (hk6 : k < 6) (hag : agE σ ρd) (hst : ∀ s, s < 6 → σ (10 + 10 * s + 8) = nI (stD d s + usd shD c d k s)) (hsl : ∀ s, s < 6 → (snD d s ≤ 9999 ∧ stD d s ≤ 900000000 ∧ hdD d s ≤ 9999) ∧ ρd (10 + 10 * s + 0) = nI (snD d s) ∧ ρd (10 + 10 * s + 8) = nI (stD d s) ∧ ρd (10 + 10 * s + 1) = nI (hdD d s)) (hsh : ∀ s, s < 6 → shD d k s ≤ 999 ∧ shk q ρd w p l s = nI (shD d k s)) (husd : ∀ s, s < 6 → usd shD c d k s ≤ 6000) : (sayP q σ 0 w p l).1 = 0 ↔ okPl shD (fun d s => rmB (snD d) (stD d) (hdD d) s) k c d := by
  unfold sayP
  rw [sldU_z]
  have hE := prs_E σ (show 0 < 6 by decide) (shk q σ w p l) (Nat.le_refl 6)
  have key : ∀ s, s < 6 → (unst (prs σ 0 (shk q σ w p l) 6) s = false ↔ (((usd shD c d k s + shD d k s) : Nat) : Int) ≤ rmB (snD d) (stD d) (hdD d) s) := by
    intro s hs
    obtain ⟨⟨u1, u2, u3⟩, v1, v2, v3⟩ := hsl s hs
    obtain ⟨m1, m2⟩ := hsh s hs
    have m3 := husd s hs
    have e0 : prs σ 0 (shk q σ w p l) 6 (10 + 10 * s + 0) = nI (snD d s) := by rw [hE _ (by omega), hag _ (by omega)]; exact v1
    have e1 : prs σ 0 (shk q σ w p l) 6 (10 + 10 * s + 1) = nI (hdD d s) := by rw [hE _ (by omega), hag _ (by omega)]; exact v3
    have e8 : prs σ 0 (shk q σ w p l) 6 (10 + 10 * s + 8) = nI (stD d s + usd shD c d k s + shD d k s) := by rw [prs_st σ (by decide) _ 6 (Nat.le_refl _) hs, hst s hs, shk_cg hag.V l hw hp hs, m2, nI_add]
    unfold unst rmB
    rw [e0, e1, e8, nI_add]
    by_cases h0 : snD d s = 0
    · rw [if_pos h0]
      refine ⟨fun _ => by omega, fun _ => ?_⟩
      rw [decide_eq_false (fun z => absurd ((nI_ltI (a := 0) (by decide) (by omega)).mp z) (by omega)), Bool.false_and]
    · rw [if_neg h0, decide_eq_true (nI_lt (a := 0) (show 0 < snD d s by omega) (by omega)), Bool.true_and]
      constructor
      · intro z
        have := of_decide_eq_false z
        have h2 : ¬ hdD d s < snD d s + (stD d s + usd shD c d k s + shD d k s) := fun y => this (nI_lt y (by omega))
        omega
      · intro z
        exact decide_eq_false fun y => absurd ((nI_ltI (by omega) (by omega)).mp y) (by omega)
  constructor
  · intro h s hs
    exact (key s hs).mp (h s (by omega) (by omega))
  · intro h s _ hs
    exact (key s (by omega)).mpr (h s (by omega))
theorem quietL43 {d : Nat} {c : Nat → Nat} {K : Int32 → am_G → Option (Int32 × am_G)} {a1 : Int32} (hT : T ≤ 6) (hd : d < N) (hN : N ≤ 4) (hc : ∀ j, j < T → c j < N) (htk : ∀ k, k < T → tw k < 16 ∧ tp k < 4 ∧ tl k ≤ 3) (hVd : okV (rhoD q ρ d)) (hDN : DNm q T tw tp tl (rhoD q ρ d) (snD d) (stD d) (hdD d) (opD d) (shD d)) : ∀ (e k m : Nat) (g : am_G), k + e = T → e + 1 < m → TkR T tw tp tl g → LawR (am_I g 2) q → am_I g 0 20 = nI 0 → (∀ j, j < T → am_I g 27 j = nI (c j)) → agE (rr g) (rhoD q ρ d) → (∀ s, s < 6 → rr g (10 + 10 * s + 8) = nI (stD d s + usd shD c d k s)) →
    (∃ g', fX12_isQuiet_L43 K a1 (nI d) m (nI 1) (nI k) g = K (nI 1) g' ∧ FrW g g' ∧ agE (rr g') (rhoD q ρ d) ∧ ∀ j, k ≤ j → j < T → c j = d → aPl opD shD (fun d s => rmB (snD d) (stD d) (hdD d) s) j c d = true) ∨
    (∃ g', fX12_isQuiet_L43 K a1 (nI d) m (nI 1) (nI k) g = K (nI 0) g' ∧ FrW g g' ∧ ∃ j, k ≤ j ∧ j < T ∧ c j = d ∧ ¬ aPl opD shD (fun d s => rmB (snD d) (stD d) (hdD d) s) j c d = true)
  | 0, k, m, g, he, hm, hk, hq, h20, h27, hag, hst => by
    obtain ⟨m, rfl⟩ : ∃ m', m = m' + 1 := ⟨m - 1, by omega⟩
    obtain rfl : k = T := by omega
    left
    refine ⟨g, ?_, FrW.rf g, hag, fun j h1 h2 => absurd h1 (by omega)⟩
    rw [fX12_isQuiet_L43, pu_gd (show am_in (2 : Int32) 5660 = true from rfl), show (2 : Int32).toNatClampNeg = 2 from rfl, hk.1, if_pos Int32.le_rfl]
  | e + 1, k, m, g, he, hm, hk, hq, h20, h27, hag, hst => by
    obtain ⟨m, rfl⟩ : ∃ m', m = m' + 1 := ⟨m - 1, by omega⟩
    have hkT : k < T := by omega
    have ek : nI k + (1 : Int32) = nI (k + 1) := nI_add k 1
    obtain ⟨hw, hp, hl⟩ := htk k hkT
    obtain ⟨t1, t2, t3⟩ := hk.2 k hkT
    obtain ⟨o1, o2⟩ := hDN.2 k hkT
    have hcl : ∀ k', k' ≤ T → ∀ s, s < 6 → usd shD c d k' s ≤ 6000 := fun k' hk' s hs => usd_le (by omega) (fun j hj => ((hDN.2 j (by omega)).2 s hs).1)
    have husd : ∀ s, usd shD c d (k + 1) s = usd shD c d k s + if c k = d then shD d k s else 0 := fun s => by unfold usd; rw [smW]
    rw [fX12_isQuiet_L43, pu_gd (show am_in (2 : Int32) 5660 = true from rfl), show (2 : Int32).toNatClampNeg = 2 from rfl, hk.1, if_neg (fun z => absurd ((nI_leI (by omega) (by omega)).mp z) (by omega)), if_neg (show ¬ nI 1 = (0 : Int32) by decide), pu_let, pe_gd (show k < 6 by omega) (by decide), pu_jn]
    dsimp only
    rw [pe_clamp (show k < 2147483648 by omega), h27 k hkT]
    by_cases hcd : c k = d
    · have e20 : (211 : Int32) + (3 : Int32) * nI k = nI (211 + 3 * k) := by rw [show (3 : Int32) = nI 3 from rfl, nn_mul, show (211 : Int32) = nI 211 from rfl, nI_add]
      have e21 : nI (211 + 3 * k) + (1 : Int32) = nI (212 + 3 * k) := by rw [show (1 : Int32) = nI 1 from rfl, nI_add]; congr 1; omega
      have e22 : nI (211 + 3 * k) + (2 : Int32) = nI (213 + 3 * k) := by rw [show (2 : Int32) = nI 2 from rfl, nI_add]; congr 1; omega
      rw [if_pos (by rw [hcd]), e20, e21, e22, pe_gd (show 211 + 3 * k < 5660 by omega) (by decide), pe_gd (show 212 + 3 * k < 5660 by omega) (by decide), pe_gd (show 213 + 3 * k < 5660 by omega) (by decide), pe_clamp (show 211 + 3 * k < 2147483648 by omega), pe_clamp (show 212 + 3 * k < 2147483648 by omega), pe_clamp (show 213 + 3 * k < 2147483648 by omega), t1, t2, t3]
      obtain ⟨g1, b1, f1⟩ := q12_isBarred (g := g) (w := tw k) (p := tp k) (l := tl k) hq h20 hw
      rw [brd_cg (fun j h1 h2 => (ag_rr rfl j h1 h2).trans (hag.V j h1 h2)) (tp k) (tl k) hw] at b1
      have k1 := hk.fw f1.W hT
      obtain ⟨t1', t2', t3'⟩ := k1.2 k hkT
      have r1 : rr g1 = rr g := rr_cg (f1.row (by decide))
      rw [b1, pu_bd, pu_jn]
      dsimp only
      rw [pu_jn]
      dsimp only
      by_cases hb : brd q (rhoD q ρ d) (tw k) (tp k) (tl k) = true
      · right
        rw [pb_t hb, if_neg (show ¬ nI 1 = (0 : Int32) by decide), pu_let, ek]
        refine ⟨g1, ?_, f1.W, k, Nat.le_refl _, hkT, hcd, ?_⟩
        · obtain ⟨m, rfl⟩ : ∃ m', m = m' + 1 := ⟨m - 1, by omega⟩
          exact quiet_0
        · unfold aPl
          rw [o1, hb]
          exact Bool.false_ne_true
      · rw [pb_f hb, if_pos (show nI 0 = (0 : Int32) from rfl), pe_gd (show 211 + 3 * k < 5660 by omega) (by decide), pe_gd (show 212 + 3 * k < 5660 by omega) (by decide), pe_gd (show 213 + 3 * k < 5660 by omega) (by decide), t1', t2', t3']
        have q1 : LawR (am_I g1 2) q := hq.fw f1.W
        have h201 : am_I g1 0 20 = nI 0 := by rw [f1.at (by omega)]; exact h20
        have hVs : okV (rr g) := hVd.cg (fun j h1 h2 => hag.V j h1 h2)
        obtain ⟨g2, s1, s2, f2⟩ := q12_sayIt (g := g1) (ρ := rr g) (i := 0) (by decide) hw hp hl q1 h201 r1 hVs
        have hle := sayP_le q (rr g) 0 (tw k) (tp k) (tl k)
        have f12 := f1.W.tr f2
        have hun := unst_prs (q := q) (snD := snD) (stD := stD) (hdD := hdD) (shD := shD) (d := d) (k := k) (c := c) hw hp hl (by omega) hag hst hDN.1 o2 (fun s hs => hcl k (by omega) s hs)
        rw [show fX12_sayIt (0 : Int32) (nI (tw k)) (nI (tp k)) (nI (tl k)) g1 = some (nI (sayP q (rr g) 0 (tw k) (tp k) (tl k)).1, g2) from s1, pu_bd]
        by_cases hz : (sayP q (rr g) 0 (tw k) (tp k) (tl k)).1 = 0
        · have hA : aPl opD shD (fun d s => rmB (snD d) (stD d) (hdD d) s) k c d = true := by
            unfold aPl
            rw [o1, Bool.eq_false_iff.mpr hb, decide_eq_true (hun.mp hz)]
            rfl
          have er : (sayP q (rr g) 0 (tw k) (tp k) (tl k)).2 = prs (rr g) 0 (shk q (rr g) (tw k) (tp k) (tl k)) 6 := sldU_e 6 0 _ hz
          rw [er] at s2
          have hag2 : agE (rr g2) (rhoD q ρ d) := by
            rw [s2]
            exact (prs_E (rr g) (by decide) _ (Nat.le_refl 6)).tr hag
          rw [hz, if_pos (show nI 0 = (0 : Int32) from rfl), pu_let, ek]
          have ih := quietL43 (K := K) (a1 := a1) hT hd hN hc htk hVd hDN e (k + 1) m g2 (by omega) (by omega) (hk.fw f12 hT) (hq.fw f12) (by rw [f12.1 0 20 (by decide) (by decide) (by omega) (by omega)]; exact h20) (fun j hj => by rw [f12.1 27 j (by decide) (by decide) (by omega) (by omega)]; exact h27 j hj) hag2 (fun s hs => by
            rw [s2, prs_st (rr g) (by decide) _ 6 (Nat.le_refl _) hs, hst s hs, shk_cg hag.V (tl k) hw hp hs, (o2 s hs).2, nI_add, husd, if_pos hcd, Nat.add_assoc])
          rcases ih with ⟨g', x1, x2, x3, x4⟩ | ⟨g', x1, x2, j, x3, x4⟩
          · refine Or.inl ⟨g', x1, f12.tr x2, x3, fun j h1 h2 h3 => ?_⟩
            by_cases z : j = k
            · subst z; exact hA
            · exact x4 j (by omega) h2 h3
          · exact Or.inr ⟨g', x1, f12.tr x2, j, by omega, x4⟩
        · right
          rw [if_neg (show ¬ nI (sayP q (rr g) 0 (tw k) (tp k) (tl k)).1 = (0 : Int32) from fun z => hz ((nn_eq (b := 0) (by omega) (by decide)).mp z)), pu_let, ek]
          refine ⟨g2, ?_, f12, k, Nat.le_refl _, hkT, hcd, ?_⟩
          · obtain ⟨m, rfl⟩ : ∃ m', m = m' + 1 := ⟨m - 1, by omega⟩
            exact quiet_0
          · unfold aPl
            rw [decide_eq_false (fun z => hz (hun.mpr z)), Bool.and_false]
            exact Bool.false_ne_true
    · rw [if_neg (fun z => hcd ((nn_eq (by have := hc k hkT; omega) (by omega)).mp z)), pu_let, ek]
      have ih := quietL43 (K := K) (a1 := a1) hT hd hN hc htk hVd hDN e (k + 1) m g (by omega) (by omega) hk hq h20 h27 hag (fun s hs => by rw [husd, if_neg hcd, Nat.add_zero]; exact hst s hs)
      rcases ih with ⟨g', x1, x2, x3, x4⟩ | ⟨g', x1, x2, j, x3, x4⟩
      · refine Or.inl ⟨g', x1, x2, x3, fun j h1 h2 h3 => ?_⟩
        by_cases z : j = k
        · subst z; exact absurd h3 hcd
        · exact x4 j (by omega) h2 h3
      · exact Or.inr ⟨g', x1, x2, j, by omega, x4⟩
end QUI
