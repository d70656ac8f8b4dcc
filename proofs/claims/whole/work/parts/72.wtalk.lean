/-! ===== how harm grows ===== -/
theorem sld1_8 {ρ : Row} (hV : okV ρ) {s : Nat} (hs : s < 6) : ∃ k, k ≤ 9999 ∧ sld1 ρ s 8 = ρ 8 + nI k := by
  have m : ∀ (ρ : Row) n, n ≤ 6 → mvp ρ s n 8 = ρ 8 := by
    intro ρ n
    induction n with
    | zero => intro _; rfl
    | succ n ih => intro hn; rw [mvp, am_up_ne (by omega), am_up_ne (by omega)]; exact ih (by omega)
  unfold sld1
  rw [m _ 6 (Nat.le_refl _)]
  unfold sldB
  rw [am_up_ne (by omega), am_up_ne (by omega), am_up_ne (by omega)]
  obtain ⟨a, ha, ea⟩ := hV.snow hs
  have z : ρ 8 = ρ 8 + nI 0 := (Int32.add_zero (ρ 8)).symm
  unfold sldA
  rcases hV.below hs with e | ⟨b, hb1, hb2, e⟩
  · rw [if_pos e]
    split
    · exact ⟨0, by decide, by rw [am_up_ne (by decide)]; exact z⟩
    · exact ⟨a, ha, by rw [am_up_eq, ea]⟩
  · rw [e, if_neg (nI_m1ne (by omega)), pe_clamp (by omega), am_up_ne (by omega)]
    exact ⟨0, by decide, z⟩
theorem sldU_8 : ∀ (d s : Nat) (ρ : Row), s + d = 6 → okV ρ → ∃ k, k ≤ 9999 * d ∧ (sldU d s ρ).2 8 = ρ 8 + nI k
  | 0, _, ρ, _, _ => ⟨0, by decide, (Int32.add_zero (ρ 8)).symm⟩
  | d + 1, s, ρ, hd, hV => by
    rw [sldU]
    by_cases hu : unst ρ s = true
    · rw [if_pos hu]
      obtain ⟨k1, h1, e1⟩ := sld1_8 hV (show s < 6 by omega)
      obtain ⟨k2, h2, e2⟩ := sldU_8 d (s + 1) (sld1 ρ s) (by omega) (sld1_ok hV (by omega))
      refine ⟨k1 + k2, by omega, ?_⟩
      show (sldU d (s + 1) (sld1 ρ s)).2 8 = _
      rw [e2, e1, Int32.add_assoc, nI_add]
    · rw [if_neg hu]
      obtain ⟨k2, h2, e2⟩ := sldU_8 d (s + 1) ρ (by omega) hV
      exact ⟨k2, by omega, e2⟩
theorem say_8 {q : Option pLw} {ρ : Row} {i w p l : Nat} (hV : okV ρ) (hi : i < 6) : ∃ k, k ≤ 59994 ∧ (sayP q ρ i w p l).2 8 = ρ 8 + nI k := by
  obtain ⟨k, hk, e⟩ := sldU_8 6 0 (prs ρ i (shk q ρ w p l) 6) rfl (hV.cg (prs_ag ρ hi _ 6 (Nat.le_refl _)))
  refine ⟨k, by omega, ?_⟩
  show (sldU 6 0 (prs ρ i (shk q ρ w p l) 6)).2 8 = _
  rw [e, prs_un ρ i _ 6 (fun s hs => by omega)]
theorem dwn_8 {q : Option pLw} {ρ : Row} (hV : okV ρ) (hd : ρ 6 < nI 999) : ∃ k, k ≤ 59994 ∧ (dwnP q ρ).2 8 = ρ 8 + nI k := by
  obtain ⟨k, hk, e⟩ := sldU_8 6 0 (dwn q ρ) rfl (dwn_ok hV hd)
  refine ⟨k, by omega, ?_⟩
  show (sldU 6 0 (dwn q ρ)).2 8 = _
  rw [e]
  have : dwn q ρ 8 = ρ 8 := by
    unfold dwn eas
    rw [if_neg (by omega), dwnN_at q ρ 6 (Nat.le_refl _) 8 (fun s hs => by omega), am_up_ne (by decide)]
  rw [this]
theorem sayP_okv {q : Option pLw} {ρ : Row} {i w p l : Nat} (hV : okV ρ) (hi : i < 6) : okV (sayP q ρ i w p l).2 := by
  have : ∀ (d s : Nat) (ρ : Row), s + d = 6 → okV ρ → okV (sldU d s ρ).2 := by
    intro d
    induction d with
    | zero => intro s ρ _ h; exact h
    | succ d ih =>
      intro s ρ hd h
      rw [sldU]
      split
      · exact ih (s + 1) _ (by omega) (sld1_ok h (by omega))
      · exact ih (s + 1) _ (by omega) h
  exact this 6 0 _ rfl (hV.cg (prs_ag ρ hi _ 6 (Nat.le_refl _)))
theorem dwnP_okv {q : Option pLw} {ρ : Row} (hV : okV ρ) (hd : ρ 6 < nI 999) : okV (dwnP q ρ).2 := by
  have : ∀ (d s : Nat) (ρ : Row), s + d = 6 → okV ρ → okV (sldU d s ρ).2 := by
    intro d
    induction d with
    | zero => intro s ρ _ h; exact h
    | succ d ih =>
      intro s ρ hd h
      rw [sldU]
      split
      · exact ih (s + 1) _ (by omega) (sld1_ok h (by omega))
      · exact ih (s + 1) _ (by omega) h
  exact this 6 0 _ rfl (dwn_ok hV hd)
/-! the talk in the reference -/
/-- a winter's talk and its row -/
def wtk (q : Option pLw) (nw m : Nat) (ρ : Row) : Row := if brd q ρ (nxd m % nw) (nxd (nxd m) % 4) (nxd (nxd (nxd m)) % 3 + 1) then ρ else (sayP q ρ 0 (nxd m % nw) (nxd (nxd m) % 4) (nxd (nxd (nxd m)) % 3 + 1)).2
theorem wtk_of9 {q : Option pLw} {nw m : Nat} {δ ρ : Row} (h0 : 0 < nw) (hnw : nw ≤ 16) (hV : okV ρ) : wtk q nw m (of9 δ ρ) = of9 δ (wtk q nw m ρ) := by
  have b1 := Nat.mod_lt (nxd m) h0
  have b2 := Nat.mod_lt (nxd (nxd m)) (show 0 < 4 by decide)
  unfold wtk
  rw [of9_brd _ _ (by omega)]
  split
  · rfl
  · exact of9_say _ hV (by decide) (by omega) b2
theorem wtk_ok {q : Option pLw} {nw m : Nat} {ρ : Row} (hV : okV ρ) : okV (wtk q nw m ρ) := by
  unfold wtk
  split
  · exact hV
  · exact sayP_okv hV (by decide)
theorem wtk_8 {q : Option pLw} {nw m : Nat} {ρ : Row} (hV : okV ρ) : ∃ k, k ≤ 59994 ∧ wtk q nw m ρ 8 = ρ 8 + nI k := by
  unfold wtk
  split
  · exact ⟨0, by decide, (Int32.add_zero (ρ 8)).symm⟩
  · exact say_8 hV (by decide)
/-- the reference's three draws and its talk -/
theorem q12_wtalk {r : am_G} {q : Option pLw} {ρ : Row} {nw m : Nat} (h0 : 0 < nw) (hnw : nw ≤ 16) (hm : m ≤ 1000002) (hq : LawR (am_I r 2) q) (h20 : am_I r 0 20 = nI 0) (hr : rr r = ρ) (hV : okV ρ) (hst : am_L r 0 61 = (nI m).toInt64) : ∃ r1 r2 r3 r4, fX12_draw (nI nw) r = some (nI (nxd m % nw), r1) ∧ fX12_draw (nI 4) r1 = some (nI (nxd (nxd m) % 4), r2) ∧ fX12_draw (nI 3) r2 = some (nI (nxd (nxd (nxd m)) % 3), r3) ∧ fX12_isBarred (nI (nxd m % nw)) (nI (nxd (nxd m) % 4)) (nI (nxd (nxd (nxd m)) % 3 + 1)) r3 = some (pb (brd q ρ (nxd m % nw) (nxd (nxd m) % 4) (nxd (nxd (nxd m)) % 3 + 1) = true), r4) ∧ FrV r r4 ∧ am_L r4 0 61 = (nI (nxd (nxd (nxd m)))).toInt64 ∧ rr r4 = ρ ∧
    (brd q ρ (nxd m % nw) (nxd (nxd m) % 4) (nxd (nxd (nxd m)) % 3 + 1) = false → ∃ v r5, fX12_sayIt (nI 0) (nI (nxd m % nw)) (nI (nxd (nxd m) % 4)) (nI (nxd (nxd (nxd m)) % 3 + 1)) r4 = some (v, r5) ∧ FrV r r5 ∧ am_L r5 0 61 = (nI (nxd (nxd (nxd m)))).toInt64 ∧ rr r5 = (sayP q ρ 0 (nxd m % nw) (nxd (nxd m) % 4) (nxd (nxd (nxd m)) % 3 + 1)).2) := by
  have n1 := nxd_le m
  have n2 := nxd_le (nxd m)
  have b1 := Nat.mod_lt (nxd m) h0
  have b2 := Nat.mod_lt (nxd (nxd m)) (show 0 < 4 by decide)
  have b3 := Nat.mod_lt (nxd (nxd (nxd m))) (show 0 < 3 by decide)
  have e1 := q12_draw (m := m) (c := nw) hm h0 hnw hst
  have e2 := q12_draw (m := nxd m) (c := 4) n1 (by decide) (by decide) (g := am_sl r 0 61 (nI (nxd m)).toInt64) (rLk _ _ _ _)
  have e3 := q12_draw (m := nxd (nxd m)) (c := 3) n2 (by decide) (by decide) (g := am_sl (am_sl r 0 61 (nI (nxd m)).toInt64) 0 61 (nI (nxd (nxd m))).toInt64) (rLk _ _ _ _)
  have fv3 : FrV r (am_sl (am_sl (am_sl r 0 61 (nI (nxd m)).toInt64) 0 61 (nI (nxd (nxd m))).toInt64) 0 61 (nI (nxd (nxd (nxd m)))).toInt64) := (((FrV.rf r).sl _ _).sl _ _).sl _ _
  have st3 : am_L (am_sl (am_sl (am_sl r 0 61 (nI (nxd m)).toInt64) 0 61 (nI (nxd (nxd m))).toInt64) 0 61 (nI (nxd (nxd (nxd m)))).toInt64) 0 61 = (nI (nxd (nxd (nxd m)))).toInt64 := rLk _ _ _ _
  have rI3 : am_I (am_sl (am_sl (am_sl r 0 61 (nI (nxd m)).toInt64) 0 61 (nI (nxd (nxd m))).toInt64) 0 61 (nI (nxd (nxd (nxd m)))).toInt64) = am_I r := rfl
  generalize am_sl (am_sl (am_sl r 0 61 (nI (nxd m)).toInt64) 0 61 (nI (nxd (nxd m))).toInt64) 0 61 (nI (nxd (nxd (nxd m)))).toInt64 = r3 at e3 fv3 st3 rI3
  obtain ⟨r4, e4, f4⟩ := q12_isBarred (g := r3) (q := q) (w := nxd m % nw) (p := nxd (nxd m) % 4) (l := nxd (nxd (nxd m)) % 3 + 1) (by rw [rI3]; exact hq) (by rw [rI3]; exact h20) (by omega)
  rw [rI3, brd_cg (ag_rr hr) _ _ (by omega)] at e4
  have hrr : rr r4 = ρ := by rw [← hr]; exact rr_cg (by rw [f4.row (by decide), rI3])
  have st4 : am_L r4 0 61 = (nI (nxd (nxd (nxd m)))).toInt64 := by rw [f4.2.1 0 61 (by decide) (by decide) (by omega)]; exact st3
  refine ⟨_, _, r3, r4, e1, e2, e3, e4, fv3.tr f4.W.V, st4, hrr, fun hb => ?_⟩
  obtain ⟨r5, e5, rr5, f5⟩ := q12_sayIt (g := r4) (q := q) (ρ := ρ) (i := 0) (w := nxd m % nw) (pl := nxd (nxd m) % 4) (l := nxd (nxd (nxd m)) % 3 + 1) (by decide) (by omega) b2 (by omega) (by rw [f4.row (by decide), rI3]; exact hq) (by rw [f4.at (by decide), rI3]; exact h20) hrr hV
  exact ⟨_, r5, e5, (fv3.tr f4.W.V).tr f5.V, by rw [f5.2.1 0 61 (by decide) (by decide) (by omega)]; exact st4, rr5⟩
