/-! ===== bring ===== -/
section BRM
variable {q : Option pLw} {ρ0 : Row} {O pl tg nW : Nat} {op : Nat → Bool} {SH : Nat → Nat → Nat → Nat} {hd bl : Nat → Nat} {gg ld : Nat → Bool}
theorem psX_tg (htg : tg < 6) (hno : ¬ (bl tg < 6 ∨ gg tg = true)) : ∀ (d s : Nat) (X : Xst) (sl : Nat → Bool) (X' : Xst) (sl' : Nat → Bool), psX hd bl gg d s X sl = some (X', sl') → sl' tg = sl tg
  | 0, s, X, sl, X', sl', h => by
    rw [psX] at h
    cases h
    rfl
  | d + 1, s, X, sl, X', sl', h => by
    rw [psX] at h
    by_cases e : unX hd X s = true
    · rw [if_pos e] at h
      by_cases e2 : bl s < 6 ∨ gg s = true
      · rw [if_pos e2] at h
        have hne : tg ≠ s := fun z => hno (by rw [z]; exact e2)
        rw [psX_tg htg hno d (s + 1) _ _ X' sl' h, bup_ne hne]
      · rw [if_neg e2] at h; cases h
    · rw [if_neg e] at h
      exact psX_tg htg hno d (s + 1) X sl X' sl' h
/-- what slides there is harm at once -/
theorem brX_no (htg : tg < 6) (hno : ¬ (bl tg < 6 ∨ gg tg = true)) : ∀ (d : Nat) (X : Xst), brX O op SH hd bl gg tg true d X = none
  | 0, X => rfl
  | 1, X => by
    rw [brX]
    refine fstO_none.mpr fun o _ _ => ?_
    unfold tryX
    by_cases e : op o = true
    · rw [if_pos e]
      cases hs : stepX SH hd bl gg o X with
      | none => rfl
      | some z =>
        obtain ⟨X', sl⟩ := z
        have := psX_tg htg hno 6 0 _ _ X' sl hs
        show (if sl tg = true then some [o] else none) = none
        rw [this]
        rfl
    · rw [if_neg e]
  | d + 2, X => by
    rw [brX]
    refine fstO_none.mpr fun o _ _ => ?_
    unfold tryX
    by_cases e : op o = true
    · rw [if_pos e]
      cases hs : stepX SH hd bl gg o X with
      | none => rfl
      | some z =>
        obtain ⟨X', sl⟩ := z
        show (if true = true ∧ sl tg = true then none else (brX O op SH hd bl gg tg true (d + 1) X').map (fun l => o :: l)) = none
        rw [brX_no htg hno (d + 1) X']
        split <;> rfl
    · rw [if_neg e]
theorem fstO_some {T : Nat → Option (List Nat)} {l : List Nat} : ∀ {m o : Nat}, fstO T m o = some l → ∃ x, T x = some l
  | 0, o, h => by rw [fstO] at h; cases h
  | m + 1, o, h => by
    rw [fstO] at h
    cases hT : T o with
    | some l' => rw [hT] at h; exact ⟨o, hT.trans h⟩
    | none => rw [hT] at h; exact fstO_some (m := m) (o := o + 1) h
theorem brX_len {mid : Bool} : ∀ (d : Nat) (X : Xst) (l : List Nat), brX O op SH hd bl gg tg mid d X = some l → l.length = d
  | 0, X, l, h => by rw [brX] at h; cases h
  | 1, X, l, h => by
    rw [brX] at h
    obtain ⟨o, ho⟩ := fstO_some h
    unfold tryX at ho
    by_cases e : op o = true
    · rw [if_pos e] at ho
      cases hs : stepX SH hd bl gg o X with
      | none => rw [hs] at ho; cases ho
      | some z =>
        obtain ⟨X', sl⟩ := z
        rw [hs] at ho
        have ho : (if sl tg = true then some [o] else none) = some l := ho
        by_cases e2 : sl tg = true
        · rw [if_pos e2] at ho; cases ho; rfl
        · rw [if_neg e2] at ho; cases ho
    · rw [if_neg e] at ho; cases ho
  | d + 2, X, l, h => by
    rw [brX] at h
    obtain ⟨o, ho⟩ := fstO_some h
    unfold tryX at ho
    by_cases e : op o = true
    · rw [if_pos e] at ho
      cases hs : stepX SH hd bl gg o X with
      | none => rw [hs] at ho; cases ho
      | some z =>
        obtain ⟨X', sl⟩ := z
        rw [hs] at ho
        have ho : (if mid = true ∧ sl tg = true then none else (brX O op SH hd bl gg tg mid (d + 1) X').map (fun l => o :: l)) = some l := ho
        by_cases e2 : mid = true ∧ sl tg = true
        · rw [if_pos e2] at ho; cases ho
        · rw [if_neg e2] at ho
          cases hb : brX O op SH hd bl gg tg mid (d + 1) X' with
          | none => rw [hb] at ho; cases ho
          | some l' =>
            rw [hb] at ho
            cases ho
            rw [List.length_cons, brX_len (d + 1) X' l' hb]
    · rw [if_neg e] at ho; cases ho
theorem ch_eq {g r : am_G} : ∀ (l : List Nat) (v x : Nat), chL g v l → chR r v l → x < l.length → am_I g 61 (v + x) = am_I r 29 (v + x)
  | [], v, x, _, _, h => absurd h (by rw [List.length_nil]; omega)
  | o :: l, v, x, h1, h2, h => by
    rw [List.length_cons] at h
    by_cases e : x = 0
    · subst e; rw [Nat.add_zero, h1.1, h2.1]
    · have := ch_eq l (v + 1) (x - 1) h1.2 h2.2 (by omega)
      rw [show v + 1 + (x - 1) = v + x by omega] at this
      exact this
def KBc (a3 : Int32) (x30 : Int32) (g31 : am_G) : Option (Int32 × am_G) :=
            if a3 = (-1 : Int32) then (
              some (x30, g31))
            else (
              if x30 ≤ a3 then (
                some ((-1 : Int32), g31))
              else (
                am_gd (am_in a3 3) <|
                some (am_I g31 61 a3.toNatClampNeg, g31)))
def KBr (a3 : Int32) (x24 : Int32) (g25 : am_G) : Option (Int32 × am_G) :=
          if a3 = (-1 : Int32) then (
            some (x24, g25))
          else (
            if x24 ≤ a3 then (
              some ((-1 : Int32), g25))
            else (
              am_gd (am_in a3 3) <|
              some (am_I g25 29 a3.toNatClampNeg, g25)))
theorem KB_eq {a3 : Int32} {n : Nat} {l : List Nat} {g r : am_G} (h3 : (-1 : Int32) ≤ a3 ∧ a3 ≤ 2) (hn : n ≤ 3) (hl : l.length = n) (h1 : chL g 0 l) (h2 : chR r 0 l) : ∃ v, KBc a3 (nI n) g = some (v, g) ∧ KBr a3 (nI n) r = some (v, r) := by
  unfold KBc KBr
  by_cases hm : a3 = -1
  · rw [if_pos hm, if_pos hm]
    exact ⟨_, rfl, rfl⟩
  · have h0 : (0 : Int32) ≤ a3 := by
      have h4 := Int32.le_iff_toInt_le.mp h3.1
      have h5 : (-1 : Int32).toInt = -1 := rfl
      have h6 : a3.toInt ≠ -1 := fun z => hm (Int32.toInt_inj.mp (by rw [z]; rfl))
      exact Int32.le_iff_toInt_le.mpr (by have : (0 : Int32).toInt = 0 := rfl; omega)
    obtain ⟨x, hx, rfl⟩ := nn_rng (n := 2) (by decide) ⟨h0, h3.2⟩
    rw [if_neg hm, if_neg hm]
    by_cases hnx : n ≤ x
    · rw [if_pos ((nI_leI (by omega) (by omega)).mpr hnx), if_pos ((nI_leI (by omega) (by omega)).mpr hnx)]
      exact ⟨_, rfl, rfl⟩
    · have := ch_eq l 0 x h1 h2 (by omega)
      rw [Nat.zero_add] at this
      rw [if_neg (fun z => hnx ((nI_leI (by omega) (by omega)).mp z)), if_neg (fun z => hnx ((nI_leI (by omega) (by omega)).mp z)), pe_gd (show x < 3 by omega) (by decide), pe_gd (show x < 3 by omega) (by decide), pe_clamp (show x < 2147483648 by omega), this]
      exact ⟨_, rfl, rfl⟩
theorem LU_le : ∀ n, n ≤ 3 → LUf n ≤ 700000 := by decide
theorem brRef {a3 : Int32} {B : Nat} {X : Xst} (hO : O ≤ 48) (hOW : O = 3 * nW) (hpl : pl < 4) (htg : tg < 6) (hB : B + 2997 ≤ 1500000000) (hSH : ShF q ρ0 pl SH) (hop : ∀ o, o < O → op o = !brd q ρ0 (o / 3) pl (o % 3 + 1)) (hno : ∀ n, brX O op SH hd bl gg tg true n X = none) : ∀ (e n f : Nat) (r : am_G), n + e = 4 → 0 < n → e < f → LawR (am_I r 2) q → am_I r 0 20 = nI 0 → am_I r 2 0 = nI nW → RwB q ρ0 hd bl gg B X (rr r) → ∃ r', fX12_bring_L38 (KBr a3) (nI tg) (nI pl) a3 f (nI n) r = some (-1, r') ∧ FrT r r'
  | 0, n, f, r, he, hn0, hf, hq, h20, h0, hR => by
    obtain ⟨f, rfl⟩ : ∃ m', f = m' + 1 := ⟨f - 1, by omega⟩
    obtain rfl : n = 4 := by omega
    refine ⟨r, ?_, FrT.rf r⟩
    rw [fX12_bring_L38, if_pos (show (4 : Int32) ≤ nI 4 by decide)]
  | e + 1, n, f, r, he, hn0, hf, hq, h20, h0, hR => by
    obtain ⟨f, rfl⟩ : ∃ m', f = m' + 1 := ⟨f - 1, by omega⟩
    rcases q12_isBrought (n := n) hn0 (by omega) hO hOW hpl htg hB hSH hop hq h20 h0 hR with ⟨a1, r1, a2, a3', a4⟩ | ⟨l, r1, a1, -⟩
    · obtain ⟨r', b1, b2⟩ := brRef (a3 := a3) hO hOW hpl htg hB hSH hop hno e (n + 1) f r1 (by omega) (by omega) (by omega) (by rw [a4]; exact hq) (by rw [a3'.1 0 20 (by unfold scR sc0; omega)]; exact h20) (by rw [a4]; exact h0) (by rw [rr_cg a4]; exact hR)
      refine ⟨r', ?_, a3'.tr b2⟩
      rw [fX12_bring_L38, if_neg (show ¬ (4 : Int32) ≤ nI n from fun z => absurd ((nI_leI (a := 4) (by decide) (by omega)).mp z) (by omega)), a2, pu_bd, if_pos (show nI 0 = (0 : Int32) from rfl), pu_let, show nI n + (1 : Int32) = nI (n + 1) from nI_add n 1]
      exact b1
    · rw [hno n] at a1; cases a1
theorem brBoth {a3 : Int32} {B : Nat} {X : Xst} (h3 : (-1 : Int32) ≤ a3 ∧ a3 ≤ 2) (hO : O ≤ 48) (hOW : O = 3 * nW) (hpl : pl < 4) (htg : tg < 6) (hB : B + 2997 ≤ 1500000000) (hV : okV ρ0) (hSH : ShF q ρ0 pl SH) (hop : ∀ o, o < O → op o = !brd q ρ0 (o / 3) pl (o % 3 + 1)) (hld : LdX bl tg ld) (hbl : ∀ s, s < 6 → bl s < 6 → s < bl s) : ∀ (e n fc fr M : Nat) (g r : am_G), n + e = 4 → 0 < n → e < fc → e < fr → M ≤ 700000 * n → (∀ m, 1 ≤ m → m < n → brX O op SH hd bl gg tg true m X = none) → SVl q ρ0 O pl tg op SH hd bl gg ld B 0 X M g → LawR (am_I r 2) q → am_I r 0 20 = nI 0 → am_I r 2 0 = nI nW → RwB q ρ0 hd bl gg B X (rr r) → ∃ v g' r', fX11_bring_L64 (KBc a3) a3 fc (nI n) g = some (v, g') ∧ fX12_bring_L38 (KBr a3) (nI tg) (nI pl) a3 fr (nI n) r = some (v, r') ∧ FcB g g' ∧ FrT r r'
  | 0, n, fc, fr, M, g, r, he, hn0, hfc, hfr, hM, hm, hS, hq, h20, h0, hR => by
    obtain ⟨fc, rfl⟩ : ∃ m', fc = m' + 1 := ⟨fc - 1, by omega⟩
    obtain ⟨fr, rfl⟩ : ∃ m', fr = m' + 1 := ⟨fr - 1, by omega⟩
    obtain rfl : n = 4 := by omega
    refine ⟨-1, g, r, ?_, ?_, FcB.rf g, FrT.rf r⟩
    · rw [fX11_bring_L64, if_pos (show (3 : Int32) < nI 4 by decide)]
    · rw [fX12_bring_L38, if_pos (show (4 : Int32) ≤ nI 4 by decide)]
  | e + 1, n, fc, fr, M, g, r, he, hn0, hfc, hfr, hM, hm, hS, hq, h20, h0, hR => by
    obtain ⟨fc, rfl⟩ : ∃ m', fc = m' + 1 := ⟨fc - 1, by omega⟩
    obtain ⟨fr, rfl⟩ : ∃ m', fr = m' + 1 := ⟨fr - 1, by omega⟩
    obtain ⟨d, rfl⟩ : ∃ d, n = d + 1 := ⟨n - 1, by omega⟩
    have hLU := LU_le (d + 1) (by omega)
    have hmid := brX_mid (O := O) (op := op) (SH := SH) (hd := hd) (bl := bl) (gg := gg) (tg := tg) (d + 1) X hm
    have hsr := srS (Z := 2000000000) (Nat.le_refl _) hO hpl hV hSH htg hld hbl d 0 64 0 B M X g (by omega) (by omega) (by omega) (c999c hB (by omega)) (by omega) (fun o z => absurd z (by omega)) hS
    rw [← hmid] at hsr
    have eC : fX11_bring_L64 (KBc a3) a3 (fc + 1) (nI (d + 1)) g = am_bd (fX1_search 64 (nI 0) (nI (d + 1)) (nI 0) g) fun v25 g26 => if v25 = 0 then (am_let (nI (d + 1) + (1 : Int32)) fun x29 => fX11_bring_L64 (KBc a3) a3 fc x29 g26) else KBc a3 (nI (d + 1)) g26 := by
      rw [fX11_bring_L64, if_neg (show ¬ (3 : Int32) < nI (d + 1) from fun z => absurd ((nI_ltI (a := 3) (by decide) (by omega)).mp z) (by omega))]
      rfl
    have eR : fX12_bring_L38 (KBr a3) (nI tg) (nI pl) a3 (fr + 1) (nI (d + 1)) r = am_bd (fX12_isBrought (nI tg) (nI pl) (nI (d + 1)) r) fun v19 g20 => if v19 = 0 then (am_let (nI (d + 1) + (1 : Int32)) fun x23 => fX12_bring_L38 (KBr a3) (nI tg) (nI pl) a3 fr x23 g20) else KBr a3 (nI (d + 1)) g20 := by
      rw [fX12_bring_L38, if_neg (show ¬ (4 : Int32) ≤ nI (d + 1) from fun z => absurd ((nI_leI (a := 4) (by decide) (by omega)).mp z) (by omega))]
    rw [eC, eR]
    rcases q12_isBrought (n := d + 1) hn0 (by omega) hO hOW hpl htg hB hSH hop hq h20 h0 hR with ⟨a1, r1, a2, a3', a4⟩ | ⟨l, r1, a1, a2, a3', a4⟩
    · rcases hsr with ⟨b1, g1, b2, b3, b4, b5⟩ | ⟨l, g1, b1, -⟩
      · rw [b2, pu_bd, if_pos (show nI 0 = (0 : Int32) from rfl), pu_let, a2, pu_bd, if_pos (show nI 0 = (0 : Int32) from rfl), pu_let, show nI (d + 1) + (1 : Int32) = nI (d + 1 + 1) from nI_add _ 1]
        obtain ⟨v, g', r', c1, c2, c3, c4⟩ := brBoth h3 hO hOW hpl htg hB hV hSH hop hld hbl e (d + 1 + 1) fc fr (M + LUf (d + 1)) g1 r1 (by omega) (by omega) (by omega) (by omega) (by omega) (fun m m1 m2 => by
          by_cases z : m = d + 1
          · rw [z]; exact a1
          · exact hm m m1 (by omega)) (hS.fs b3 b4 b5) (by rw [a4]; exact hq) (by rw [a3'.1 0 20 (by unfold scR sc0; omega)]; exact h20) (by rw [a4]; exact h0) (by rw [rr_cg a4]; exact hR)
        exact ⟨v, g', r', c1, c2, b3.B.tr c3, a3'.tr c4⟩
      · rw [a1] at b1; cases b1
    · rcases hsr with ⟨b1, -⟩ | ⟨l', g1, b1, b2, b3, b4⟩
      · rw [a1] at b1; cases b1
      · obtain rfl : l' = l := by rw [a1] at b1; cases b1; rfl
        obtain ⟨v, k1, k2⟩ := KB_eq (a3 := a3) h3 (by omega) (brX_len (d + 1) X l' a1) b4 a4
        rw [b2, pu_bd, if_neg (show ¬ nI 1 = (0 : Int32) by decide), a2, pu_bd, if_neg (show ¬ nI 1 = (0 : Int32) by decide)]
        exact ⟨v, g1, r1, k1, k2, b3.B, a3'⟩
end BRM
theorem m_bring {t : Nat} (ht : t < 512) {gc gr : am_G} (h : Rel t gc gr) (a1 a2 a3 : Int32) : ∃ (v : Int32) (gc1 gr1 : am_G), fX11_bring a1 a2 a3 gc = some (v, gc1) ∧ fX12_bring a1 a2 a3 gr = some (v, gr1) ∧ Rel (t + 1) gc1 gr1 := by
  have hfu : am_fu = 1048576 := rfl
  have hT := RelM.thr h
  have no : Rel (t + 1) gc (thr gr) := Rel.nx hT
  unfold fX11_bring fX12_bring
  rw [pu_let, show am_si gr 0 0 (0 : Int32) = thr gr from rfl, q11_isSlope, pu_bd, q12_isSlope, pu_bd]
  by_cases h1 : nI 0 ≤ a1 ∧ a1 ≤ nI 5
  rotate_left
  · rw [pb_f h1, if_pos (show nI 0 = (0 : Int32) from rfl), if_pos (show nI 0 = (0 : Int32) from rfl)]
    exact ⟨_, _, _, rfl, rfl, no⟩
  rw [pb_t h1, if_neg (show ¬ nI 1 = (0 : Int32) by decide), if_neg (show ¬ nI 1 = (0 : Int32) by decide), q11_isPlace, pu_bd, q12_isPlace, pu_bd]
  by_cases h2 : nI 0 ≤ a2 ∧ a2 ≤ nI 3
  rotate_left
  · rw [pb_f h2, if_pos (show nI 0 = (0 : Int32) from rfl), if_pos (show nI 0 = (0 : Int32) from rfl)]
    exact ⟨_, _, _, rfl, rfl, no⟩
  rw [pb_t h2, if_neg (show ¬ nI 1 = (0 : Int32) by decide), if_neg (show ¬ nI 1 = (0 : Int32) by decide), q11_within, pu_bd, show (-1 : Int64) = (-1 : Int32).toInt64 from rfl, show (2 : Int64) = (2 : Int32).toInt64 from rfl, q12_in, pu_bd]
  by_cases h3 : (-1 : Int32) ≤ a3 ∧ a3 ≤ 2
  rotate_left
  · rw [pb_f h3, if_pos (show nI 0 = (0 : Int32) from rfl), if_pos (show nI 0 = (0 : Int32) from rfl)]
    exact ⟨_, _, _, rfl, rfl, no⟩
  rw [pb_t h3, if_neg (show ¬ nI 1 = (0 : Int32) by decide), if_neg (show ¬ nI 1 = (0 : Int32) by decide)]
  obtain ⟨tg, htg5, rfl⟩ := nn_rng (n := 5) (by decide) h1
  obtain ⟨pl, hpl3, rfl⟩ := nn_rng (n := 3) (by decide) h2
  have htg : tg < 6 := by omega
  have hpl : pl < 4 := by omega
  obtain ⟨nW, hnW, er0, ec0⟩ := RelM.cntw hT
  obtain ⟨q, hq, hq'⟩ := RelM.law hT
  have hO := hT.2.1.okR
  have hV := hO.ov
  have hr := hT.1.row
  have hB : 239760 * t + 2997 ≤ 1500000000 := by omega
  -- the numbers
  have hDx : ∃ (hd bl : Nat → Nat) (gg : Nat → Bool), FxR hd bl gg (rr (thr gr)) := by
    have ex : ∀ s, ∃ z : Nat × Nat × Bool, s < 6 → z.1 ≤ 9999 ∧ rr (thr gr) (10 + 10 * s + 1) = nI z.1 ∧ (z.2.1 < 6 → s < z.2.1 ∧ rr (thr gr) (10 + 10 * s + 2) = nI z.2.1) ∧ (¬ z.2.1 < 6 → rr (thr gr) (10 + 10 * s + 2) = -1) ∧ (z.2.2 = true ↔ rr (thr gr) (10 + 10 * s + 3) = nI 1) := fun s => by
      by_cases hs : s < 6
      · obtain ⟨m, m1, m2⟩ := hV.hold hs
        rcases hV.below hs with e | ⟨b, b1, b2, b3⟩
        · exact ⟨(m, 6, decide (rr (thr gr) (10 + 10 * s + 3) = nI 1)), fun _ => ⟨m1, m2, fun z => absurd (show 6 < 6 from z) (by decide), fun _ => e, decide_eq_true_iff⟩⟩
        · exact ⟨(m, b, decide (rr (thr gr) (10 + 10 * s + 3) = nI 1)), fun _ => ⟨m1, m2, fun _ => ⟨b1, b3⟩, fun z => absurd b2 z, decide_eq_true_iff⟩⟩
      · exact ⟨(0, 0, false), fun z => absurd z hs⟩
    exact ⟨fun s => (Classical.choose (ex s)).1, fun s => (Classical.choose (ex s)).2.1, fun s => (Classical.choose (ex s)).2.2, fun s hs => Classical.choose_spec (ex s) hs⟩
  obtain ⟨hd, bl, gg, hF⟩ := hDx
  have hbl : ∀ s, s < 6 → bl s < 6 → s < bl s := fun s hs hb => ((hF s hs).2.2.1 hb).1
  have hXx : ∃ X : Xst, PrR (239760 * t) (rr (thr gr)) X := by
    have ex : ∀ s, ∃ z : Nat × Nat, s < 6 → rr (thr gr) (10 + 10 * s + 0) = nI z.1 ∧ z.1 ≤ 9999 ∧ rr (thr gr) (10 + 10 * s + 8) = nI z.2 ∧ z.2 ≤ 239760 * t := fun s => by
      by_cases hs : s < 6
      · obtain ⟨a, a1, a2⟩ := hV.snow hs
        obtain ⟨b, b1, b2⟩ := okB_nat (by unfold stp; omega) (hO (10 + 10 * s + 8) (by omega)) (by omega)
        exact ⟨(a, b), fun _ => ⟨a2, a1, b2, b1⟩⟩
      · exact ⟨(0, 0), fun z => absurd z hs⟩
    exact ⟨(fun s => (Classical.choose (ex s)).1, fun s => (Classical.choose (ex s)).2), fun s hs => Classical.choose_spec (ex s) hs⟩
  obtain ⟨X, hX⟩ := hXx
  have hSx : ∃ SH : Nat → Nat → Nat → Nat, ShF q (rr (thr gr)) pl SH := by
    have ex : ∀ o s a, ∃ m, m ≤ 999 ∧ (o < 48 → s < 6 → a ≤ 9999 → shk q (am_up (rr (thr gr)) (10 + 10 * s + 0) (nI a)) (o / 3) pl (o % 3 + 1) s = nI m) := fun o s a => by
      by_cases hc : o < 48 ∧ s < 6 ∧ a ≤ 9999
      · obtain ⟨m, m1, m2⟩ := shk_rg (q := q) (hV.up (okAt_sn hc.2.1 hc.2.2)) (w := o / 3) (p := pl) (l := o % 3 + 1) (s := s) (by omega) hpl (by omega) hc.2.1
        exact ⟨m, m1, fun _ _ _ => m2⟩
      · exact ⟨0, by omega, fun z1 z2 z3 => absurd ⟨z1, z2, z3⟩ hc⟩
    exact ⟨fun o s a => Classical.choose (ex o s a), fun o s a => (Classical.choose_spec (ex o s a)).1, fun o ho s hs a ha => (Classical.choose_spec (ex o s a)).2 ho hs ha⟩
  obtain ⟨SH, hSH⟩ := hSx
  have hRw : RwB q (rr (thr gr)) hd bl gg (239760 * t) X (rr (thr gr)) := ⟨hO, AgB.rf _, hX, hF⟩
  have hop : ∀ o, o < 3 * nW → (fun o => !brd q (rr (thr gr)) (o / 3) pl (o % 3 + 1)) o = !brd q (rr (thr gr)) (o / 3) pl (o % 3 + 1) := fun _ _ => rfl
  have c9 : am_I gc 9 tg = rr (thr gr) (10 + 10 * tg + 2) := by rw [r_be (p := 2) htg, hr]
  have c10 : am_I gc 10 tg = rr (thr gr) (10 + 10 * tg + 3) := by rw [r_go (p := 2) htg, hr]
  rw [pe_gd (show tg < 6 from htg) (by decide), pu_jn]
  dsimp only
  rw [pe_clamp (show tg < 2147483648 by omega), c9, c10]
  have eKr : ∀ x r, fX12_bring_L38 (fun (x24 : Int32) (g25 : am_G) =>
          if a3 = (-1 : Int32) then (
            some (x24, g25))
          else (
            if x24 ≤ a3 then (
              some ((-1 : Int32), g25))
            else (
              am_gd (am_in a3 3) <|
              some (am_I g25 29 a3.toNatClampNeg, g25)))) (nI tg) (nI pl) a3 am_fu x r = fX12_bring_L38 (KBr a3) (nI tg) (nI pl) a3 am_fu x r := fun _ _ => congrArg (fun k => fX12_bring_L38 k (nI tg) (nI pl) a3 am_fu _ _) rfl
  rw [eKr]
  -- the search
  have main : ∃ (v : Int32) (gc1 gr1 : am_G), (am_bd (fX1_begin (nI tg) (nI pl) gc) fun u17 g18 =>
          fX11_bring_L64 (fun (x30 : Int32) (g31 : am_G) =>
            if a3 = (-1 : Int32) then (
              some (x30, g31))
            else (
              if x30 ≤ a3 then (
                some ((-1 : Int32), g31))
              else (
                am_gd (am_in a3 3) <|
                some (am_I g31 61 a3.toNatClampNeg, g31)))) a3 am_fu (1 : Int32) g18) = some (v, gc1) ∧ fX12_bring_L38 (KBr a3) (nI tg) (nI pl) a3 am_fu (1 : Int32) (thr gr) = some (v, gr1) ∧ Rel (t + 1) gc1 gr1 := by
    obtain ⟨g1, b1, b2, b3⟩ := q1_begin (q := q) (ρ0 := rr (thr gr)) (O := 3 * nW) (op := fun o => !brd q (rr (thr gr)) (o / 3) pl (o % 3 + 1)) (SH := SH) (g := gc) hnW rfl hpl htg hV hop ec0 hq hr hT.shr.2.2.2.2.2 hF hX
    obtain ⟨v, g2, r2, c1, c2, c3, c4⟩ := brBoth (a3 := a3) h3 (show 3 * nW ≤ 48 by omega) rfl hpl htg hB hV hSH hop (ldA_X htg hbl) hbl 3 1 am_fu am_fu 0 g1 (thr gr) (by omega) (by omega) (by omega) (by omega) (by omega) (fun m m1 m2 => absurd m2 (by omega)) b3 hq' hT.ord er0 hRw
    refine ⟨v, g2, r2, ?_, c2, Rel.nx (hT.scrT (b2.tr c3).S c4)⟩
    rw [b1, pu_bd]
    exact c1
  by_cases hb : rr (thr gr) (10 + 10 * tg + 2) = -1
  · rw [if_pos hb, pe_gd (show tg < 6 from htg) (by decide)]
    by_cases hg : rr (thr gr) (10 + 10 * tg + 3) = (0 : Int32)
    · rw [if_pos hg]
      have hno : ¬ (bl tg < 6 ∨ gg tg = true) := by
        rintro (z | z)
        · have := ((hF tg htg).2.2.1 z).2
          rw [hb] at this
          exact nI_m1ne (a := bl tg) (by omega) this.symm
        · have := (hF tg htg).2.2.2.2.mp z
          rw [hg] at this
          exact absurd this (by decide)
      obtain ⟨r', c1, c2⟩ := brRef (a3 := a3) (op := fun o => !brd q (rr (thr gr)) (o / 3) pl (o % 3 + 1)) (O := 3 * nW) (show 3 * nW ≤ 48 by omega) rfl hpl htg hB hSH hop (brX_no htg hno · X) 3 1 am_fu (thr gr) (by omega) (by omega) (by omega) hq' hT.ord er0 hRw
      exact ⟨-1, gc, r', rfl, c1, Rel.nx (hT.scrT (FcS.rf gc) c2)⟩
    · rw [if_neg hg]
      exact main
  · rw [if_neg hb]
    exact main
