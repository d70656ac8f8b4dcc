/-! ===== plan: the class's search, the whole ===== -/
section PLT
variable {T N : Nat} {opD : Nat → Nat → Bool} {shD : Nat → Nat → Nat → Nat} {b : Nat → Nat → Int}
theorem usd_le {c : Nat → Nat} {d k s : Nat} (hk : k ≤ 6) (h : ∀ j, j < k → shD d j s ≤ 999) : usd shD c d k s ≤ 6000 := by
  have : usd shD c d k s ≤ k * 999 := smW_le fun j hj => by
    split
    · exact h j hj
    · omega
  omega
def Lvp (T N : Nat) (opD : Nat → Nat → Bool) (shD : Nat → Nat → Nat → Nat) (b : Nat → Nat → Int) (k : Nat) (c : Nat → Nat) (g : am_G) : Prop := PDt T N opD shD g ∧ (∀ j, j < k → am_I g 49 j = nI (c j)) ∧ RmP N shD b k c g ∧ (∀ j, j < k → c j < N) ∧ ∀ j, j < k → aPl opD shD b j c (c j) = true
theorem SPl.fr {g g' : am_G} {st : StQ} (h : SPl T g st) (h45 : am_I g' 45 8 = am_I g 45 8) (h50 : am_I g' 50 = am_I g 50) : SPl T g' st := by
  unfold SPl at h ⊢
  rw [h45, h50]
  exact h
theorem psL {k d : Nat} {c : Nat → Nat} {rec : Int32 → am_G → Option (Unit × am_G)} (hT : T ≤ 6) (hN : N ≤ 4) (hsh : ∀ d, d < N → ∀ k, k < T → ∀ s, s < 6 → shD d k s ≤ 999) (hb : ∀ d, d < N → ∀ s, s < 6 → -1000000000 ≤ b d s ∧ b d s ≤ 1000000000) (hkd : k + (d + 1) = T)
    (hrec : ∀ (c' : Nat → Nat) (st : StQ) (g : am_G), Lvp T N opD shD b (k + 1) c' g → SPl T g st → st.1 + (rwL N (aPl opD shD b) d (k + 1) c').length ≤ 1000000 → ∃ g', rec (nI (k + 1)) g = some ((), g') ∧ SPl T g' (fldQ (allA (aPl opD shD b) T) st (rwL N (aPl opD shD b) d (k + 1) c')) ∧ FYp g g' ∧ RmP N shD b (k + 1) c' g' ∧ ∀ j, j < k + 1 → am_I g' 49 j = am_I g 49 j) :
    ∀ (m w fu : Nat) (st : StQ) (g : am_G), w + m = N → m < fu → Lvp T N opD shD b k c g → SPl T g st → st.1 + (rwP (aPl opD shD b) (fun w => rwL N (aPl opD shD b) d (k + 1) (cup c k w)) k c m w).length ≤ 1000000 → ∃ g', fX4_search_L46 rec (nI k) fu (nI w) g = some ((), g') ∧ SPl T g' (fldQ (allA (aPl opD shD b) T) st (rwP (aPl opD shD b) (fun w => rwL N (aPl opD shD b) d (k + 1) (cup c k w)) k c m w)) ∧ FYp g g' ∧ RmP N shD b k c g' ∧ ∀ j, j < k → am_I g' 49 j = am_I g 49 j
  | 0, w, fu, st, g, hm, hfu, hLv, hS, hle => by
    obtain ⟨fu, rfl⟩ : ∃ m', fu = m' + 1 := ⟨fu - 1, by omega⟩
    refine ⟨g, ?_, hS, FYp.rf g, hLv.2.2.1, fun _ _ => rfl⟩
    rw [fX4_search_L46, hLv.1.2.1, if_pos ((nI_leI (by omega) (by omega)).mpr (by omega))]
  | m + 1, w, fu, st, g, hm, hfu, hLv, hS, hle => by
    obtain ⟨fu, rfl⟩ : ∃ m', fu = m' + 1 := ⟨fu - 1, by omega⟩
    have hwN : w < N := by omega
    have hkT : k < T := by omega
    have hfuu : am_fu = 1048576 := rfl
    obtain ⟨hD, h49, hR, hcN, hcA⟩ := hLv
    obtain ⟨e47, e48⟩ := hD.2.2 w hwN k hkT
    have hshw := hsh w hwN k hkT
    rw [rwP, List.length_append] at hle
    have hrm : ∀ d, d < N → ∀ s, s < 6 → -1100000000 ≤ (am_I g 46 (6 * d + s)).toInt ∧ (am_I g 46 (6 * d + s)).toInt ≤ 1100000000 := fun d hd s hs => by
      have h1 := hR d hd s hs
      have h2 := hb d hd s hs
      have h3 := usd_le (shD := shD) (c := c) (d := d) (k := k) (s := s) (by omega) (fun j hj => hsh d hd j (by omega) s hs)
      omega
    have step : ∃ g1, fX4_search_L46 rec (nI k) (fu + 1) (nI w) g = fX4_search_L46 rec (nI k) fu (nI (w + 1)) g1 ∧ SPl T g1 (fldQ (allA (aPl opD shD b) T) st (if aPl opD shD b k c w = true then rwL N (aPl opD shD b) d (k + 1) (cup c k w) else [])) ∧ FYp g g1 ∧ RmP N shD b k c g1 ∧ ∀ j, j < k → am_I g1 49 j = am_I g 49 j := by
      have ew : nI w + (1 : Int32) = nI (w + 1) := nI_add w 1
      rw [fX4_search_L46, hD.2.1, if_neg (fun z => absurd ((nI_leI (by omega) (by omega)).mp z) (by omega)), i6, pu_let, pe_gd (show 6 * w + k < 24 by omega) (by decide), pu_jn]
      dsimp only
      rw [pe_clamp (show 6 * w + k < 2147483648 by omega), e47]
      by_cases ho : opD w k = true
      · rw [if_pos ho, if_neg (show ¬ nI 1 = (0 : Int32) by decide)]
        have hf := pfits hwN hN hkT hT hshw hD 6 0 am_fu (by omega) (by omega) (fun t ht => absurd ht (by omega))
        have hiff : (∀ t, t < 6 → ((shD w k t : Nat) : Int) ≤ (am_I g 46 (6 * w + t)).toInt) ↔ okPl shD b k c w := by
          constructor
          · intro z s hs
            have h1 := z s hs
            rw [hR w hwN s hs] at h1
            omega
          · intro z s hs
            have h1 := z s hs
            rw [hR w hwN s hs]
            omega
        unfold fX4_fits
        by_cases hok : okPl shD b k c w
        · have hA : aPl opD shD b k c w = true := by unfold aPl; rw [ho, decide_eq_true hok]; rfl
          rw [if_pos hA] at hle
          rw [if_pos hA, show fX4_fits_L2 (nI w) (nI (6 * w + k)) am_fu (0 : Int32) g = some (nI 1, g) from hf.1 (hiff.mpr hok), pu_bd, if_neg (show ¬ nI 1 = (0 : Int32) by decide), pe_gd (show k < 6 by omega) (by decide), pu_let, pe_clamp (show k < 2147483648 by omega)]
          have f1 : FYp g (am_si g 49 k (nI w)) := ⟨rfl, fun a j _ _ z _ => by rw [pI_si_ne _ _ _ z]⟩
          obtain ⟨g2, x1, x2, x3⟩ := pstr (sg := -1) (a3 := -1) (by decide) (Or.inr rfl) hwN hN hkT hT hshw 6 0 am_fu (am_si g 49 k (nI w)) (by omega) (by omega) (hD.fy f1) (fun t _ ht => by rw [pe_ine (by decide)]; exact hrm w hwN t ht)
          unfold fX4_strainBy
          rw [show fX4_strainBy_L3 (nI w) (nI (6 * w + k)) (-1) am_fu (0 : Int32) (am_si g 49 k (nI w)) = some ((), g2) from x1, pu_bd, show nI k + (1 : Int32) = nI (k + 1) from nI_add k 1]
          have f2 : FYp g g2 := f1.tr ⟨x2.1, fun a j _ y _ _ => x2.2 a j (fun z => y z.1)⟩
          have c49 : ∀ j, am_I g2 49 j = am_I (am_si g 49 k (nI w)) 49 j := fun j => x2.2 49 j (by omega)
          have R2 : RmP N shD b (k + 1) (cup c k w) g2 := fun d hd s hs => by
            rw [usd_cup]
            by_cases e : w = d
            · subst e
              rw [if_pos rfl, x3 s (by omega) hs, pe_ine (by decide), hR w hwN s hs]
              omega
            · rw [if_neg e, Nat.add_zero, x2.2 46 _ (by omega), pe_ine (by decide), hR d hd s hs]
          have L2 : Lvp T N opD shD b (k + 1) (cup c k w) g2 := by
            refine ⟨hD.fy f2, fun j hj => ?_, R2, fun j hj => ?_, fun j hj => ?_⟩
            · rw [c49]
              by_cases e : j = k
              · subst e; rw [pe_ieq, cup_eq]
              · rw [pe_ik e, cup_ne e]; exact h49 j (by omega)
            · by_cases e : j = k
              · subst e; rw [cup_eq]; exact hwN
              · rw [cup_ne e]; exact hcN j (by omega)
            · by_cases e : j = k
              · subst e
                rw [cup_eq, aPl_cg j (cup c j w) c w (fun i hi => cup_ne (by omega))]
                exact hA
              · rw [cup_ne e, aPl_cg j (cup c k w) c (c j) (fun i hi => cup_ne (by omega))]
                exact hcA j (by omega)
          obtain ⟨g3, y1, y2, y3, y4, y5⟩ := hrec (cup c k w) st g2 L2 (hS.fr (by rw [x2.2 45 8 (by omega), pe_ine (by decide)]) (by funext j; rw [x2.2 50 j (by omega), pe_ine (by decide)])) (by omega)
          have hrm3 : ∀ t, t < 6 → -1100000000 ≤ (am_I g3 46 (6 * w + t)).toInt ∧ (am_I g3 46 (6 * w + t)).toInt ≤ 1100000000 := fun s hs => by
            have h1 := y4 w hwN s hs
            have h2 := hb w hwN s hs
            have h3 := usd_le (shD := shD) (c := cup c k w) (d := w) (k := k + 1) (s := s) (by omega) (fun j hj => hsh w hwN j (by omega) s hs)
            omega
          have f3 := f2.tr y3
          obtain ⟨g4, z1, z2, z3⟩ := pstr (sg := 1) (a3 := 1) (by decide) (Or.inl rfl) hwN hN hkT hT hshw 6 0 am_fu g3 (by omega) (by omega) (hD.fy f3) (fun t _ ht => hrm3 t ht)
          rw [y1, pu_bd, show fX4_strainBy_L3 (nI w) (nI (6 * w + k)) 1 am_fu (0 : Int32) g3 = some ((), g4) from z1, pu_bd, pu_let, ew]
          refine ⟨g4, rfl, y2.fr (z2.2 45 8 (by omega)) (funext fun j => z2.2 50 j (by omega)), f3.tr ⟨z2.1, fun a j _ y _ _ => z2.2 a j (fun q => y q.1)⟩, fun d hd s hs => ?_, fun j hj => ?_⟩
          · have h1 := y4 d hd s hs
            rw [usd_cup] at h1
            by_cases e : w = d
            · subst e
              rw [if_pos rfl] at h1
              rw [z3 s (by omega) hs, h1]
              omega
            · rw [if_neg e, Nat.add_zero] at h1
              rw [z2.2 46 _ (by omega), h1]
          · rw [z2.2 49 j (by omega), y5 j (by omega), c49, pe_ik (by omega)]
        · have hA : ¬ aPl opD shD b k c w = true := by unfold aPl; rw [decide_eq_false hok, Bool.and_false]; decide
          rw [if_neg hA, show fX4_fits_L2 (nI w) (nI (6 * w + k)) am_fu (0 : Int32) g = some (nI 0, g) from hf.2 (fun z => hok (hiff.mp z)), pu_bd, if_pos (show nI 0 = (0 : Int32) from rfl), pu_let, ew]
          exact ⟨g, rfl, hS, FYp.rf g, hR, fun _ _ => rfl⟩
      · have hA : ¬ aPl opD shD b k c w = true := by unfold aPl; rw [Bool.eq_false_iff.mpr ho, Bool.false_and]; decide
        rw [if_neg ho, if_pos (show nI 0 = (0 : Int32) from rfl), pu_let, ew, if_neg hA]
        exact ⟨g, rfl, hS, FYp.rf g, hR, fun _ _ => rfl⟩
    obtain ⟨g1, e1, s1, f1, r1, q1⟩ := step
    have hq := fldQ_le (P := allA (aPl opD shD b) T) (if aPl opD shD b k c w = true then rwL N (aPl opD shD b) d (k + 1) (cup c k w) else []) st
    obtain ⟨g2, e2, s2, f2, r2, q2⟩ := psL hT hN hsh hb hkd hrec m (w + 1) fu _ g1 (by omega) (by omega) ⟨hD.fy f1, fun j hj => by rw [q1 j hj]; exact h49 j hj, r1, hcN, hcA⟩ s1 (by omega)
    refine ⟨g2, e1.trans e2, ?_, f1.tr f2, r2, fun j hj => (q2 j hj).trans (q1 j hj)⟩
    rw [rwP, fldQ_app]
    exact s2
theorem psrch (hT : T ≤ 6) (hN : N ≤ 4) (hsh : ∀ d, d < N → ∀ k, k < T → ∀ s, s < 6 → shD d k s ≤ 999) (hb : ∀ d, d < N → ∀ s, s < 6 → -1000000000 ≤ b d s ∧ b d s ≤ 1000000000) : ∀ (d k m : Nat) (c : Nat → Nat) (st : StQ) (g : am_G), k + d = T → d < m → Lvp T N opD shD b k c g → SPl T g st → st.1 + (rwL N (aPl opD shD b) d k c).length ≤ 1000000 → ∃ g', fX4_search m (nI k) g = some ((), g') ∧ SPl T g' (fldQ (allA (aPl opD shD b) T) st (rwL N (aPl opD shD b) d k c)) ∧ FYp g g' ∧ RmP N shD b k c g' ∧ ∀ j, j < k → am_I g' 49 j = am_I g 49 j
  | 0, k, m, c, st, g, hd, hm, hLv, hS, hle => by
    obtain ⟨m, rfl⟩ : ∃ m', m = m' + 1 := ⟨m - 1, by omega⟩
    obtain rfl : k = T := by omega
    obtain ⟨hD, h49, hR, hcN, hcA⟩ := hLv
    have hP : allA (aPl opD shD b) k c = true := decide_eq_true hcA
    have e : fldQ (allA (aPl opD shD b) k) st (rwL N (aPl opD shD b) 0 k c) = upQ st c := by rw [rwL, fldQ, fldQ, if_pos hP]
    rw [e, fX4_search, bX4_search, hD.1, if_neg (fun z => absurd ((nI_ltI (by omega) (by omega)).mp z) (by omega)), hS.1]
    rw [rwL] at hle
    have hl1 : st.1 + 1 ≤ 1000000 := hle
    by_cases h0 : st.1 = 0
    · have e8 : am_I (cpo g 49 50 0 6) 45 8 = nI 0 := by
        unfold cpo
        rw [pI_sr_ne _ _ (by decide), hS.1, h0]
      rw [if_pos (by rw [h0]; rfl), pu_gd (show am_co (0 : Int32) (0 : Int32) (6 : Int32) 6 6 = true by decide), pu_let, show (0 : Int32).toNatClampNeg = 0 from rfl, show (6 : Int32).toNatClampNeg = 6 from rfl, show am_cp g 49 50 0 0 6 = cpo g 49 50 0 6 from cp_cpo g 49 50 0 6, pu_let, e8, show nI 0 + (1 : Int32) = nI 1 from rfl]
      have f : FYp g (am_si (cpo g 49 50 0 6) 45 8 (nI 1)) := ⟨rfl, fun a j x _ _ w => by
        rw [pI_si, if_neg (fun z => x z)]
        unfold cpo
        rw [pI_sr_ne _ _ w]⟩
      refine ⟨_, rfl, ⟨by rw [pe_ieq]; unfold upQ; rw [h0], Or.inr fun j hj => ?_⟩, f, fun d hd' s hs => ?_, fun j hj => ?_⟩
      · rw [pe_ine (by decide)]
        unfold cpo upQ
        rw [pI_sr_row, if_pos (by omega), Nat.sub_zero]
        show am_I g 49 j = nI ((if st.1 = 0 then c else st.2) j)
        rw [if_pos h0]
        exact h49 j hj
      · rw [pe_ine (by decide)]
        unfold cpo
        rw [pI_sr_ne _ _ (by decide)]
        exact hR d hd' s hs
      · rw [pe_ine (by decide)]
        unfold cpo
        rw [pI_sr_ne _ _ (by decide)]
    · rw [if_neg (show ¬ nI st.1 = (0 : Int32) from fun z => h0 ((nn_eq (b := 0) (by omega) (by decide)).mp z)), pu_let, show nI st.1 + (1 : Int32) = nI (st.1 + 1) from nI_add _ 1]
      refine ⟨_, rfl, ⟨pe_ieq _ _ _ _, Or.inr fun j hj => ?_⟩, ⟨rfl, fun a j x _ _ _ => by rw [pI_si, if_neg (fun z => x z)]⟩, fun d hd' s hs => by rw [pe_ine (by decide)]; exact hR d hd' s hs, fun j hj => pe_ine (by decide)⟩
      rw [pe_ine (by decide)]
      show am_I g 50 j = nI ((if st.1 = 0 then c else st.2) j)
      rw [if_neg h0]
      rcases hS.2 with z | z
      · exact absurd z h0
      · exact z j hj
  | d + 1, k, m, c, st, g, hd, hm, hLv, hS, hle => by
    obtain ⟨m, rfl⟩ : ∃ m', m = m' + 1 := ⟨m - 1, by omega⟩
    have hfu : am_fu = 1048576 := rfl
    rw [rwL] at hle ⊢
    rw [fX4_search, bX4_search, hLv.1.1, if_pos (nI_lt (show k < T by omega) (by omega))]
    exact psL (rec := fX4_search m) hT hN hsh hb hd (fun c' st' g' h1 h2 h3 => psrch hT hN hsh hb d (k + 1) m c' st' g' (by omega) (by omega) h1 h2 h3) N 0 am_fu st g (by omega) (by omega) hLv hS hle
end PLT
