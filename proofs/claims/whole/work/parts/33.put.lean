theorem si_comm {g : am_G} {a b : Nat} (k : Nat) (x : Int32) (j : Nat) {y : Int32} (h : a ≠ b) : am_si (am_si g b j y) a k x = am_si (am_si g a k x) b j y := by
  have e : am_I (am_si (am_si g b j y) a k x) = am_I (am_si (am_si g a k x) b j y) := by
    funext c i
    rw [pI_si, pI_si, pI_si, pI_si]
    by_cases h1 : c = a ∧ i = k
    · rw [if_pos h1, if_pos h1, if_neg (fun z => h (h1.1.symm.trans z.1))]
    · rw [if_neg h1, if_neg h1]
  exact Prod.ext e rfl
def cpv (a1 a2 a3 : Int32) : Int32 :=
  if a2 = 0 then (if 0 ≤ a3 ∧ a3 ≤ 9999 then 1 else 0)
  else if a2 = 1 then (if 1 ≤ a3 ∧ a3 ≤ 9999 then 1 else 0)
  else if a2 = 2 then (if a3 = -1 then 1 else if a1 + 1 ≤ a3 ∧ a3 ≤ 5 then 1 else 0)
  else if a2 = 3 then (if 0 ≤ a3 ∧ a3 ≤ 1 then 1 else 0)
  else if 4 ≤ a2 ∧ a2 ≤ 7 then (if 0 ≤ a3 ∧ a3 ≤ 9 then 1 else 0) else 0
theorem s11_canPut (a1 a2 a3 : Int32) (g : am_G) : fX11_canPut a1 a2 a3 g = some (cpv a1 a2 a3, g) := by
  unfold fX11_canPut cpv
  simp only [s11_within, pu_bd, pu_gd (zb_ite _), ite10]
  repeat' split
  all_goals first | rfl | (simp_all; done)
theorem s12_canBe {s : Nat} (hs : s < 6) (a2 a3 : Int32) (g : am_G) : fX12_canBe (nI s) a2 a3 g = some (cpv (nI s) a2 a3, g) := by
  have e1 : (nI s).toInt64 + (1 : Int64) = (nI s + 1).toInt64 := by
    rcases (show s = 0 ∨ s = 1 ∨ s = 2 ∨ s = 3 ∨ s = 4 ∨ s = 5 by omega) with rfl | rfl | rfl | rfl | rfl | rfl <;> rfl
  unfold fX12_canBe cpv
  rw [e1, show (0 : Int64) = (0 : Int32).toInt64 from rfl, show (9999 : Int64) = (9999 : Int32).toInt64 from rfl, show (1 : Int64) = (1 : Int32).toInt64 from rfl, show (5 : Int64) = (5 : Int32).toInt64 from rfl, show (4 : Int64) = (4 : Int32).toInt64 from rfl, show (7 : Int64) = (7 : Int32).toInt64 from rfl, show (9 : Int64) = (9 : Int32).toInt64 from rfl]
  simp only [s12_inI, pu_bd, pu_gd (zb_ite _), ite10]
  repeat' split
  all_goals first | rfl | (simp_all; done)
theorem le_int {a b : Int32} (h : a ≤ b) : a.toInt ≤ b.toInt := Int32.le_iff_toInt_le.mp h
theorem cpv_ok {s : Nat} (hs : s < 6) {a2 a3 : Int32} (t : Nat) (h : ¬ cpv (nI s) a2 a3 = 0) : ∃ w, w < 8 ∧ a2 = nI w ∧ okAt t (10 + 10 * s + w) a3 := by
  have m0 : ∀ w, w < 10 → (10 + 10 * s + w - 10) % 10 = w := fun w hw => by omega
  have m1 : ∀ w, w < 10 → (10 + 10 * s + w - 10) / 10 = s := fun w hw => by omega
  unfold cpv at h
  by_cases h0 : a2 = 0
  · rw [if_pos h0] at h
    have h1 : 0 ≤ a3 ∧ a3 ≤ 9999 := Decidable.byContradiction fun z => h (if_neg z)
    refine ⟨0, by decide, h0, Or.inr (Or.inr (Or.inr ⟨?_, ?_⟩)), fun z => ?_⟩
    · unfold okLo; rw [if_neg (by omega), if_pos (by omega), m0 0 (by decide)]; simpa using le_int h1.1
    · unfold okHi; rw [m0 0 (by decide)]; have := le_int h1.2; (repeat rw [if_neg (by omega)]); rw [if_pos (by omega), if_pos rfl]; simpa using this
    · have := m0 0 (by decide); omega
  rw [if_neg h0] at h
  by_cases h0 : a2 = 1
  · rw [if_pos h0] at h
    have h1 : 1 ≤ a3 ∧ a3 ≤ 9999 := Decidable.byContradiction fun z => h (if_neg z)
    refine ⟨1, by decide, h0, Or.inr (Or.inr (Or.inr ⟨?_, ?_⟩)), fun z => ?_⟩
    · unfold okLo; rw [if_neg (by omega), if_pos (by omega), m0 1 (by decide)]; simpa using le_int h1.1
    · unfold okHi; rw [m0 1 (by decide)]; have := le_int h1.2; (repeat rw [if_neg (by omega)]); rw [if_pos (by omega), if_neg (by decide), if_pos rfl]; simpa using this
    · have := m0 1 (by decide); omega
  rw [if_neg h0] at h
  by_cases h0 : a2 = 2
  · rw [if_pos h0] at h
    have h1 : a3 = -1 ∨ (nI s + 1 ≤ a3 ∧ a3 ≤ 5) := by
      by_cases z : a3 = -1
      · exact Or.inl z
      · rw [if_neg z] at h
        exact Or.inr (Decidable.byContradiction fun z => h (if_neg z))
    have hs1 : (nI s + 1).toInt = s + 1 := by rw [nI_1]; exact nn_toInt (by omega)
    have h2 : -1 ≤ a3.toInt ∧ a3.toInt ≤ 5 := by
      rcases h1 with z | z
      · rw [z]; decide
      · have q1 := le_int z.1
        have q2 := le_int z.2
        rw [hs1] at q1
        have : (5 : Int32).toInt = 5 := rfl
        omega
    refine ⟨2, by decide, h0, Or.inr (Or.inr (Or.inr ⟨?_, ?_⟩)), fun _ => ?_⟩
    · unfold okLo; rw [if_neg (by omega), if_pos (by omega), m0 2 (by decide)]; simpa using h2.1
    · unfold okHi; rw [m0 2 (by decide)]; (repeat rw [if_neg (by omega)]); rw [if_pos (by omega), if_neg (by decide), if_neg (by decide), if_pos rfl]; exact h2.2
    · rcases h1 with z | z
      · exact Or.inl z
      · refine Or.inr ?_
        have q1 := le_int z.1
        rw [hs1] at q1
        rw [m1 2 (by decide)]
        omega
  rw [if_neg h0] at h
  by_cases h0 : a2 = 3
  · rw [if_pos h0] at h
    have h1 : 0 ≤ a3 ∧ a3 ≤ 1 := Decidable.byContradiction fun z => h (if_neg z)
    refine ⟨3, by decide, h0, Or.inr (Or.inr (Or.inr ⟨?_, ?_⟩)), fun z => ?_⟩
    · unfold okLo; rw [if_neg (by omega), if_pos (by omega), m0 3 (by decide)]; simpa using le_int h1.1
    · unfold okHi; rw [m0 3 (by decide)]; have := le_int h1.2; (repeat rw [if_neg (by omega)]); rw [if_pos (by omega), if_neg (by decide), if_neg (by decide), if_neg (by decide), if_pos rfl]; simpa using this
    · have := m0 3 (by decide); omega
  rw [if_neg h0] at h
  have h2 : 4 ≤ a2 ∧ a2 ≤ 7 := Decidable.byContradiction fun z => h (if_neg z)
  rw [if_pos h2] at h
  have h1 : 0 ≤ a3 ∧ a3 ≤ 9 := Decidable.byContradiction fun z => h (if_neg z)
  obtain ⟨w, hw, ew⟩ := nn_rng (n := 7) (by decide) (x := a2) ⟨Int32.le_trans (by decide) h2.1, h2.2⟩
  have hw4 : 4 ≤ w := by
    have := h2.1
    rw [ew] at this
    exact (nI_leI (a := 4) (by decide) (by omega)).mp this
  refine ⟨w, by omega, ew, Or.inr (Or.inr (Or.inr ⟨?_, ?_⟩)), fun z => ?_⟩
  · unfold okLo; rw [if_neg (by omega), if_pos (by omega), m0 w (by omega), if_neg (by omega), if_neg (by omega)]; simpa using le_int h1.1
  · unfold okHi; rw [m0 w (by omega)]; have := le_int h1.2; (repeat rw [if_neg (by omega)]); rw [if_pos (by omega), if_neg (by omega), if_neg (by omega), if_neg (by omega), if_neg (by omega), if_pos (by omega)]; simpa using this
  · have := m0 w (by omega); omega
theorem putC {s w : Nat} (hs : s < 6) (hw : w < 8) (a3 : Int32) (g : am_G) (h : cpv (nI s) (nI w) a3 ≠ 0) : fX11_put (nI s) (nI w) a3 g = some (am_I g (hillC s w).1 (hillC s w).2, accC (am_si (am_si g (hillC s w).1 (hillC s w).2 a3) 26 3 0)) := by
  have hi : am_in (nI s) 6 = true := nn_in hs (by decide)
  have hc : (nI s).toNatClampNeg = s := nI_clamp (by omega)
  have h05 : (0 : Int32) ≤ nI s ∧ nI s ≤ 5 := ⟨nI_le (a := 0) (Nat.zero_le _) (by omega), nI_le (b := 5) (by omega) (by decide)⟩
  unfold fX11_put
  rw [s11_isSlope, pu_bd, if_pos h05, if_neg (by decide), s11_canPut, pu_bd, if_neg h, s11_ofSlope hs (by omega), pu_bd]
  simp only [pu_let, s8_clear, pu_bd, s11_accepted]
  rw [pu_gd hi, pu_gd hi, pu_gd hi, pu_gd hi, hc]
  rcases (show w = 0 ∨ w = 1 ∨ w = 2 ∨ w = 3 ∨ (4 ≤ w ∧ w < 8) by omega) with rfl | rfl | rfl | rfl | hw4
  · rfl
  · rfl
  · rfl
  · rfl
  · have e : nI s * (4 : Int32) + nI w - (4 : Int32) = nI (4 * s + w - 4) := by
      rw [show (4 : Int32) = nI 4 from rfl, nn_mul, nI_add, nn_sub (by omega)]
      congr 1
      omega
    have hne : ∀ c : Nat, c < 2 ^ 31 → w ≠ c → ¬ nI w = nI c := fun c hc h z => h ((nn_eq (by omega) hc).mp z)
    have n0 : ¬ nI w = (0 : Int32) := hne 0 (by decide) (by omega)
    have n1 : ¬ nI w = (1 : Int32) := hne 1 (by decide) (by omega)
    have n2 : ¬ nI w = (2 : Int32) := hne 2 (by decide) (by omega)
    have n3 : ¬ nI w = (3 : Int32) := hne 3 (by decide) (by omega)
    rw [e, pu_gd (nn_in (by omega) (by decide)), nI_clamp (by omega), if_neg n0, if_neg n1, if_neg n2, if_neg n3]
    have eh : hillC s w = (11, 4 * s + w - 4) := by
      unfold hillC
      rw [if_neg (by omega), if_neg (by omega), if_neg (by omega), if_neg (by omega), if_neg (by omega), if_neg (by omega)]
    rw [eh]
theorem hill_lt {s w : Nat} (hs : s < 6) (hw : w < 10) : (hillC s w).1 < 26 := by
  unfold hillC
  repeat' split
  all_goals (show _ < 26; omega)
theorem m_put {t : Nat} {gc gr : am_G} (h : Rc gc gr) (hi : Inv t gr) (a1 a2 a3 : Int32) : ∃ (v : Int32) (gc1 gr1 : am_G), fX11_put a1 a2 a3 gc = some (v, gc1) ∧ fX12_put a1 a2 a3 gr = some (v, gr1) ∧ Sm t gc gr gc1 gr1 := by
  by_cases hs : 0 ≤ a1 ∧ a1 ≤ 5
  · obtain ⟨s, hs6, rfl⟩ := nn_rng (n := 5) (by decide) hs
    have hs6 : s < 6 := by omega
    by_cases hv : cpv (nI s) a2 a3 = 0
    · refine ⟨-nI 1, refC 1 gc, refR 1 (thr gr), ?_, ?_, Sm.ref h hi (by decide)⟩
      · unfold fX11_put
        rw [s11_isSlope, pu_bd, if_pos hs, if_neg (by decide), s11_canPut, pu_bd, if_pos hv, show (-1 : Int32) = -nI 1 from rfl, s11_refused (by decide), pu_bd]
      · unfold fX12_put
        rw [pu_let, s12_isSlope, pu_bd, if_pos hs, if_neg (by decide), s12_canBe hs6, pu_bd, if_pos hv, show (-1 : Int32) = -nI 1 from rfl, s12_tellN (by decide) (by decide), pu_bd]
        rfl
    · obtain ⟨w, hw, rfl, hok⟩ := cpv_ok hs6 (t + 1) hv
      have hq := om_hill s hs6 w (by omega)
      have hlt := hill_lt hs6 (show w < 10 by omega)
      have hq' : ((2, 10 + 10 * s + w), ((hillC s w).1, (hillC s w).2)) ∈ om := hq
      have eq : am_I gc (hillC s w).1 (hillC s w).2 = am_I gr 2 (10 + 10 * s + w) := h _ hq
      refine ⟨am_I gr 2 (10 + 10 * s + w), _, accR (am_si (am_si (thr gr) 0 8 0) 2 (10 + 10 * s + w) a3), (putC hs6 hw a3 gc hv).trans (by rw [eq]), ?_, ?_⟩
      · unfold fX12_put
        rw [pu_let, s12_isSlope, pu_bd, if_pos hs, if_neg (by decide), s12_canBe hs6, pu_bd, if_neg hv, pu_let, s12_slopeAt, pu_bd, s12_change (by omega), pu_bd]
        rfl
      · have e2 : am_I (accR (am_si (am_si (thr gr) 0 8 0) 2 (10 + 10 * s + w) a3)) 2 = am_up (am_I gr 2) (10 + 10 * s + w) a3 := by
          unfold accR
          rw [pI_si_ne _ _ _ (by decide), pI_si_row]
          rfl
        refine ⟨?_, hi.row e2 hok ?_ hi.2.2.1 ?_, ?_, ?_, Or.inl rfl⟩
        · have h1 : Rc (am_si gc 26 3 0) (am_si (thr gr) 0 8 0) := h.thr.w (by decide +kernel) _
          have h2 := h1.w hq' a3
          have e3 : am_si (am_si gc 26 3 0) (hillC s w).1 (hillC s w).2 a3 = am_si (am_si gc (hillC s w).1 (hillC s w).2 a3) 26 3 0 := si_comm _ _ _ (by omega)
          rw [e3] at h2
          exact h2.acc
        · rw [e2, am_up_ne (by omega), am_up_ne (by omega)]
          exact hi.2.1
        · show 0 ≤ (0 : Int32).toInt ∧ (0 : Int32).toInt ≤ 16; decide
        · exact (((Qc.refl gc).si (by omega) (by omega) (by omega)).si (by decide) (by decide) (by decide)).si (by decide) (by decide) (by decide)
        · exact ((((Qr.refl gr).si (by decide) (by decide)).si (by decide) (by decide)).si (by decide) (by omega)).si (by decide) (by decide)
  · refine ⟨-nI 1, refC 1 gc, refR 1 (thr gr), ?_, ?_, Sm.ref h hi (by decide)⟩
    · unfold fX11_put
      rw [s11_isSlope, pu_bd, if_neg hs, if_pos rfl, show (-1 : Int32) = -nI 1 from rfl, s11_refused (by decide), pu_bd]
    · unfold fX12_put
      rw [pu_let, s12_isSlope, pu_bd, if_neg hs, if_pos rfl, show (-1 : Int32) = -nI 1 from rfl, s12_tellN (by decide) (by decide), pu_bd]
      rfl
theorem Sm.same {t : Nat} {gc gr : am_G} (h : Rc gc gr) (hi : Inv t gr) : Sm t gc gr gc (thr gr) :=
  ⟨h.thr, hi.same rfl hi.2.2.1 hi.2.2.2, Qc.refl gc, (Qr.refl gr).si (by decide) (by decide), Or.inr ⟨rfl, fun _ _ => rfl⟩⟩
theorem m_of {t : Nat} {gc gr : am_G} (h : Rc gc gr) (hi : Inv t gr) (a1 a2 : Int32) : ∃ (v : Int32) (gc1 gr1 : am_G), fX11_of a1 a2 gc = some (v, gc1) ∧ fX12_of a1 a2 gr = some (v, gr1) ∧ Sm t gc gr gc1 gr1 := by
  by_cases hs : 0 ≤ a1 ∧ a1 ≤ 5
  · by_cases hw : 0 ≤ a2 ∧ a2 ≤ 9
    · obtain ⟨s, hs6, rfl⟩ := nn_rng (n := 5) (by decide) hs
      obtain ⟨w, hw9, rfl⟩ := nn_rng (n := 9) (by decide) hw
      have eq : am_I gc (hillC s w).1 (hillC s w).2 = am_I gr 2 (10 + 10 * s + w) := h _ (om_hill s (by omega) w (by omega))
      refine ⟨am_I gr 2 (10 + 10 * s + w), gc, thr gr, ?_, ?_, Sm.same h hi⟩
      · unfold fX11_of
        rw [s11_isSlope, pu_bd, if_pos hs, if_neg (by decide), s11_within, pu_bd, if_pos hw, if_neg (by decide), s11_ofSlope (by omega) (by omega), pu_bd, eq]
      · unfold fX12_of
        rw [pu_let, s12_isSlope, pu_bd, if_pos hs, if_neg (by decide), show (0 : Int64) = (0 : Int32).toInt64 from rfl, show (9 : Int64) = (9 : Int32).toInt64 from rfl, s12_inI, pu_bd, if_pos hw, if_neg (by decide), s12_ofSlope (by omega) (by omega), pu_bd]
        rfl
    · refine ⟨-1, gc, thr gr, ?_, ?_, Sm.same h hi⟩
      · unfold fX11_of
        rw [s11_isSlope, pu_bd, if_pos hs, if_neg (by decide), s11_within, pu_bd, if_neg hw, if_pos rfl]
      · unfold fX12_of
        rw [pu_let, s12_isSlope, pu_bd, if_pos hs, if_neg (by decide), show (0 : Int64) = (0 : Int32).toInt64 from rfl, show (9 : Int64) = (9 : Int32).toInt64 from rfl, s12_inI, pu_bd, if_neg hw, if_pos rfl]
        rfl
  · refine ⟨-1, gc, thr gr, ?_, ?_, Sm.same h hi⟩
    · unfold fX11_of
      rw [s11_isSlope, pu_bd, if_neg hs, if_pos rfl]
    · unfold fX12_of
      rw [pu_let, s12_isSlope, pu_bd, if_neg hs, if_pos rfl]
      rfl
