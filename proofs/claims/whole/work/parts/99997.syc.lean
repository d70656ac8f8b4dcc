/-! ===== saying: the class's search ===== -/
theorem smW_cup (f : Nat → Nat) (c : Nat → Nat) (k w : Nat) : smW (k + 1) (fun j => f (cup c k w j)) = smW k (fun j => f (c j)) + f w := by
  rw [smW, cup_eq, smW_cg (g := fun j => f (c j)) (fun j hj => by rw [cup_ne (by omega)])]
theorem smW_le {f : Nat → Nat} {M : Nat} : ∀ {k : Nat}, (∀ j, j < k → f j ≤ M) → smW k f ≤ k * M
  | 0, _ => by rw [smW]; omega
  | k + 1, h => by
    have h1 := smW_le (k := k) fun j hj => h j (by omega)
    have h2 := h k (by omega)
    rw [smW, Nat.add_mul, Nat.one_mul]
    omega
theorem smW_mn {f : Nat → Nat} {k : Nat} : ∀ {n : Nat}, k ≤ n → smW k f ≤ smW n f
  | 0, h => by rw [show k = 0 by omega]; exact Nat.le_refl _
  | n + 1, h => by
    by_cases e : k = n + 1
    · rw [e]; exact Nat.le_refl _
    · have := smW_mn (f := f) (k := k) (n := n) (by omega)
      rw [smW]
      omega
theorem lik_le {sy : Nat → Int32} {k : Nat} : ∀ j, lik sy k j ≤ j
  | 0 => Nat.le_refl _
  | j + 1 => by
    have := lik_le (sy := sy) (k := k) j
    rw [lik]
    split <;> omega
theorem aP_le {sy : Nat → Int32} : ∀ {k : Nat}, k ≤ 5 → aP sy k ≤ 5 ^ k
  | 0, _ => Nat.le_refl _
  | k + 1, h => by
    have h1 := aP_le (sy := sy) (k := k) (by omega)
    have h2 := lik_le (sy := sy) (k := k) k
    rw [aP, Nat.pow_succ]
    exact Nat.mul_le_mul h1 (by omega)
abbrev okK (sh : Nat → Nat → Nat) (b : Nat → Int) (k : Nat) (c : Nat → Nat) : Prop := ∀ s, s < 6 → ((smW k (fun j => sh (c j) s) : Nat) : Int) ≤ b s
def fitS (sh : Nat → Nat → Nat) (b : Nat → Int) (n : Nat) (c : Nat → Nat) : Bool := decide (n = 0 ∨ okK sh b n c)
def lenS (L : Nat → Nat) (n : Nat) (c : Nat → Nat) : Nat := smW n (fun j => L (c j))
/-- what the class knows of the words -/
def CDs (nW n : Nat) (L : Nat → Nat) (mg sy : Nat → Int32) (op : Nat → Bool) (sh : Nat → Nat → Nat) (g : am_G) : Prop := am_I g 1 14 = nI n ∧ am_I g 12 4 = nI nW ∧ (∀ k, k < n → am_I g 17 k = sy k) ∧ ∀ w, w < nW → am_I g 13 w = nI (L w) ∧ am_I g 15 w = mg w ∧ am_I g 40 w = (if op w = true then nI 1 else nI 0) ∧ ∀ s, s < 6 → am_I g 41 (6 * w + s) = nI (sh w s)
/-- the frame of a search at level k -/
def FY (k : Nat) (g g' : am_G) : Prop := g'.2 = g.2 ∧ ∀ a j, a ≠ 39 → a ≠ 44 → ¬ (a = 42 ∧ 6 * (k + 1) ≤ j) → ¬ (a = 43 ∧ k ≤ j) → am_I g' a j = am_I g a j
theorem FY.rf (k : Nat) (g : am_G) : FY k g g := ⟨rfl, fun _ _ _ _ _ _ => rfl⟩
theorem FY.tr {k : Nat} {g h i : am_G} (h1 : FY k g h) (h2 : FY k h i) : FY k g i := ⟨h2.1.trans h1.1, fun a j x y z w => (h2.2 a j x y z w).trans (h1.2 a j x y z w)⟩
theorem FY.mo {k : Nat} {g h : am_G} (h1 : FY (k + 1) g h) : FY k g h := ⟨h1.1, fun a j x y z w => h1.2 a j x y (by omega) (by omega)⟩
theorem FY.S {k : Nat} {g h : am_G} (h1 : FY k g h) : FcS g h := ⟨h1.1, fun a x _ => funext fun j => h1.2 a j (by omega) (by omega) (by omega) (by omega)⟩
theorem CDs.fy {nW n k : Nat} {L : Nat → Nat} {mg sy : Nat → Int32} {op : Nat → Bool} {sh : Nat → Nat → Nat} {g g' : am_G} (h : CDs nW n L mg sy op sh g) (f : FY k g g') : CDs nW n L mg sy op sh g' := by
  have e : ∀ a j, a ≠ 39 → a ≠ 44 → a ≠ 42 → a ≠ 43 → am_I g' a j = am_I g a j := fun a j h1 h2 h3 h4 => f.2 a j h1 h2 (by omega) (by omega)
  obtain ⟨h1, h2, h3, h4⟩ := h
  refine ⟨by rw [e 1 _ (by decide) (by decide) (by decide) (by decide)]; exact h1, by rw [e 12 _ (by decide) (by decide) (by decide) (by decide)]; exact h2, fun k hk => by rw [e 17 _ (by decide) (by decide) (by decide) (by decide)]; exact h3 k hk, fun w hw => ?_⟩
  obtain ⟨a1, a2, a3, a4⟩ := h4 w hw
  exact ⟨by rw [e 13 _ (by decide) (by decide) (by decide) (by decide)]; exact a1, by rw [e 15 _ (by decide) (by decide) (by decide) (by decide)]; exact a2, by rw [e 40 _ (by decide) (by decide) (by decide) (by decide)]; exact a3, fun s hs => by rw [e 41 _ (by decide) (by decide) (by decide) (by decide)]; exact a4 s hs⟩
def RmC (sh : Nat → Nat → Nat) (b : Nat → Int) (k : Nat) (c : Nat → Nat) (g : am_G) : Prop := ∀ s, s < 6 → (am_I g 42 (6 * k + s)).toInt = b s - ((smW k (fun j => sh (c j) s) : Nat) : Int)
def SyC (n : Nat) (g : am_G) (st : StS) : Prop := am_I g 39 7 = nI st.1 ∧ am_I g 39 8 = nI st.2.1 ∧ (st.1 = 1000000000 ∨ ∀ j, j < n → am_I g 44 j = nI (st.2.2 j)) ∧ st.1 ≤ 1000000000
section SYC
variable {nW n : Nat} {L : Nat → Nat} {mg sy : Nat → Int32} {op : Nat → Bool} {sh : Nat → Nat → Nat} {b : Nat → Int}
theorem i6 (a s : Nat) : nI a * (6 : Int32) + nI s = nI (6 * a + s) := by
  rw [show (6 : Int32) = nI 6 from rfl, nn_mul, nI_add, Nat.mul_comm]
theorem fitsL {k w : Nat} {c : Nat → Nat} (hk : k < 5) (hw : w < nW) (hW : nW ≤ 16) (hsh : ∀ w, w < nW → ∀ s, s < 6 → sh w s ≤ 999) (hb : ∀ s, s < 6 → -1000000000 ≤ b s ∧ b s ≤ 1000000000) (hc : ∀ j, j < k → c j < nW) : ∀ (d s m : Nat) (g : am_G), s + d = 6 → d < m → CDs nW n L mg sy op sh g → RmC sh b k c g → (∀ t, t < s → (am_I g 42 (6 * (k + 1) + t)).toInt = b t - ((smW (k + 1) (fun j => sh (cup c k w j) t) : Nat) : Int) ∧ ((smW (k + 1) (fun j => sh (cup c k w j) t) : Nat) : Int) ≤ b t) →
    (∃ g', fX3_fits_L2 (nI k) (nI w) m (nI s) g = some (nI 1, g') ∧ (g'.2 = g.2 ∧ ∀ a j, ¬ (a = 42 ∧ 6 * (k + 1) ≤ j) → am_I g' a j = am_I g a j) ∧ RmC sh b (k + 1) (cup c k w) g' ∧ okK sh b (k + 1) (cup c k w)) ∨
    (∃ g', fX3_fits_L2 (nI k) (nI w) m (nI s) g = some (nI 0, g') ∧ (g'.2 = g.2 ∧ ∀ a j, ¬ (a = 42 ∧ 6 * (k + 1) ≤ j) → am_I g' a j = am_I g a j) ∧ ¬ okK sh b (k + 1) (cup c k w))
  | 0, s, m, g, hd, hm, hD, hR, hs => by
    obtain ⟨m, rfl⟩ : ∃ m', m = m' + 1 := ⟨m - 1, by omega⟩
    obtain rfl : s = 6 := by omega
    left
    refine ⟨g, ?_, ⟨rfl, fun _ _ _ => rfl⟩, fun t ht => (hs t ht).1, fun t ht => (hs t ht).2⟩
    rw [fX3_fits_L2, if_pos (show (6 : Int32) ≤ nI 6 by decide)]
    rfl
  | d + 1, s, m, g, hd, hm, hD, hR, hs => by
    obtain ⟨m, rfl⟩ : ∃ m', m = m' + 1 := ⟨m - 1, by omega⟩
    have hs6 : s < 6 := by omega
    have e41 := (hD.2.2.2 w hw).2.2.2 s hs6
    have e42 := hR s hs6
    have hsw := hsh w hw s hs6
    have hb' := hb s hs6
    have hle : smW k (fun j => sh (c j) s) ≤ k * 999 := smW_le fun j hj => hsh (c j) (hc j hj) s hs6
    have ei : (am_I g 42 (6 * k + s) - nI (sh w s)).toInt = b s - ((smW (k + 1) (fun j => sh (cup c k w j) s) : Nat) : Int) := by
      rw [Int32.toInt_sub, e42, nn_toInt (by omega), Int.bmod_eq_of_le (by omega) (by omega), smW_cup (fun x => sh x s)]
      omega
    have hk1 : nI k + (1 : Int32) = nI (k + 1) := nI_add k 1
    rw [fX3_fits_L2, if_neg (show ¬ (6 : Int32) ≤ nI s from fun z => absurd ((nI_leI (a := 6) (by decide) (by omega)).mp z) (by omega)), i6, i6, pe_gd (show 6 * k + s < 36 by omega) (by decide), pe_gd (show 6 * w + s < 96 by omega) (by decide), pu_let, pe_clamp (show 6 * k + s < 2147483648 by omega), pe_clamp (show 6 * w + s < 2147483648 by omega), e41]
    by_cases h0 : ((smW (k + 1) (fun j => sh (cup c k w j) s) : Nat) : Int) ≤ b s
    · rw [if_pos (show (0 : Int32) ≤ am_I g 42 (6 * k + s) - nI (sh w s) from Int32.le_iff_toInt_le.mpr (by rw [ei]; have : (0 : Int32).toInt = 0 := rfl; omega)), hk1, i6, pe_gd (show 6 * (k + 1) + s < 36 by omega) (by decide), pu_let, pu_let, pe_clamp (show 6 * (k + 1) + s < 2147483648 by omega), show nI s + (1 : Int32) = nI (s + 1) from nI_add s 1]
      have fy : FY k g (am_si g 42 (6 * (k + 1) + s) (am_I g 42 (6 * k + s) - nI (sh w s))) := ⟨rfl, fun a j _ _ z _ => by rw [pI_si, if_neg (fun q => z ⟨q.1, by omega⟩)]⟩
      have ih := fitsL (c := c) hk hw hW hsh hb hc d (s + 1) m (am_si g 42 (6 * (k + 1) + s) (am_I g 42 (6 * k + s) - nI (sh w s))) (by omega) (by omega) (hD.fy fy) (fun t ht => by rw [pe_ik (by omega)]; exact hR t ht) (fun t ht => by
        by_cases e : t = s
        · subst e; rw [pe_ieq]; exact ⟨ei, h0⟩
        · rw [pe_ik (by omega)]; exact hs t (by omega))
      rcases ih with ⟨g', x1, x2, x3⟩ | ⟨g', x1, x2, x3⟩
      · exact Or.inl ⟨g', x1, ⟨x2.1, fun a j z => (x2.2 a j z).trans (by rw [pI_si, if_neg (fun q => z ⟨q.1, by omega⟩)])⟩, x3⟩
      · exact Or.inr ⟨g', x1, ⟨x2.1, fun a j z => (x2.2 a j z).trans (by rw [pI_si, if_neg (fun q => z ⟨q.1, by omega⟩)])⟩, x3⟩
    · right
      refine ⟨g, ?_, ⟨rfl, fun _ _ _ => rfl⟩, fun z => h0 (z s hs6)⟩
      rw [if_neg (show ¬ (0 : Int32) ≤ am_I g 42 (6 * k + s) - nI (sh w s) from fun z => by
        have := Int32.le_iff_toInt_le.mp z
        rw [ei] at this
        have h00 : (0 : Int32).toInt = 0 := rfl
        omega)]
      rfl
theorem timL {k w : Nat} {c : Nat → Nat} (hk : k < 5) (hw : w < 16) (hc : ∀ j, j < k → c j < 16) {g : am_G} (h43 : ∀ j, j < k → am_I g 43 j = nI (c j)) : ∀ (d j m : Nat), j + d = k → d < m → fX3_timesChosen_L5 (nI k) (nI w) m (nI (cnt j c w + 1)) (nI j) g = some (nI (cnt k c w + 1), g)
  | 0, j, m, hd, hm => by
    obtain ⟨m, rfl⟩ : ∃ m', m = m' + 1 := ⟨m - 1, by omega⟩
    obtain rfl : j = k := by omega
    rw [fX3_timesChosen_L5, if_pos Int32.le_rfl]
  | d + 1, j, m, hd, hm => by
    obtain ⟨m, rfl⟩ : ∃ m', m = m' + 1 := ⟨m - 1, by omega⟩
    have ih := timL hk hw hc h43 d (j + 1) m (by omega) (by omega)
    rw [fX3_timesChosen_L5, if_neg (fun z => absurd ((nI_leI (by omega) (by omega)).mp z) (by omega)), pe_gd (show j < 5 by omega) (by decide), pu_jn]
    dsimp only
    rw [pe_clamp (show j < 2147483648 by omega), h43 j (by omega)]
    rw [cnt] at ih
    have ej : nI j + (1 : Int32) = nI (j + 1) := nI_add j 1
    by_cases e : c j = w
    · rw [if_pos e] at ih
      rw [if_pos (by rw [e]), pu_let, pu_let, ej, show nI (cnt j c w + 1) + (1 : Int32) = nI (cnt j c w + 1 + 1) from nI_add _ 1]
      exact ih
    · rw [if_neg e, Nat.add_zero] at ih
      rw [if_neg (fun z => e ((nn_eq (by have := hc j (by omega); omega) (by omega)).mp z)), pu_let, ej]
      exact ih
def frmS (sy : Nat → Int32) (c : Nat → Nat) (k : Nat) : Nat → Nat
  | 0 => 0
  | j + 1 => if sy j = sy k then c j else frmS sy c k j
theorem frmS_le {k : Nat} {c : Nat → Nat} (ho : isO sy k c) : ∀ n, n ≤ k → ∀ j, j < n → sy j = sy k → c j ≤ frmS sy c k n
  | 0, _, j, hj, _ => absurd hj (by omega)
  | n + 1, hn, j, hj, e => by
    rw [frmS]
    by_cases e1 : sy n = sy k
    · rw [if_pos e1]
      by_cases e2 : j = n
      · subst e2; exact Nat.le_refl _
      · exact ho j n (by omega) (by omega) (e.trans e1.symm)
    · rw [if_neg e1]
      have : j ≠ n := fun z => e1 (z ▸ e)
      exact frmS_le ho n (by omega) j (by omega) e
theorem frmS_mem {k : Nat} {c : Nat → Nat} : ∀ n, frmS sy c k n = 0 ∨ ∃ j, j < n ∧ sy j = sy k ∧ frmS sy c k n = c j
  | 0 => Or.inl rfl
  | n + 1 => by
    rw [frmS]
    by_cases e1 : sy n = sy k
    · rw [if_pos e1]; exact Or.inr ⟨n, by omega, e1, rfl⟩
    · rw [if_neg e1]
      rcases frmS_mem (k := k) (c := c) n with z | ⟨j, h1, h2, h3⟩
      · exact Or.inl z
      · exact Or.inr ⟨j, by omega, h2, h3⟩
theorem likL {rec : Int32 → Int32 → Int32 → am_G → Option (Unit × am_G)} {K : Int32 → Int32 → am_G → Option (Unit × am_G)} {k : Nat} {a2 a3 : Int32} {c : Nat → Nat} (hk : k < n) (hn : n ≤ 5) {g : am_G} (h17 : ∀ k, k < n → am_I g 17 k = sy k) (h43 : ∀ j, j < k → am_I g 43 j = nI (c j)) : ∀ (d j m : Nat), j + d = k → d < m → fX3_search_L38 rec K (nI k) a2 a3 (sy k) m (nI (lik sy k j)) (nI (frmS sy c k j)) (nI j) g = K (nI (lik sy k k)) (nI (frmS sy c k k)) g
  | 0, j, m, hd, hm => by
    obtain ⟨m, rfl⟩ : ∃ m', m = m' + 1 := ⟨m - 1, by omega⟩
    obtain rfl : j = k := by omega
    rw [fX3_search_L38, if_pos Int32.le_rfl]
  | d + 1, j, m, hd, hm => by
    obtain ⟨m, rfl⟩ : ∃ m', m = m' + 1 := ⟨m - 1, by omega⟩
    have ih := likL (rec := rec) (K := K) (a2 := a2) (a3 := a3) hk hn h17 h43 d (j + 1) m (by omega) (by omega)
    have ej : nI j + (1 : Int32) = nI (j + 1) := nI_add j 1
    rw [fX3_search_L38, if_neg (fun z => absurd ((nI_leI (by omega) (by omega)).mp z) (by omega)), pe_gd (show j < 5 by omega) (by decide), pu_jn]
    dsimp only
    rw [pe_clamp (show j < 2147483648 by omega), h17 j (by omega)]
    rw [lik, frmS] at ih
    by_cases e : sy j = sy k
    · rw [if_pos e, if_pos e] at ih
      rw [if_pos e, pu_let, pe_gd (show j < 5 by omega) (by decide), pu_let, pu_let, ej, h43 j (by omega), show nI (lik sy k j) + (1 : Int32) = nI (lik sy k j + 1) from nI_add _ 1]
      exact ih
    · rw [if_neg e, if_neg e, Nat.add_zero] at ih
      rw [if_neg e, pu_let, ej]
      exact ih
end SYC
