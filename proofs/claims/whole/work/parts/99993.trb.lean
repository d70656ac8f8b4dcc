/-! ===== a talk that cannot be told is taken back ===== -/
theorem told77 {kk : am_G → Option (Int32 × am_G)} {x30 : Int32} : ∀ (d i n : Nat) (g : am_G), i + d = 2176 → d < n → fX12_told_L77 kk x30 n (nI i) g = kk (am_sr g 7 (fun j => if i ≤ j ∧ j < 2176 then am_I g 5 j else am_I g 7 j))
  | 0, i, n, g, hd, hn => by
    obtain ⟨n, rfl⟩ : ∃ n', n = n' + 1 := ⟨n - 1, by omega⟩
    obtain rfl : i = 2176 := by omega
    have e : (fun j => if 2176 ≤ j ∧ j < 2176 then am_I g 5 j else am_I g 7 j) = am_I g 7 := by
      funext j
      rw [if_neg (by omega)]
    rw [e, sr_self, fX12_told_L77]
    rw [if_pos (show (2176 : Int32) ≤ nI 2176 from Int32.le_rfl)]
  | d + 1, i, n, g, hd, hn => by
    obtain ⟨n, rfl⟩ : ∃ n', n = n' + 1 := ⟨n - 1, by omega⟩
    have IH := told77 (kk := kk) (x30 := x30) d (i + 1) n (am_si g 7 i (am_I g 5 i)) (by omega) (by omega)
    rw [fX12_told_L77, if_neg (show ¬ (2176 : Int32) ≤ nI i from fun z => absurd ((nI_leI (a := 2176) (by decide) (by omega)).mp z) (by omega)), pe_gd (show i < 2856 by omega) (by decide), pe_gd (show i < 2176 by omega) (by decide), pu_let, pu_let, pe_clamp (show i < 2147483648 by omega), show nI i + (1 : Int32) = nI (i + 1) from nI_add i 1, IH]
    have e : am_sr (am_si g 7 i (am_I g 5 i)) 7 (fun j => if i + 1 ≤ j ∧ j < 2176 then am_I (am_si g 7 i (am_I g 5 i)) 5 j else am_I (am_si g 7 i (am_I g 5 i)) 7 j) = am_sr g 7 (fun j => if i ≤ j ∧ j < 2176 then am_I g 5 j else am_I g 7 j) := by
      show am_sr (am_sr g 7 _) 7 _ = _
      rw [sr_sr]
      congr 1
      funext j
      rw [pI_si_row, pI_si_ne _ _ _ (show (5 : Nat) ≠ 7 by decide)]
      by_cases h : j = i
      · subst h
        rw [if_neg (by omega), am_up_eq, if_pos (by omega)]
      · by_cases h2 : i + 1 ≤ j ∧ j < 2176
        · rw [if_pos h2, if_pos (by omega)]
        · rw [if_neg h2, if_neg (by omega), am_up_ne h]
    rw [e]
theorem told104 {kk : am_G → Option (Int32 × am_G)} {x30 : Int32} : ∀ (d i n : Nat) (g : am_G), i + d = 16 → d < n → fX12_told_L104 kk x30 n (nI i) g = kk (am_sr g 8 (fun j => if i ≤ j ∧ j < 16 then am_I g 6 j else am_I g 8 j))
  | 0, i, n, g, hd, hn => by
    obtain ⟨n, rfl⟩ : ∃ n', n = n' + 1 := ⟨n - 1, by omega⟩
    obtain rfl : i = 16 := by omega
    have e : (fun j => if 16 ≤ j ∧ j < 16 then am_I g 6 j else am_I g 8 j) = am_I g 8 := by
      funext j
      rw [if_neg (by omega)]
    rw [e, sr_self, fX12_told_L104]
    rw [if_pos (show (16 : Int32) ≤ nI 16 from Int32.le_rfl)]
  | d + 1, i, n, g, hd, hn => by
    obtain ⟨n, rfl⟩ : ∃ n', n = n' + 1 := ⟨n - 1, by omega⟩
    have IH := told104 (kk := kk) (x30 := x30) d (i + 1) n (am_si g 8 i (am_I g 6 i)) (by omega) (by omega)
    rw [fX12_told_L104, if_neg (show ¬ (16 : Int32) ≤ nI i from fun z => absurd ((nI_leI (a := 16) (by decide) (by omega)).mp z) (by omega)), pe_gd (show i < 16 by omega) (by decide), pe_gd (show i < 16 by omega) (by decide), pu_let, pu_let, pe_clamp (show i < 2147483648 by omega), show nI i + (1 : Int32) = nI (i + 1) from nI_add i 1, IH]
    have e : am_sr (am_si g 8 i (am_I g 6 i)) 8 (fun j => if i + 1 ≤ j ∧ j < 16 then am_I (am_si g 8 i (am_I g 6 i)) 6 j else am_I (am_si g 8 i (am_I g 6 i)) 8 j) = am_sr g 8 (fun j => if i ≤ j ∧ j < 16 then am_I g 6 j else am_I g 8 j) := by
      show am_sr (am_sr g 8 _) 8 _ = _
      rw [sr_sr]
      congr 1
      funext j
      rw [pI_si_row, pI_si_ne _ _ _ (show (6 : Nat) ≠ 8 by decide)]
      by_cases h : j = i
      · subst h
        rw [if_neg (by omega), am_up_eq, if_pos (by omega)]
      · by_cases h2 : i + 1 ≤ j ∧ j < 16
        · rw [if_pos h2, if_pos (by omega)]
        · rw [if_neg h2, if_neg (by omega), am_up_ne h]
    rw [e]
theorem told197 {kk : am_G → Option (Int32 × am_G)} {x30 x53 : Int32} : ∀ (d i n : Nat) (g : am_G), i + d = 2176 → d < n → fX12_told_L197 kk x30 x53 n (nI i) g = kk (am_sr g 5 (fun j => if i ≤ j ∧ j < 2176 then am_I g 7 j else am_I g 5 j))
  | 0, i, n, g, hd, hn => by
    obtain ⟨n, rfl⟩ : ∃ n', n = n' + 1 := ⟨n - 1, by omega⟩
    obtain rfl : i = 2176 := by omega
    have e : (fun j => if 2176 ≤ j ∧ j < 2176 then am_I g 7 j else am_I g 5 j) = am_I g 5 := by
      funext j
      rw [if_neg (by omega)]
    rw [e, sr_self, fX12_told_L197]
    rw [if_pos (show (2176 : Int32) ≤ nI 2176 from Int32.le_rfl)]
  | d + 1, i, n, g, hd, hn => by
    obtain ⟨n, rfl⟩ : ∃ n', n = n' + 1 := ⟨n - 1, by omega⟩
    have IH := told197 (kk := kk) (x30 := x30) (x53 := x53) d (i + 1) n (am_si g 5 i (am_I g 7 i)) (by omega) (by omega)
    rw [fX12_told_L197, if_neg (show ¬ (2176 : Int32) ≤ nI i from fun z => absurd ((nI_leI (a := 2176) (by decide) (by omega)).mp z) (by omega)), pe_gd (show i < 2176 by omega) (by decide), pe_gd (show i < 2856 by omega) (by decide), pu_let, pu_let, pe_clamp (show i < 2147483648 by omega), show nI i + (1 : Int32) = nI (i + 1) from nI_add i 1, IH]
    have e : am_sr (am_si g 5 i (am_I g 7 i)) 5 (fun j => if i + 1 ≤ j ∧ j < 2176 then am_I (am_si g 5 i (am_I g 7 i)) 7 j else am_I (am_si g 5 i (am_I g 7 i)) 5 j) = am_sr g 5 (fun j => if i ≤ j ∧ j < 2176 then am_I g 7 j else am_I g 5 j) := by
      show am_sr (am_sr g 5 _) 5 _ = _
      rw [sr_sr]
      congr 1
      funext j
      rw [pI_si_row, pI_si_ne _ _ _ (show (7 : Nat) ≠ 5 by decide)]
      by_cases h : j = i
      · subst h
        rw [if_neg (by omega), am_up_eq, if_pos (by omega)]
      · by_cases h2 : i + 1 ≤ j ∧ j < 2176
        · rw [if_pos h2, if_pos (by omega)]
        · rw [if_neg h2, if_neg (by omega), am_up_ne h]
    rw [e]
def RBf (x30 x53 : Int32) (g84 : am_G) : Option (Int32 × am_G) :=
      am_let (am_si g84 0 8 x30) fun g86 =>
      am_let (am_si g86 0 59 x53) fun g87 =>
      am_bd (fX12_tell (-3 : Int32) g87) fun v88 g89 =>
      some (v88, g89)
theorem told228 {x30 x53 : Int32} : ∀ (d i n : Nat) (g : am_G), i + d = 16 → d < n → fX12_told_L228 x30 x53 n (nI i) g = RBf x30 x53 (am_sr g 6 (fun j => if i ≤ j ∧ j < 16 then am_I g 8 j else am_I g 6 j))
  | 0, i, n, g, hd, hn => by
    obtain ⟨n, rfl⟩ : ∃ n', n = n' + 1 := ⟨n - 1, by omega⟩
    obtain rfl : i = 16 := by omega
    have e : (fun j => if 16 ≤ j ∧ j < 16 then am_I g 8 j else am_I g 6 j) = am_I g 6 := by
      funext j
      rw [if_neg (by omega)]
    rw [e, sr_self, fX12_told_L228]
    rw [if_pos (show (16 : Int32) ≤ nI 16 from Int32.le_rfl)]
    rfl
  | d + 1, i, n, g, hd, hn => by
    obtain ⟨n, rfl⟩ : ∃ n', n = n' + 1 := ⟨n - 1, by omega⟩
    have IH := told228 (x30 := x30) (x53 := x53) d (i + 1) n (am_si g 6 i (am_I g 8 i)) (by omega) (by omega)
    rw [fX12_told_L228, if_neg (show ¬ (16 : Int32) ≤ nI i from fun z => absurd ((nI_leI (a := 16) (by decide) (by omega)).mp z) (by omega)), pe_gd (show i < 16 by omega) (by decide), pe_gd (show i < 16 by omega) (by decide), pu_let, pu_let, pe_clamp (show i < 2147483648 by omega), show nI i + (1 : Int32) = nI (i + 1) from nI_add i 1, IH]
    have e : am_sr (am_si g 6 i (am_I g 8 i)) 6 (fun j => if i + 1 ≤ j ∧ j < 16 then am_I (am_si g 6 i (am_I g 8 i)) 8 j else am_I (am_si g 6 i (am_I g 8 i)) 6 j) = am_sr g 6 (fun j => if i ≤ j ∧ j < 16 then am_I g 8 j else am_I g 6 j) := by
      show am_sr (am_sr g 6 _) 6 _ = _
      rw [sr_sr]
      congr 1
      funext j
      rw [pI_si_row, pI_si_ne _ _ _ (show (8 : Nat) ≠ 6 by decide)]
      by_cases h : j = i
      · subst h
        rw [if_neg (by omega), am_up_eq, if_pos (by omega)]
      · by_cases h2 : i + 1 ≤ j ∧ j < 16
        · rw [if_pos h2, if_pos (by omega)]
        · rw [if_neg h2, if_neg (by omega), am_up_ne h]
    rw [e]
def rbk (g : am_G) : am_G := am_sr (am_sr (am_sr g 2 (fun j => if 6 ≤ j ∧ j < 142 then am_I g 5 (2720 + (j - 6)) else am_I g 2 j)) 5 (fun j => if j < 2176 then am_I g 7 j else am_I g 5 j)) 6 (fun j => if j < 16 then am_I g 8 j else am_I g 6 j)
theorem RBk_run {x30 x53 : Int32} {g : am_G} : RBk x30 x53 g = some (-nI 3, refR 3 (am_si (am_si (rbk g) 0 8 x30) 0 59 x53)) := by
  have hfu : am_fu = 1048576 := rfl
  unfold RBk
  rw [show (20 : Int32) = nI 20 from rfl, q12_putBack (by decide), pu_bd, show (0 : Int32) = nI 0 from rfl, told197 2176 0 am_fu _ (by omega) (by omega)]
  rw [told228 16 0 am_fu _ (by omega) (by omega)]
  have e : am_sr (am_sr (am_sr g 2 (fun j => if 6 ≤ j ∧ j < 142 then am_I g 5 (136 * 20 + (j - 6)) else am_I g 2 j)) 5 (fun j => if 0 ≤ j ∧ j < 2176 then am_I (am_sr g 2 (fun j => if 6 ≤ j ∧ j < 142 then am_I g 5 (136 * 20 + (j - 6)) else am_I g 2 j)) 7 j else am_I (am_sr g 2 (fun j => if 6 ≤ j ∧ j < 142 then am_I g 5 (136 * 20 + (j - 6)) else am_I g 2 j)) 5 j)) 6 (fun j => if 0 ≤ j ∧ j < 16 then am_I (am_sr (am_sr g 2 (fun j => if 6 ≤ j ∧ j < 142 then am_I g 5 (136 * 20 + (j - 6)) else am_I g 2 j)) 5 (fun j => if 0 ≤ j ∧ j < 2176 then am_I (am_sr g 2 (fun j => if 6 ≤ j ∧ j < 142 then am_I g 5 (136 * 20 + (j - 6)) else am_I g 2 j)) 7 j else am_I (am_sr g 2 (fun j => if 6 ≤ j ∧ j < 142 then am_I g 5 (136 * 20 + (j - 6)) else am_I g 2 j)) 5 j)) 8 j else am_I (am_sr (am_sr g 2 (fun j => if 6 ≤ j ∧ j < 142 then am_I g 5 (136 * 20 + (j - 6)) else am_I g 2 j)) 5 (fun j => if 0 ≤ j ∧ j < 2176 then am_I (am_sr g 2 (fun j => if 6 ≤ j ∧ j < 142 then am_I g 5 (136 * 20 + (j - 6)) else am_I g 2 j)) 7 j else am_I (am_sr g 2 (fun j => if 6 ≤ j ∧ j < 142 then am_I g 5 (136 * 20 + (j - 6)) else am_I g 2 j)) 5 j)) 6 j) = rbk g := by
    unfold rbk
    rw [show 136 * 20 = 2720 from rfl]
    congr 1
    · congr 1
      funext j
      by_cases h : j < 2176
      · rw [if_pos h, if_pos ⟨Nat.zero_le _, h⟩, pI_sr_ne _ _ (by decide)]
      · rw [if_neg h, if_neg (fun z => h z.2), pI_sr_ne _ _ (by decide)]
    · funext j
      by_cases h : j < 16
      · rw [if_pos h, if_pos ⟨Nat.zero_le _, h⟩, pI_sr_ne _ _ (by decide), pI_sr_ne _ _ (by decide)]
      · rw [if_neg h, if_neg (fun z => h z.2), pI_sr_ne _ _ (by decide), pI_sr_ne _ _ (by decide)]
  rw [e]
  unfold RBf
  rw [pu_let, pu_let, show (-3 : Int32) = -nI 3 from rfl, q12_tellN (by decide) (by decide), pu_bd]
/-- the reference before it runs -/
def kpS (g : am_G) : am_G := am_si (am_si (am_si (am_sr (am_sr (am_sr g 5 (fun j => if 2720 ≤ j ∧ j < 2856 then am_I g 2 (6 + (j - 2720)) else am_I g 5 j)) 7 (fun j => if j < 2176 then am_I g 5 j else am_I g 7 j)) 8 (fun j => if j < 16 then am_I g 6 j else am_I g 8 j)) 0 56 (nI 0)) 0 57 (nI 0)) 0 58 (am_I g 2 8)
theorem kpS_at (g : am_G) : (∀ a k, a ≠ 7 → a ≠ 8 → ¬ (a = 5 ∧ 2720 ≤ k ∧ k < 2856) → ¬ (a = 0 ∧ (k = 56 ∨ k = 57 ∨ k = 58)) → am_I (kpS g) a k = am_I g a k) ∧ (∀ k, k < 2176 → am_I (kpS g) 7 k = am_I g 5 k) ∧ (∀ k, k < 16 → am_I (kpS g) 8 k = am_I g 6 k) ∧ (∀ k, 6 ≤ k → k < 142 → am_I (kpS g) 5 (2720 + (k - 6)) = am_I g 2 k) ∧ am_I (kpS g) 0 56 = nI 0 ∧ am_I (kpS g) 0 57 = nI 0 ∧ am_I (kpS g) 0 58 = am_I g 2 8 ∧ (kpS g).2 = g.2 := by
  refine ⟨fun a k h1 h2 h3 h4 => ?_, fun k hk => ?_, fun k hk => ?_, fun k h1 h2 => ?_, ?_, ?_, ?_, rfl⟩
  · unfold kpS
    rw [pI_si, if_neg (by omega), pI_si, if_neg (by omega), pI_si, if_neg (by omega), pI_sr_ne _ _ h2, pI_sr_ne _ _ h1]
    by_cases h5 : a = 5
    · subst h5
      rw [pI_sr_row, if_neg (by omega)]
    · rw [pI_sr_ne _ _ h5]
  · unfold kpS
    rw [pe_ine (by decide), pe_ine (by decide), pe_ine (by decide), pI_sr_ne _ _ (by decide), pI_sr_row, if_pos hk]
  · unfold kpS
    rw [pe_ine (by decide), pe_ine (by decide), pe_ine (by decide), pI_sr_row, if_pos hk]
  · unfold kpS
    rw [pe_ine (by decide), pe_ine (by decide), pe_ine (by decide), pI_sr_ne _ _ (by decide), pI_sr_ne _ _ (by decide), pI_sr_row, if_pos (by omega), show 6 + (2720 + (k - 6) - 2720) = k by omega]
  · unfold kpS
    rw [pe_ik (by decide), pe_ik (by decide), pe_ieq]
  · unfold kpS
    rw [pe_ik (by decide), pe_ieq]
  · unfold kpS
    rw [pe_ieq]
theorem kpS_T (g : am_G) : FrT g (kpS g) := by
  obtain ⟨h1, -, -, -, -, -, -, h8⟩ := kpS_at g
  refine ⟨fun a k hs => h1 a k ?_ ?_ ?_ ?_, fun a _ _ _ _ => rfl, congrArg (fun z => z.2) h8⟩
  · exact fun z => hs (by unfold scR; omega)
  · exact fun z => hs (by unfold scR; omega)
  · exact fun z => hs (by unfold scR; omega)
  · exact fun z => hs (by unfold scR sc0; omega)
theorem kpS_run {kk : Int32 → am_G → Option (Int32 × am_G)} {g : am_G} : (am_bd (fX12_keepAll (20 : Int32) g) fun u27 g28 =>
      am_let (am_I g28 0 8) fun x30 =>
      fX12_told_L77 (fun  (g39 : am_G) =>
        fX12_told_L104 (fun  (g48 : am_G) =>
          am_let (am_si g48 0 56 (0 : Int32)) fun g49 =>
          am_let (am_si g49 0 57 (0 : Int32)) fun g50 =>
          am_gd (am_in (8 : Int32) 5660) <|
          am_let (am_si g50 0 58 (am_I g50 2 (8 : Int32).toNatClampNeg)) fun g52 => kk x30 g52) x30 am_fu (0 : Int32) g39) x30 am_fu (0 : Int32) g28) = kk (am_I g 0 8) (kpS g) := by
  have hfu : am_fu = 1048576 := rfl
  rw [show (20 : Int32) = nI 20 from rfl, q12_keepAll (by decide), pu_bd, pu_let, pI_sr_ne _ _ (show (0 : Nat) ≠ 5 by decide), show (0 : Int32) = nI 0 from rfl, told77 2176 0 am_fu _ (by omega) (by omega)]
  rw [told104 16 0 am_fu _ (by omega) (by omega), pu_let, pu_let, pu_gd (show am_in (8 : Int32) 5660 = true from rfl), pu_let]
  congr 1
  unfold kpS
  rw [show (8 : Int32).toNatClampNeg = 8 from rfl, show 136 * 20 = 2720 from rfl, show 2720 + 136 = 2856 from rfl]
  have e8 : ∀ h : am_G, am_I (am_si (am_si h 0 56 (nI 0)) 0 57 (nI 0)) 2 8 = am_I h 2 8 := fun h => by rw [pe_ine (by decide), pe_ine (by decide)]
  rw [e8, pI_sr_ne _ _ (show (2 : Nat) ≠ 8 by decide), pI_sr_ne _ _ (show (2 : Nat) ≠ 7 by decide), pI_sr_ne _ _ (show (2 : Nat) ≠ 5 by decide)]
  congr 3
  congr 1
  · congr 1
    funext j
    by_cases h : j < 2176
    · rw [if_pos h, if_pos ⟨Nat.zero_le _, h⟩, pI_sr_row, if_neg (by omega)]
    · rw [if_neg h, if_neg (fun z => h z.2), pI_sr_ne _ _ (by decide)]
  · funext j
    by_cases h : j < 16
    · rw [if_pos h, if_pos ⟨Nat.zero_le _, h⟩, pI_sr_ne _ _ (by decide), pI_sr_ne _ _ (by decide)]
    · rw [if_neg h, if_neg (fun z => h z.2), pI_sr_ne _ _ (by decide), pI_sr_ne _ _ (by decide)]
/-- all is as it was -/
theorem rbk_T {g g' : am_G} {x : Int32} (h : FrU (kpS g) g') : FrT (am_si g 0 59 x) (am_si (am_si (rbk g') 0 8 (am_I g 0 8)) 0 59 x) := by
  obtain ⟨k1, k2, k3, k4, -, -, -, k8⟩ := kpS_at g
  refine ⟨fun a k hs => ?_, fun a h1 h2 h3 h4 => (h.2.1 a h1 h2 h3 h4).trans rfl, h.2.2⟩
  have r : ∀ a k, a ≠ 2 → a ≠ 5 → a ≠ 6 → am_I (rbk g') a k = am_I g' a k := fun a k h2 h5 h6 => by unfold rbk; rw [pI_sr_ne _ _ h6, pI_sr_ne _ _ h5, pI_sr_ne _ _ h2]
  by_cases h59 : a = 0 ∧ k = 59
  · rw [h59.1, h59.2, pe_ieq, pe_ieq]
  have eR : am_I (am_si g 0 59 x) a k = am_I g a k := by rw [pI_si, if_neg (fun z => h59 z)]
  rw [eR, pI_si, if_neg (fun z => h59 z), pI_si]
  by_cases h8 : a = 0 ∧ k = 8
  · rw [if_pos h8, h8.1, h8.2]
  rw [if_neg (fun z => h8 z)]
  by_cases a2 : a = 2
  · subst a2
    unfold rbk
    rw [pI_sr_ne _ _ (by decide), pI_sr_ne _ _ (by decide), pI_sr_row]
    by_cases hk : 6 ≤ k ∧ k < 142
    · rw [if_pos hk, h.1 5 _ (by decide) (by decide) (by omega) (by omega) (by omega) (by omega), k4 k hk.1 hk.2]
    · rw [if_neg hk, h.1 2 k (by decide) (by decide) (by omega) (by omega) (by omega) (by omega), k1 2 k (by decide) (by decide) (by omega) (by omega)]
  by_cases a5 : a = 5
  · subst a5
    have hk : k < 2176 := by
      apply Nat.lt_of_not_le
      exact fun z => hs (by unfold scR; omega)
    unfold rbk
    rw [pI_sr_ne _ _ (by decide), pI_sr_row, if_pos hk, h.1 7 k (by decide) (by decide) (by omega) (by omega) (by omega) (by omega), k2 k hk]
  by_cases a6 : a = 6
  · subst a6
    unfold rbk
    rw [pI_sr_row]
    by_cases hk : k < 16
    · rw [if_pos hk, h.1 8 k (by decide) (by decide) (by omega) (by omega) (by omega) (by omega), k3 k hk]
    · rw [if_neg hk, h.1 6 k (by decide) (by decide) (by omega) (by omega) (by omega) (by omega), k1 6 k (by decide) (by decide) (by omega) (by omega)]
  rw [r a k a2 a5 a6, h.1 a k (fun z => hs (by unfold scR; omega)) (fun z => hs (by unfold scR; omega)) (by omega) (by omega) (by omega) (fun z => hs (by unfold scR sc0; omega)), k1 a k (fun z => hs (by unfold scR; omega)) (fun z => hs (by unfold scR; omega)) (by omega) (fun z => hs (by unfold scR sc0; omega))]
theorem RelM.s59 {B t : Nat} {gc gr : am_G} (h : RelM B t gc gr) (x : Int32) : RelM B t (am_si gc 0 15 x) (am_si gr 0 59 x) :=
  h.step (Nat.le_refl _) (Nat.le_refl _) ⟨h.1.w (by decide +kernel) x, h.2.1, (Qc.refl gc).si (by decide) (by decide) (by decide), (Qr.refl gr).si (by decide) (by decide), Or.inr ⟨rfl, fun _ _ => rfl⟩⟩
