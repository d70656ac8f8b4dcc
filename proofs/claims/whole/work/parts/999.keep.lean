/-! ===== a law is kept ===== -/
theorem am_co_m {m L : Nat} (h : m ≤ L) (hL : L < 2147483648) : am_min (Int32.ofNat L) (nI m) = nI m := by
  show (if nI m < nI L then nI m else nI L) = nI m
  by_cases c : m < L
  · rw [if_pos (nI_lt c hL)]
  · rw [if_neg (nI_nlt (by omega) (by omega)), show L = m by omega]
theorem q7_copyOf {g : am_G} {a L m : Nat} (hS : am_S g a = (20, L)) (hL : L < 1000) (hm : m ≤ L) (ha : a < am_n g) : ∃ g', fJ7_copyOf_59c91 zc_n a (nI m) g = some (some (am_n g), g') ∧ am_n g' = am_n g + 1 ∧ am_s g' = am_s g + m ∧ am_S g' (am_n g) = (20, m) ∧ (∀ k, k < m → am_I g' (am_n g) k = am_I g a k) ∧ ∀ c, c < am_n g → am_S g' c = am_S g c ∧ am_P g' c = am_P g c ∧ am_I g' c = am_I g c := by
  unfold fJ7_copyOf_59c91
  rw [hS, pu_gd (show decide ((20, L).1 = 20) = true from rfl)]
  by_cases e : m = L
  · subst e
    refine ⟨am_cln g a, ?_, ?_, ?_, ?_, fun k hk => ?_, fun c hc => ⟨?_, ?_, ?_⟩⟩
    · rw [if_pos (show nI m = Int32.ofNat (20, m).2 from rfl), pu_gd (show decide ((20, m).1 = 20) = true from rfl), pu_let, pu_let, pu_gd]
      unfold am_cln
      exact decide_eq_true (by rw [hS]; show (am_S (am_new g 20 m) (am_n g)).1 = 20; rw [pS_new])
    · unfold am_cln; rw [hS]; rfl
    · unfold am_cln; rw [hS]; rfl
    · unfold am_cln; rw [hS]; exact pS_new g 20 m
    · unfold am_cln; rw [pI_sr_row]
    · unfold am_cln; rw [hS]; exact pS_newn (by omega)
    · unfold am_cln; rw [hS]; exact pP_newn (by omega)
    · unfold am_cln; rw [pI_sr_ne _ _ (by omega)]; exact pI_newn (by omega)
  · have hn : ¬ nI m = Int32.ofNat (20, L).2 := fun z => e ((nn_eq (by omega) (by omega)).mp z)
    have s4 : am_S (am_new g 20 m) a = (20, L) := by rw [pS_newn (by omega)]; exact hS
    have sn : am_S (am_new g 20 m) (am_n g) = (20, m) := pS_new g 20 m
    refine ⟨cpa (am_new g 20 m) a (am_n g) m, ?_, by rw [show am_n (cpa (am_new g 20 m) a (am_n g) m) = am_n (am_new g 20 m) from rfl, pn_new], by rw [show am_s (cpa (am_new g 20 m) a (am_n g) m) = am_s (am_new g 20 m) from rfl, ps_new], by rw [cpa_S]; exact sn, fun k hk => ?_, fun c hc => ⟨by rw [cpa_S]; exact pS_newn (by omega), by rw [cpa_P]; exact pP_newn (by omega), by rw [cpa_ne (by omega)]; exact pI_newn (by omega)⟩⟩
    · rw [if_neg hn, pe_gd (show m < 1000001 by omega) (by decide), pu_let, pe_clamp (show m < 2147483648 by omega), pu_let, s4, sn, pu_gd (show decide ((20, L).1 = 20) = true from rfl), pu_gd (show decide ((20, L).1 = 20) = true from rfl), pu_gd (show decide ((20, m).1 = 20) = true from rfl), show Int32.ofNat (20, L).2 = Int32.ofNat L from rfl, am_co_m hm (by omega), pu_gd (show am_co 0 0 (nI m) (20, L).2 (20, m).2 = true from am_co_t hm (Nat.le_refl _) (by omega)), pu_let, pe_clamp (show m < 2147483648 by omega), show (0 : Int32).toNatClampNeg = 0 from rfl, cp_cpa]
    · rw [cpa_k hk, pI_newn (by omega)]
theorem q6_trimmed {g : am_G} {n u N : Nat} (hN : am_n g = N) (h79 : 79 ≤ N) (s34 : am_S g 34 = (20, 72)) (s35 : am_S g 35 = (20, 512)) (e33 : am_I g 33 2 = nI n) (hn : n ≤ 12) (hu : u ≤ 512) : ∃ g', fX6_trimmed (nI u) g = some (some N, g') ∧ am_n g' = N + 3 ∧ am_s g' = am_s g + (3 + 6 * n + u) ∧ am_S g' N = (6, 3) ∧ am_P g' N 0 = some (N + 1) ∧ am_P g' N 1 = some (N + 2) ∧ am_I g' N 2 = nI n ∧ am_S g' (N + 1) = (20, n * 6) ∧ am_S g' (N + 2) = (20, u) ∧ (∀ k, k < n * 6 → am_I g' (N + 1) k = am_I g 34 k) ∧ (∀ k, k < u → am_I g' (N + 2) k = am_I g 35 k) ∧ ∀ c, c < N → am_S g' c = am_S g c ∧ am_P g' c = am_P g c ∧ am_I g' c = am_I g c := by
  have d1 : zc_n ≤ N := h79
  have n1 : am_n (am_new g 6 3) = N + 1 := by rw [pn_new, hN]
  obtain ⟨g1, a1, a2, a3, a4, a5, a6⟩ := q7_copyOf (g := am_new g 6 3) (a := 34) (L := 72) (m := n * 6) (by rw [pS_newn (by omega)]; exact s34) (by decide) (by omega) (by omega)
  rw [n1] at a1 a2 a4 a5 a6
  have i33 : am_I g1 33 2 = nI n := by rw [(a6 33 (by omega)).2.2, pI_newn (by omega)]; exact e33
  obtain ⟨g2, b1, b2, b3, b4, b5, b6⟩ := q7_copyOf (g := g1) (a := 35) (L := 512) (m := u) (by rw [(a6 35 (by omega)).1, pS_newn (by omega)]; exact s35) (by decide) hu (by omega)
  rw [a2] at b1 b2 b4 b5 b6
  have SN : am_S g2 N = (6, 3) := by rw [(b6 N (by omega)).1, (a6 N (by omega)).1, ← hN]; exact pS_new g 6 3
  have j33 : am_I g2 33 2 = nI n := by rw [(b6 33 (by omega)).2.2]; exact i33
  refine ⟨am_si (am_sp (am_sp g2 N 0 (some (N + 1))) N 1 (some (N + 1 + 1))) N 2 (nI n), ?_, by rw [pn_si, pn_sp, pn_sp, b2], ?_, SN, ?_, ?_, pe_ieq _ _ _ _, ?_, b4, fun k hk => ?_, fun k hk => ?_, fun c hc => ⟨?_, ?_, ?_⟩⟩
  · unfold fX6_trimmed
    rw [pu_let, hN, pu_let, show am_I (am_new g 6 3) 33 2 * (6 : Int32) = nI (n * 6) by rw [pI_newn (by omega), e33]; exact nn_mul n 6, a1, pu_bd, pu_ocs, b1, pu_bd, pu_ocs, j33]
    unfold fX6_init
    rw [pu_gd (decide_eq_true SN), pu_gd (decide_eq_true d1), pu_let, pu_gd (decide_eq_true (show am_S (am_sp g2 N 0 (some (N + 1))) N = (6, 3) from SN)), pu_gd (decide_eq_true d1), pu_let, pu_gd (decide_eq_true (show am_S (am_sp (am_sp g2 N 0 (some (N + 1))) N 1 (some (N + 1 + 1))) N = (6, 3) from SN)), pu_let, pu_bd]
  · rw [ps_si, ps_sp, ps_sp, b3, a3, ps_new]; omega
  · rw [pP_si, pP_spk (by decide), pP_spe]
  · rw [pP_si, pP_spe]
  · rw [pS_si, pS_sp, pS_sp, (b6 (N + 1) (by omega)).1]; exact a4
  · rw [pI_si_ne _ _ _ (by omega), pI_sp, pI_sp, (b6 (N + 1) (by omega)).2.2, a5 k hk, pI_newn (by omega)]
  · rw [pI_si_ne _ _ _ (by omega), pI_sp, pI_sp, show N + 2 = N + 1 + 1 from rfl, b5 k hk, (a6 35 (by omega)).2.2, pI_newn (by omega)]
  · rw [pS_si, pS_sp, pS_sp, (b6 c (by omega)).1, (a6 c (by omega)).1, pS_newn (by omega)]
  · rw [pP_si, pP_spn (by omega), pP_spn (by omega), (b6 c (by omega)).2.1, (a6 c (by omega)).2.1, pP_newn (by omega)]
  · rw [pI_si_ne _ _ _ (by omega), pI_sp, pI_sp, (b6 c (by omega)).2.2, (a6 c (by omega)).2.2, pI_newn (by omega)]
/-! the reference copies the clauses and the code -/
theorem lawW1 {K : am_G → Option (Int32 × am_G)} {at' n : Nat} (hat : at' + 900 ≤ 5660) (hn : n ≤ 12) : ∀ (d i f : Nat) (g : am_G), i + d = 8 * n → d < f → am_I g 0 21 = nI n → fX12_law_L111 K (nI at') f (nI i) g = K (am_sr g 2 (fun j => if at' + 2 + i ≤ j ∧ j < at' + 2 + 8 * n then am_I g 10 (j - (at' + 2)) else am_I g 2 j))
  | 0, i, f, g, hd, hf, h21 => by
    obtain ⟨f, rfl⟩ : ∃ m, f = m + 1 := ⟨f - 1, by omega⟩
    obtain rfl : i = 8 * n := by omega
    have e : (fun j => if at' + 2 + 8 * n ≤ j ∧ j < at' + 2 + 8 * n then am_I g 10 (j - (at' + 2)) else am_I g 2 j) = am_I g 2 := by
      funext j
      rw [if_neg (by omega)]
    rw [e, sr_self, fX12_law_L111, h21, show (8 : Int32) * nI n = nI (8 * n) from nn_mul 8 n, if_pos (nI_le (Nat.le_refl _) (by omega))]
  | d + 1, i, f, g, hd, hf, h21 => by
    obtain ⟨f, rfl⟩ : ∃ m, f = m + 1 := ⟨f - 1, by omega⟩
    have IH := lawW1 (K := K) hat hn d (i + 1) f (am_si g 2 (at' + 2 + i) (am_I g 10 i)) (by omega) (by omega) (by rw [pe_ine (by decide)]; exact h21)
    have e : am_sr (am_si g 2 (at' + 2 + i) (am_I g 10 i)) 2 (fun j => if at' + 2 + (i + 1) ≤ j ∧ j < at' + 2 + 8 * n then am_I (am_si g 2 (at' + 2 + i) (am_I g 10 i)) 10 (j - (at' + 2)) else am_I (am_si g 2 (at' + 2 + i) (am_I g 10 i)) 2 j) = am_sr g 2 (fun j => if at' + 2 + i ≤ j ∧ j < at' + 2 + 8 * n then am_I g 10 (j - (at' + 2)) else am_I g 2 j) := by
      show am_sr (am_sr g 2 _) 2 _ = _
      rw [sr_sr]
      congr 1
      funext j
      rw [pI_si_ne _ _ _ (show 10 ≠ 2 by decide), pI_si_row]
      by_cases h : j = at' + 2 + i
      · subst h
        rw [if_neg (by omega), am_up_eq, if_pos (by omega)]
        congr 1
        omega
      · rw [am_up_ne h]
        by_cases h2 : at' + 2 + (i + 1) ≤ j ∧ j < at' + 2 + 8 * n
        · rw [if_pos h2, if_pos (by omega)]
        · rw [if_neg h2, if_neg (by omega)]
    rw [e] at IH
    rw [← IH, fX12_law_L111, h21, show (8 : Int32) * nI n = nI (8 * n) from nn_mul 8 n, if_neg (nI_ge (show i < 8 * n by omega) (by omega)), pe_gd (show i < 96 by omega) (by decide), show nI at' + (2 : Int32) = nI (at' + 2) from nI_add at' 2, nI_add, pe_gd (show at' + 2 + i < 5660 by omega) (by decide), pu_let, pe_clamp (show at' + 2 + i < 2147483648 by omega), pe_clamp (show i < 2147483648 by omega), pu_let, show nI i + (1 : Int32) = nI (i + 1) from nI_add i 1]
def cdF (g : am_G) (at' i c : Nat) : Nat → Int32 := fun j => if at' + 98 + 2 * i ≤ j ∧ j < at' + 98 + 2 * c then (if (j - (at' + 98)) % 2 = 0 then am_I g 11 ((j - (at' + 98)) / 2) else am_I g 12 ((j - (at' + 98)) / 2)) else am_I g 2 j
theorem lawW2 {K : am_G → Option (Int32 × am_G)} {at' c : Nat} (hat : at' + 900 ≤ 5660) (hn : c ≤ 400) : ∀ (d i f : Nat) (g : am_G), i + d = c → d < f → am_I g 0 23 = nI c → fX12_law_L146 K (nI at') f (nI i) g = K (am_sr g 2 (cdF g at' i c))
  | 0, i, f, g, hd, hf, h23 => by
    obtain ⟨f, rfl⟩ : ∃ m, f = m + 1 := ⟨f - 1, by omega⟩
    obtain rfl : i = c := by omega
    have e : cdF g at' i i = am_I g 2 := by
      funext j
      unfold cdF
      rw [if_neg (by omega)]
    rw [e, sr_self, fX12_law_L146, h23, if_pos (nI_le (Nat.le_refl _) (by omega))]
  | d + 1, i, f, g, hd, hf, h23 => by
    obtain ⟨f, rfl⟩ : ∃ m, f = m + 1 := ⟨f - 1, by omega⟩
    have IH := lawW2 (K := K) hat hn d (i + 1) f (am_si (am_si g 2 (at' + 98 + 2 * i) (am_I g 11 i)) 2 (at' + 98 + 2 * i + 1) (am_I g 12 i)) (by omega) (by omega) (by rw [pe_ine (by decide), pe_ine (by decide)]; exact h23)
    have e : am_sr (am_si (am_si g 2 (at' + 98 + 2 * i) (am_I g 11 i)) 2 (at' + 98 + 2 * i + 1) (am_I g 12 i)) 2 (cdF (am_si (am_si g 2 (at' + 98 + 2 * i) (am_I g 11 i)) 2 (at' + 98 + 2 * i + 1) (am_I g 12 i)) at' (i + 1) c) = am_sr g 2 (cdF g at' i c) := by
      show am_sr (am_sr (am_sr g 2 _) 2 _) 2 _ = _
      rw [sr_sr, sr_sr]
      congr 1
      funext j
      unfold cdF
      rw [pI_si_ne _ _ _ (show 11 ≠ 2 by decide), pI_si_ne _ _ _ (show 11 ≠ 2 by decide), pI_si_ne _ _ _ (show 12 ≠ 2 by decide), pI_si_ne _ _ _ (show 12 ≠ 2 by decide), pI_si_row, pI_si_row]
      by_cases h : j = at' + 98 + 2 * i
      · subst h
        rw [if_neg (by omega), am_up_ne (by omega), am_up_eq, if_pos (by omega), if_pos (by omega)]
        congr 1
        omega
      · by_cases h1 : j = at' + 98 + 2 * i + 1
        · subst h1
          rw [if_neg (by omega), am_up_eq, if_pos (by omega), if_neg (by omega)]
          congr 1
          omega
        · rw [am_up_ne h1, am_up_ne h]
          by_cases h2 : at' + 98 + 2 * (i + 1) ≤ j ∧ j < at' + 98 + 2 * c
          · rw [if_pos h2, if_pos (show at' + 98 + 2 * i ≤ j ∧ j < at' + 98 + 2 * c by omega)]
          · rw [if_neg h2, if_neg (by omega)]
    rw [e] at IH
    have a0 : nI at' + (98 : Int32) + (2 : Int32) * nI i = nI (at' + 98 + 2 * i) := by
      rw [show nI at' + (98 : Int32) = nI (at' + 98) from nI_add at' 98, show (2 : Int32) * nI i = nI (2 * i) from nn_mul 2 i, nI_add]
    rw [← IH, fX12_law_L146, h23, if_neg (nI_ge (show i < c by omega) (by omega)), a0, pe_gd (show i < 400 by omega) (by decide), pe_gd (show at' + 98 + 2 * i < 5660 by omega) (by decide), pu_let, pe_clamp (show at' + 98 + 2 * i < 2147483648 by omega), pe_clamp (show i < 2147483648 by omega), pe_gd (show i < 400 by omega) (by decide), show nI (at' + 98 + 2 * i) + (1 : Int32) = nI (at' + 98 + 2 * i + 1) from nI_add _ 1, pe_gd (show at' + 98 + 2 * i + 1 < 5660 by omega) (by decide), pu_let, pe_clamp (show at' + 98 + 2 * i + 1 < 2147483648 by omega), pe_ine (show (12 : Nat) ≠ 2 by decide), pu_let, show nI i + (1 : Int32) = nI (i + 1) from nI_add i 1]
