/-! ===== copying a pack; the undo rings ===== -/
theorem am_co_t {m l0 l : Nat} (h1 : m ≤ l0) (h2 : m ≤ l) (hm : m < 2147483648) : am_co (nI 0) (nI 0) (nI m) l0 l = true := by
  unfold am_co
  have a : decide (nI 0 < 0) = false := by decide
  have b : decide (nI m < 0) = false := decide_eq_false (nI_nlt (b := 0) (Nat.zero_le _) hm)
  rw [a, b, pe_clamp hm, pe_clamp (by decide)]
  simp [h1, h2]
theorem pco {m l0 l : Nat} {β : Type} {k : Option β} (h1 : m ≤ l0) (h2 : m ≤ l) (hm : m < 2147483648) : am_gd (am_co (nI 0) (nI 0) (nI m) l0 l) k = k := pu_gd (am_co_t h1 h2 hm)
/-- one array laid over another -/
def cpa (g : am_G) (a b n : Nat) : am_G := am_sr g b (fun k => if k < n then am_I g a k else am_I g b k)
theorem cp_cpa (g : am_G) (a b n : Nat) : am_cp g a b 0 0 n = cpa g a b n := by
  unfold am_cp cpa va_cpy
  congr 1
  funext k
  by_cases h : k < n
  · rw [if_pos (by omega), if_pos h]; congr 1; omega
  · rw [if_neg (by omega), if_neg h]
theorem cpa_S (g : am_G) (a b n : Nat) : am_S (cpa g a b n) = am_S g := Eq.trans rfl (Eq.trans rfl rfl)
theorem cpa_P (g : am_G) (a b n : Nat) : am_P (cpa g a b n) = am_P g := Eq.trans rfl (Eq.trans rfl rfl)
theorem cpa_ne {g : am_G} {a b n c : Nat} (h : c ≠ b) : am_I (cpa g a b n) c = am_I g c := pI_sr_ne _ _ h
theorem cpa_k {g : am_G} {a b n k : Nat} (h : k < n) : am_I (cpa g a b n) b k = am_I g a k := by
  unfold cpa
  rw [pI_sr_row, if_pos h]
/-- a copied pack: all its places are the other's -/
def cpk (g : am_G) (b a : Nat) : am_G := am_si (am_si (am_si (cpa (cpa (cpa (cpa (cpa g (a + 1) (b + 1) 6) (a + 2) (b + 2) 6) (a + 3) (b + 3) 36) (a + 4) (b + 4) 36) (a + 5) (b + 5) 6) b 5 (am_I g a 5)) b 6 (am_I g a 6)) b 7 (am_I g a 7)
theorem q2_copyFrom {g : am_G} {b a : Nat} (hb : PkS g b) (ha : PkS g a) (hd : b + 6 ≤ a ∨ a + 6 ≤ b) : fX2_copyFrom b a g = some ((), cpk g b a) := by
  obtain ⟨h0, h1, h2, h3, h4, h5, s1, s2, s3, s4, s5⟩ := hb
  obtain ⟨i0, i1, i2, i3, i4, i5, t1, t2, t3, t4, t5⟩ := ha
  unfold fX2_copyFrom cpk
  have n5 : ∀ c, c = a → (c ≠ b + 1 ∧ c ≠ b + 2 ∧ c ≠ b + 3 ∧ c ≠ b + 4 ∧ c ≠ b + 5 ∧ c ≠ b) := by intro c hc; omega
  obtain ⟨m1, m2, m3, m4, m5, m0⟩ := n5 a rfl
  simp (disch := first | omega | assumption | decide) only [↓pv_let, ↓pv_jn, ↓reduceIte, pv_bd, ↓pv_ocs, ↓pv_ocn, pv_gdt, pe_gd, pe_clamp, pt_eq, pf_eq, pt_le, pf_le, pt_lt, pf_lt, nI_add, nn_mul, pe_sub, pb_0, pb_1, pb_z, pe_ieq, pe_ine, pe_ik, pP_si, pS_si, pn_si, ps_si, pL_si, decide_true, ofNat_nI, pe_srI, pe_srN, pe_srS, pe_srP, not_true_eq_false, not_false_eq_true, true_and, and_true, and_self, false_and, and_false, nI_m1, nI_ms, Nat.add_sub_cancel, pl_0, pl_1, pl_2, pl_3, pl_4, pl_5, pl_6, pl_7, pl_8, pl_9, pl_10, pl_11, pl_12, pl_13, pl_14, pl_15, pl_16, pl_17, pl_18, pl_19, pl_20, pl_21, pl_22, pl_23, pl_24, pl_25, pl_26, pl_27, pl_28, pl_29, pl_30, pl_31, pl_32, pl_34, pl_36, pl_37, pl_40, pl_41, pl_42, pl_43, pl_45, pl_47, pl_48, pl_50, pl_57, pl_59, pl_60, pl_61, pl_62, pl_64, pl_70, pl_91, pl_93, pl_97, pl_98, pl_99, pl_100, pl_106, pl_122, pl_128, pl_136, pl_142, pl_165, pl_168, pl_170, pl_171, pl_173, pl_175, pl_187, pl_188, pl_189, pl_190, pl_206, pl_211, pl_219, pl_229, pl_255, pl_260, pl_400, pl_500, pl_512, pl_900, pl_999, pl_1000, pl_1001, pl_1005, pl_1020, pl_1023, pl_1024, pl_1103, pl_2000, pl_2040, pl_2176, pl_5660, pl_9999, pl_12345, pl_1000000, pl_1000003, pl_100000000, pl_1000000000, pz_0, pz_1, pz_t, h0, h1, h2, h3, h4, h5, s1, s2, s3, s4, s5, i0, i1, i2, i3, i4, i5, t1, t2, t3, t4, t5, pco, cp_cpa, cpa_S, cpa_P, cpa_ne m1, cpa_ne m2, cpa_ne m3, cpa_ne m4, cpa_ne m5, pe_ine m0]
def FcK (b : Nat) (g g' : am_G) : Prop := g'.2 = g.2 ∧ ∀ a, ¬ (b ≤ a ∧ a ≤ b + 5) → am_I g' a = am_I g a
theorem cpk_fr (g : am_G) (b a : Nat) : FcK b g (cpk g b a) := by
  refine ⟨rfl, fun c hc => ?_⟩
  unfold cpk
  rw [pI_si_ne _ _ _ (by omega), pI_si_ne _ _ _ (by omega), pI_si_ne _ _ _ (by omega), cpa_ne (by omega), cpa_ne (by omega), cpa_ne (by omega), cpa_ne (by omega), cpa_ne (by omega)]
theorem cpk_at {g : am_G} {b a : Nat} (hd : b + 6 ≤ a ∨ a + 6 ≤ b) {c k : Nat} (h : (c = 0 ∧ (k = 5 ∨ k = 6 ∨ k = 7)) ∨ ((c = 1 ∨ c = 2 ∨ c = 5) ∧ k < 6) ∨ ((c = 3 ∨ c = 4) ∧ k < 36)) : am_I (cpk g b a) (b + c) k = am_I g (a + c) k := by
  unfold cpk
  rcases h with ⟨rfl, rfl | rfl | rfl⟩ | ⟨rfl | rfl | rfl, hk⟩ | ⟨rfl | rfl, hk⟩
  · simp (disch := first | omega | decide) only [Nat.add_zero, pe_ik, pe_ieq]
  · simp (disch := first | omega | decide) only [Nat.add_zero, pe_ik, pe_ieq]
  · simp (disch := first | omega | decide) only [Nat.add_zero, pe_ik, pe_ieq]
  · rw [pI_si_ne _ _ _ (by omega), pI_si_ne _ _ _ (by omega), pI_si_ne _ _ _ (by omega), cpa_ne (by omega), cpa_ne (by omega), cpa_ne (by omega), cpa_ne (by omega), cpa_k hk]
  · rw [pI_si_ne _ _ _ (by omega), pI_si_ne _ _ _ (by omega), pI_si_ne _ _ _ (by omega), cpa_ne (by omega), cpa_ne (by omega), cpa_ne (by omega), cpa_k hk, cpa_ne (by omega)]
  · rw [pI_si_ne _ _ _ (by omega), pI_si_ne _ _ _ (by omega), pI_si_ne _ _ _ (by omega), cpa_k hk, cpa_ne (by omega), cpa_ne (by omega), cpa_ne (by omega), cpa_ne (by omega)]
  · rw [pI_si_ne _ _ _ (by omega), pI_si_ne _ _ _ (by omega), pI_si_ne _ _ _ (by omega), cpa_ne (by omega), cpa_ne (by omega), cpa_k hk, cpa_ne (by omega), cpa_ne (by omega)]
  · rw [pI_si_ne _ _ _ (by omega), pI_si_ne _ _ _ (by omega), pI_si_ne _ _ _ (by omega), cpa_ne (by omega), cpa_k hk, cpa_ne (by omega), cpa_ne (by omega), cpa_ne (by omega)]
theorem vT_pk : ∀ j, j < 259 → (vT j).1 = true → ((vT j).2.1 = 0 ∧ ((vT j).2.2 = 5 ∨ (vT j).2.2 = 6 ∨ (vT j).2.2 = 7)) ∨ (((vT j).2.1 = 1 ∨ (vT j).2.1 = 2 ∨ (vT j).2.1 = 5) ∧ (vT j).2.2 < 6) ∨ (((vT j).2.1 = 3 ∨ (vT j).2.1 = 4) ∧ (vT j).2.2 < 36) := by decide +kernel
/-- behind a copy the row at b is the row at a was -/
theorem cpk_vr {g : am_G} {v b a : Nat} (hv : VP v b) (hd : b + 6 ≤ a ∨ a + 6 ≤ b) : vr (cpk g b a) v b = vr g v a := by
  funext j
  by_cases hj : j < 259
  · rw [vr_at hj, vr_at hj]
    have sm := vT_sm j hj
    unfold vA vS
    cases hc : (vT j).1
    · have h1 := sm.2.1 hc
      simp only [if_false, Bool.false_eq_true]
      unfold VP at hv
      rw [(cpk_fr g b a).2 _ (by omega)]
    · simp only [if_true]
      exact cpk_at hd (vT_pk j hj hc)
  · unfold vr; rw [if_neg hj, if_neg hj]
theorem cpk_vr' {g : am_G} {v b a p : Nat} (hp : p + 6 ≤ b ∨ b + 6 ≤ p) (hv : v + 23 ≤ b ∨ b + 6 ≤ v) : vr (cpk g b a) v p = vr g v p := vr_cg fun c hc => (cpk_fr g b a).2 c (by omega)
/-! a new pack -/
theorem pn_new (g : am_G) (k l : Nat) : am_n (am_new g k l) = am_n g + 1 := Eq.trans rfl (Eq.trans rfl rfl)
theorem ps_new (g : am_G) (k l : Nat) : am_s (am_new g k l) = am_s g + l := Eq.trans rfl (Eq.trans rfl rfl)
theorem pS_new (g : am_G) (k l : Nat) : am_S (am_new g k l) (am_n g) = (k, l) := am_up_eq
theorem pS_newn {g : am_G} {k l a : Nat} (h : a ≠ am_n g) : am_S (am_new g k l) a = am_S g a := am_up_ne h
theorem pP_newn {g : am_G} {k l a : Nat} (h : a ≠ am_n g) : am_P (am_new g k l) a = am_P g a := am_up_ne h
theorem pI_newn {g : am_G} {k l a : Nat} (h : a ≠ am_n g) : am_I (am_new g k l) a = am_I g a := am_up_ne h
theorem pI_sp (g : am_G) (a k : Nat) (x : Option Nat) : am_I (am_sp g a k x) = am_I g := Eq.trans rfl (Eq.trans rfl rfl)
theorem pS_sp (g : am_G) (a k : Nat) (x : Option Nat) : am_S (am_sp g a k x) = am_S g := Eq.trans rfl (Eq.trans rfl rfl)
theorem pn_sp (g : am_G) (a k : Nat) (x : Option Nat) : am_n (am_sp g a k x) = am_n g := Eq.trans rfl (Eq.trans rfl rfl)
theorem ps_sp (g : am_G) (a k : Nat) (x : Option Nat) : am_s (am_sp g a k x) = am_s g := Eq.trans rfl (Eq.trans rfl rfl)
theorem pP_spe (g : am_G) (a k : Nat) (x : Option Nat) : am_P (am_sp g a k x) a k = x := by
  show am_up (am_P g) a (am_up (am_P g a) k x) a k = x
  rw [am_up_eq, am_up_eq]
theorem pP_spk {g : am_G} {a k : Nat} {x : Option Nat} {j : Nat} (h : j ≠ k) : am_P (am_sp g a k x) a j = am_P g a j := by
  show am_up (am_P g) a (am_up (am_P g a) k x) a j = _
  rw [am_up_eq, am_up_ne h]
theorem pP_spn {g : am_G} {a k : Nat} {x : Option Nat} {b : Nat} (h : b ≠ a) : am_P (am_sp g a k x) b = am_P g b := am_up_ne h
theorem newA {h : am_G} {n m i l : Nat} (hm : am_n h = m) (hn : n < m) (hS : am_S h n = (2, 8)) : am_n (am_sp (am_new h 20 l) n i (some m)) = m + 1 ∧ am_s (am_sp (am_new h 20 l) n i (some m)) = am_s h + l ∧ am_S (am_sp (am_new h 20 l) n i (some m)) n = (2, 8) ∧ am_S (am_sp (am_new h 20 l) n i (some m)) m = (20, l) ∧ (∀ a, a < m → am_S (am_sp (am_new h 20 l) n i (some m)) a = am_S h a) ∧ (∀ a, a < m → a ≠ n → am_P (am_sp (am_new h 20 l) n i (some m)) a = am_P h a) ∧ am_P (am_sp (am_new h 20 l) n i (some m)) n i = some m ∧ (∀ j, j ≠ i → am_P (am_sp (am_new h 20 l) n i (some m)) n j = am_P h n j) ∧ (∀ a, a < m → am_I (am_sp (am_new h 20 l) n i (some m)) a = am_I h a) ∧ am_S (am_new h 20 l) n = (2, 8) := by
  subst hm
  refine ⟨by rw [pn_sp, pn_new], by rw [ps_sp, ps_new], ?_, by rw [pS_sp, pS_new], fun a ha => by rw [pS_sp, pS_newn (by omega)], fun a ha hne => by rw [pP_spn hne, pP_newn (by omega)], pP_spe _ _ _ _, fun j hj => by rw [pP_spk hj, pP_newn (by omega)], fun a ha => by rw [pI_sp, pI_newn (by omega)], by rw [pS_newn (by omega)]; exact hS⟩
  rw [pS_sp, pS_newn (by omega)]
  exact hS
theorem q2_init {g : am_G} {n : Nat} (hn : am_n g = n) (hn79 : 79 ≤ n) : ∃ g', fX2_init zc_n n (am_new g 2 8) = some ((), g') ∧ am_n g' = n + 6 ∧ am_s g' = am_s g + 98 ∧ PkS g' n ∧ ∀ a, a < n → am_S g' a = am_S g a ∧ am_P g' a = am_P g a ∧ am_I g' a = am_I g a := by
  have d1 : zc_n ≤ n := hn79
  have a0 : am_n (am_new g 2 8) = n + 1 := by rw [pn_new, hn]
  have S0 : am_S (am_new g 2 8) n = (2, 8) := by rw [← hn]; exact pS_new g 2 8
  obtain ⟨b1, b2, b3, b4, b5, b6, b7, b8, b9, b10⟩ := newA (i := 0) (l := 6) a0 (Nat.lt_succ_self n) S0
  generalize h1 : am_sp (am_new (am_new g 2 8) 20 6) n 0 (some (n + 1)) = k1 at b1 b2 b3 b4 b5 b6 b7 b8 b9
  obtain ⟨c1, c2, c3, c4, c5, c6, c7, c8, c9, c10⟩ := newA (i := 1) (l := 6) b1 (by omega) b3
  generalize h2 : am_sp (am_new k1 20 6) n 1 (some (n + 1 + 1)) = k2 at c1 c2 c3 c4 c5 c6 c7 c8 c9
  obtain ⟨e1, e2, e3, e4, e5, e6, e7, e8, e9, e10⟩ := newA (i := 2) (l := 36) c1 (by omega) c3
  generalize h3 : am_sp (am_new k2 20 36) n 2 (some (n + 1 + 1 + 1)) = k3 at e1 e2 e3 e4 e5 e6 e7 e8 e9
  obtain ⟨f1, f2, f3, f4, f5, f6, f7, f8, f9, f10⟩ := newA (i := 3) (l := 36) e1 (by omega) e3
  generalize h4 : am_sp (am_new k3 20 36) n 3 (some (n + 1 + 1 + 1 + 1)) = k4 at f1 f2 f3 f4 f5 f6 f7 f8 f9
  obtain ⟨i1, i2, i3, i4, i5, i6, i7, i8, i9, i10⟩ := newA (i := 4) (l := 6) f1 (by omega) f3
  refine ⟨am_sp (am_new k4 20 6) n 4 (some (n + 1 + 1 + 1 + 1 + 1)), ?_, by rw [i1], ?_, ?_, fun a ha => ?_⟩
  · unfold fX2_init
    rw [pu_let, a0, pu_let, pu_gd (decide_eq_true b10), pu_gd (decide_eq_true d1), pu_let, h1, pu_let, b1, pu_let, pu_gd (decide_eq_true c10), pu_gd (decide_eq_true d1), pu_let, h2, pu_let, c1, pu_let, pu_gd (decide_eq_true e10), pu_gd (decide_eq_true d1), pu_let, h3, pu_let, e1, pu_let, pu_gd (decide_eq_true f10), pu_gd (decide_eq_true d1), pu_let, h4, pu_let, f1, pu_let, pu_gd (decide_eq_true i10), pu_gd (decide_eq_true d1), pu_let]
  · rw [i2, f2, e2, c2, b2, ps_new]
  · refine ⟨i3, ?_, ?_, ?_, ?_, i7, ?_, ?_, ?_, ?_, i4⟩
    · rw [i8 0 (by decide), f8 0 (by decide), e8 0 (by decide), c8 0 (by decide)]; exact b7
    · rw [i8 1 (by decide), f8 1 (by decide), e8 1 (by decide)]; exact c7
    · rw [i8 2 (by decide), f8 2 (by decide)]; exact e7
    · rw [i8 3 (by decide)]; exact f7
    · rw [i5 _ (by omega), f5 _ (by omega), e5 _ (by omega), c5 _ (by omega)]; exact b4
    · rw [i5 _ (by omega), f5 _ (by omega), e5 _ (by omega)]; exact c4
    · rw [i5 _ (by omega), f5 _ (by omega)]; exact e4
    · rw [i5 _ (by omega)]; exact f4
  · refine ⟨?_, ?_, ?_⟩
    · rw [i5 _ (by omega), f5 _ (by omega), e5 _ (by omega), c5 _ (by omega), b5 _ (by omega), pS_newn (by omega)]
    · rw [i6 _ (by omega) (by omega), f6 _ (by omega) (by omega), e6 _ (by omega) (by omega), c6 _ (by omega) (by omega), b6 _ (by omega) (by omega), pP_newn (by omega)]
    · rw [i9 _ (by omega), f9 _ (by omega), e9 _ (by omega), c9 _ (by omega), b9 _ (by omega), pI_newn (by omega)]
