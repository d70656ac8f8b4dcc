/-! ===== a valley copied ===== -/
/-- words copied -/
def cpw (g : am_G) (b a : Nat) : am_G := am_si (cpa (cpa (cpa (cpa g (a + 1) (b + 1) 16) (a + 2) (b + 2) 16) (a + 3) (b + 3) 16) (a + 4) (b + 4) 16) b 4 (am_I g a 4)
def WdS (g : am_G) (p : Nat) : Prop := am_S g p = (10, 5) ∧ am_P g p 0 = some (p + 1) ∧ am_P g p 1 = some (p + 2) ∧ am_P g p 2 = some (p + 3) ∧ am_P g p 3 = some (p + 4) ∧ am_S g (p + 1) = (20, 16) ∧ am_S g (p + 2) = (20, 16) ∧ am_S g (p + 3) = (20, 16) ∧ am_S g (p + 4) = (20, 16)
theorem q10_copyFrom {g : am_G} {b a : Nat} (hb : WdS g b) (ha : WdS g a) (hd : b + 5 ≤ a ∨ a + 5 ≤ b) : fX10_copyFrom b a g = some ((), cpw g b a) := by
  obtain ⟨h0, h1, h2, h3, h4, s1, s2, s3, s4⟩ := hb
  obtain ⟨i0, i1, i2, i3, i4, t1, t2, t3, t4⟩ := ha
  unfold fX10_copyFrom cpw
  have n5 : ∀ c, c = a → (c ≠ b + 1 ∧ c ≠ b + 2 ∧ c ≠ b + 3 ∧ c ≠ b + 4 ∧ c ≠ b) := by intro c hc; omega
  obtain ⟨m1, m2, m3, m4, m0⟩ := n5 a rfl
  simp (disch := first | omega | assumption | decide) only [↓pv_let, ↓pv_jn, ↓reduceIte, pv_bd, ↓pv_ocs, ↓pv_ocn, pv_gdt, pe_gd, pe_clamp, pt_eq, pf_eq, pt_le, pf_le, pt_lt, pf_lt, nI_add, nn_mul, pe_sub, pb_0, pb_1, pb_z, pe_ieq, pe_ine, pe_ik, pP_si, pS_si, pn_si, ps_si, pL_si, decide_true, ofNat_nI, pe_srI, pe_srN, pe_srS, pe_srP, not_true_eq_false, not_false_eq_true, true_and, and_true, and_self, false_and, and_false, nI_m1, nI_ms, Nat.add_sub_cancel, pl_0, pl_1, pl_2, pl_3, pl_4, pl_5, pl_6, pl_7, pl_8, pl_9, pl_10, pl_11, pl_12, pl_13, pl_14, pl_15, pl_16, pl_17, pl_18, pl_19, pl_20, pl_21, pl_22, pl_23, pl_24, pl_25, pl_26, pl_27, pl_28, pl_29, pl_30, pl_31, pl_32, pl_34, pl_36, pl_37, pl_40, pl_41, pl_42, pl_43, pl_45, pl_47, pl_48, pl_50, pl_57, pl_59, pl_60, pl_61, pl_62, pl_64, pl_70, pl_91, pl_93, pl_97, pl_98, pl_99, pl_100, pl_106, pl_122, pl_128, pl_136, pl_142, pl_165, pl_168, pl_170, pl_171, pl_173, pl_175, pl_187, pl_188, pl_189, pl_190, pl_206, pl_211, pl_219, pl_229, pl_255, pl_260, pl_400, pl_500, pl_512, pl_900, pl_999, pl_1000, pl_1001, pl_1005, pl_1020, pl_1023, pl_1024, pl_1103, pl_2000, pl_2040, pl_2176, pl_5660, pl_9999, pl_12345, pl_1000000, pl_1000003, pl_100000000, pl_1000000000, pz_0, pz_1, pz_t, h0, h1, h2, h3, h4, s1, s2, s3, s4, i0, i1, i2, i3, i4, t1, t2, t3, t4, pco, cp_cpa, cpa_S, cpa_P, cpa_ne m1, cpa_ne m2, cpa_ne m3, cpa_ne m4]
theorem ImS.wd {g : am_G} {v : Nat} (h : ImS g v) : WdS g (v + 11) := by
  obtain ⟨h1, h2, h3, h4, h5, h6, h7, h8, -⟩ := h
  exact ⟨h7, (h8 0 (by decide)).1, (h8 1 (by decide)).1, (h8 2 (by decide)).1, (h8 3 (by decide)).1, (h8 0 (by decide)).2, (h8 1 (by decide)).2, (h8 2 (by decide)).2, (h8 3 (by decide)).2⟩
/-- all rows of a valley, but for its own numbers and its laws -/
def cpR (g : am_G) (b a : Nat) : am_G := cpa (cpa (cpa (cpa (cpa (cpa (cpa (cpa (cpa (cpa (cpa (cpw (cpk g (b + 1) (a + 1)) (b + 11) (a + 11)) (a + 7) (b + 7) 6) (a + 8) (b + 8) 6) (a + 9) (b + 9) 6) (a + 10) (b + 10) 24) (a + 16) (b + 16) 5) (a + 17) (b + 17) 6) (a + 18) (b + 18) 6) (a + 19) (b + 19) 6) (a + 20) (b + 20) 10) (a + 21) (b + 21) 10) (a + 22) (b + 22) 10
/-- laws copied -/
def cpL (g : am_G) (b a : Nat) : am_G := am_srP g (b + 23) (fun l => if l < 6 then am_P g (a + 23) l else am_P g (b + 23) l)
def cpN (g : am_G) (b a : Nat) : am_G := am_si (am_si (am_si (am_si (am_si (am_si g b 14 (am_I g a 14)) b 15 (am_I g a 15)) b 16 (am_I g a 16)) b 17 (am_I g a 17)) b 18 (am_I g a 18)) b 19 (am_I g a 19)
def cpV (g : am_G) (b a : Nat) : am_G := cpN (cpL (cpR g b a) b a) b a
theorem srP_srP (g : am_G) (a : Nat) (f f' : Nat → Option Nat) : am_srP (am_srP g a f) a f' = am_srP g a f' := by
  have e : am_P (am_srP (am_srP g a f) a f') = am_P (am_srP g a f') := by
    funext b
    show am_up (am_up (am_P g) a f) a f' b = am_up (am_P g) a f' b
    by_cases h : b = a
    · subst h; rw [am_up_eq, am_up_eq]
    · rw [am_up_ne h, am_up_ne h, am_up_ne h]
  exact Prod.ext rfl (Prod.ext rfl (Prod.ext e rfl))
theorem srP_self (g : am_G) (a : Nat) : am_srP g a (am_P g a) = g := by
  have e : am_P (am_srP g a (am_P g a)) = am_P g := by
    funext b
    show am_up (am_P g) a (am_P g a) b = am_P g b
    by_cases h : b = a
    · subst h; rw [am_up_eq]
    · rw [am_up_ne h]
  exact Prod.ext rfl (Prod.ext rfl (Prod.ext e rfl))
theorem cpLL {b a : Nat} {k : am_G → Option (Unit × am_G)} (hd : b + 24 ≤ a ∨ a + 24 ≤ b) (hb24 : 79 ≤ b + 23 ∨ b + 23 = 24) : ∀ (d i n : Nat) (g : am_G), i + d = 6 → d < n → ImS g b → ImS g a → (∀ l p, l < 6 → am_P g (a + 23) l = some p → am_S g p = (6, 3)) → fX9_copyFrom_L188 k b a n (nI i) g = k (am_srP g (b + 23) (fun l => if i ≤ l ∧ l < 6 then am_P g (a + 23) l else am_P g (b + 23) l))
  | 0, i, n, g, hd', hn, hb, ha, hS => by
    obtain ⟨n, rfl⟩ : ∃ k, n = k + 1 := ⟨n - 1, by omega⟩
    obtain rfl : i = 6 := by omega
    have e : (fun l => if 6 ≤ l ∧ l < 6 then am_P g (a + 23) l else am_P g (b + 23) l) = am_P g (b + 23) := by
      funext l
      rw [if_neg (by omega)]
    rw [e, srP_self, fX9_copyFrom_L188]
    simp (disch := first | omega | assumption | decide) only [↓pv_let, ↓pv_jn, ↓reduceIte, pv_bd, ↓pv_ocs, ↓pv_ocn, pv_gdt, pe_gd, pe_clamp, pt_eq, pf_eq, pt_le, pf_le, pt_lt, pf_lt, nI_add, nn_mul, pe_sub, pb_0, pb_1, pb_z, pe_ieq, pe_ine, pe_ik, pP_si, pS_si, pn_si, ps_si, pL_si, decide_true, ofNat_nI, pe_srI, pe_srN, pe_srS, pe_srP, not_true_eq_false, not_false_eq_true, true_and, and_true, and_self, false_and, and_false, nI_m1, nI_ms, Nat.add_sub_cancel, pl_0, pl_1, pl_2, pl_3, pl_4, pl_5, pl_6, pl_7, pl_8, pl_9, pl_10, pl_11, pl_12, pl_13, pl_14, pl_15, pl_16, pl_17, pl_18, pl_19, pl_20, pl_21, pl_22, pl_23, pl_24, pl_25, pl_26, pl_27, pl_28, pl_29, pl_30, pl_31, pl_32, pl_34, pl_36, pl_37, pl_40, pl_41, pl_42, pl_43, pl_45, pl_47, pl_48, pl_50, pl_57, pl_59, pl_60, pl_61, pl_62, pl_64, pl_70, pl_91, pl_93, pl_97, pl_98, pl_99, pl_100, pl_106, pl_122, pl_128, pl_136, pl_142, pl_165, pl_168, pl_170, pl_171, pl_173, pl_175, pl_187, pl_188, pl_189, pl_190, pl_206, pl_211, pl_219, pl_229, pl_255, pl_260, pl_400, pl_500, pl_512, pl_900, pl_999, pl_1000, pl_1001, pl_1005, pl_1020, pl_1023, pl_1024, pl_1103, pl_2000, pl_2040, pl_2176, pl_5660, pl_9999, pl_12345, pl_1000000, pl_1000003, pl_100000000, pl_1000000000, pz_0, pz_1, pz_t]
  | d + 1, i, n, g, hd', hn, hb, ha, hS => by
    obtain ⟨n, rfl⟩ : ∃ k, n = k + 1 := ⟨n - 1, by omega⟩
    obtain ⟨b1, b2, b3, b4, b5, b6, b7, b8, b9, b10, b11, b12, b13, b14, b15, b16, b17, b18, b19, b20⟩ := id hb
    obtain ⟨a1, a2, a3, a4, a5, a6, a7, a8, a9, a10, a11, a12, a13, a14, a15, a16, a17, a18, a19, a20⟩ := id ha
    have hg : (decide (zc_n ≤ b + 23) || decide (b + 23 = 24)) = true := by
      rcases hb24 with z | z
      · rw [decide_eq_true (show zc_n ≤ b + 23 from z)]; rfl
      · rw [decide_eq_true z, Bool.or_true]
    have nP : ∀ c x, c ≠ b + 23 → am_P (am_sp g (b + 23) i x) c = am_P g c := fun c x hc => pP_spn hc
    have im : ∀ x v, ImS g v → (v + 24 ≤ b ∨ b + 24 ≤ v ∨ v = b) → ImS (am_sp g (b + 23) i x) v := by
      intro x v hv hvb
      obtain ⟨c1, c2, c3, c4, c5, c6, c7, c8, c9, c10, c11, c12, c13, c14, c15, c16, c17, c18, c19, c20⟩ := hv
      have e0 : am_P (am_sp g (b + 23) i x) v = am_P g v := nP v x (by omega)
      refine ⟨c1, c2.tra (fun _ _ _ => rfl) (nP _ x (by omega)), c3, c4, c5, c6, c7, fun c hc => ⟨by rw [nP _ x (by omega)]; exact (c8 c hc).1, (c8 c hc).2⟩, c9, c10, c11, ?_⟩
      rw [e0]
      exact ⟨c12, c13, c14, c15, c16, c17, c18, c19, c20⟩
    have IH := fun x => cpLL (k := k) hd hb24 d (i + 1) n (am_sp g (b + 23) i x) (by omega) (by omega) (im x b hb (Or.inr (Or.inr rfl))) (im x a ha (by omega)) (fun l p hl hp => by rw [nP _ x (by omega)] at hp; exact hS l p hl hp)
    have fin : ∀ x, am_P g (a + 23) i = x → am_srP (am_sp g (b + 23) i x) (b + 23) (fun l => if i + 1 ≤ l ∧ l < 6 then am_P (am_sp g (b + 23) i x) (a + 23) l else am_P (am_sp g (b + 23) i x) (b + 23) l) = am_srP g (b + 23) (fun l => if i ≤ l ∧ l < 6 then am_P g (a + 23) l else am_P g (b + 23) l) := by
      intro x hx
      show am_srP (am_srP g (b + 23) _) (b + 23) _ = _
      rw [srP_srP]
      congr 1
      funext l
      rw [nP _ x (by omega)]
      by_cases h1 : i + 1 ≤ l ∧ l < 6
      · rw [if_pos h1, if_pos (by omega)]
      · rw [if_neg h1]
        by_cases h2 : l = i
        · subst h2
          rw [if_pos (by omega), pP_spe, hx]
        · rw [if_neg (by omega), pP_spk h2]
    rw [fX9_copyFrom_L188]
    cases hp : am_P g (a + 23) i with
    | none =>
      rw [← fin none hp, ← IH none]
      simp (disch := first | omega | assumption | decide) only [↓pv_let, ↓pv_jn, ↓reduceIte, pv_bd, ↓pv_ocs, ↓pv_ocn, pv_gdt, pe_gd, pe_clamp, pt_eq, pf_eq, pt_le, pf_le, pt_lt, pf_lt, nI_add, nn_mul, pe_sub, pb_0, pb_1, pb_z, pe_ieq, pe_ine, pe_ik, pP_si, pS_si, pn_si, ps_si, pL_si, decide_true, ofNat_nI, pe_srI, pe_srN, pe_srS, pe_srP, not_true_eq_false, not_false_eq_true, true_and, and_true, and_self, false_and, and_false, nI_m1, nI_ms, Nat.add_sub_cancel, pl_0, pl_1, pl_2, pl_3, pl_4, pl_5, pl_6, pl_7, pl_8, pl_9, pl_10, pl_11, pl_12, pl_13, pl_14, pl_15, pl_16, pl_17, pl_18, pl_19, pl_20, pl_21, pl_22, pl_23, pl_24, pl_25, pl_26, pl_27, pl_28, pl_29, pl_30, pl_31, pl_32, pl_34, pl_36, pl_37, pl_40, pl_41, pl_42, pl_43, pl_45, pl_47, pl_48, pl_50, pl_57, pl_59, pl_60, pl_61, pl_62, pl_64, pl_70, pl_91, pl_93, pl_97, pl_98, pl_99, pl_100, pl_106, pl_122, pl_128, pl_136, pl_142, pl_165, pl_168, pl_170, pl_171, pl_173, pl_175, pl_187, pl_188, pl_189, pl_190, pl_206, pl_211, pl_219, pl_229, pl_255, pl_260, pl_400, pl_500, pl_512, pl_900, pl_999, pl_1000, pl_1001, pl_1005, pl_1020, pl_1023, pl_1024, pl_1103, pl_2000, pl_2040, pl_2176, pl_5660, pl_9999, pl_12345, pl_1000000, pl_1000003, pl_100000000, pl_1000000000, pz_0, pz_1, pz_t, b1, b20, a1, a20, a11, b11, hp, hg, pv_gdt]
    | some p =>
      have hs := hS i p (by omega) hp
      rw [← fin (some p) hp, ← IH (some p)]
      simp (disch := first | omega | assumption | decide) only [↓pv_let, ↓pv_jn, ↓reduceIte, pv_bd, ↓pv_ocs, ↓pv_ocn, pv_gdt, pe_gd, pe_clamp, pt_eq, pf_eq, pt_le, pf_le, pt_lt, pf_lt, nI_add, nn_mul, pe_sub, pb_0, pb_1, pb_z, pe_ieq, pe_ine, pe_ik, pP_si, pS_si, pn_si, ps_si, pL_si, decide_true, ofNat_nI, pe_srI, pe_srN, pe_srS, pe_srP, not_true_eq_false, not_false_eq_true, true_and, and_true, and_self, false_and, and_false, nI_m1, nI_ms, Nat.add_sub_cancel, pl_0, pl_1, pl_2, pl_3, pl_4, pl_5, pl_6, pl_7, pl_8, pl_9, pl_10, pl_11, pl_12, pl_13, pl_14, pl_15, pl_16, pl_17, pl_18, pl_19, pl_20, pl_21, pl_22, pl_23, pl_24, pl_25, pl_26, pl_27, pl_28, pl_29, pl_30, pl_31, pl_32, pl_34, pl_36, pl_37, pl_40, pl_41, pl_42, pl_43, pl_45, pl_47, pl_48, pl_50, pl_57, pl_59, pl_60, pl_61, pl_62, pl_64, pl_70, pl_91, pl_93, pl_97, pl_98, pl_99, pl_100, pl_106, pl_122, pl_128, pl_136, pl_142, pl_165, pl_168, pl_170, pl_171, pl_173, pl_175, pl_187, pl_188, pl_189, pl_190, pl_206, pl_211, pl_219, pl_229, pl_255, pl_260, pl_400, pl_500, pl_512, pl_900, pl_999, pl_1000, pl_1001, pl_1005, pl_1020, pl_1023, pl_1024, pl_1103, pl_2000, pl_2040, pl_2176, pl_5660, pl_9999, pl_12345, pl_1000000, pl_1000003, pl_100000000, pl_1000000000, pz_0, pz_1, pz_t, b1, b20, a1, a20, a11, b11, hp, hg, pv_gdt, hs]
