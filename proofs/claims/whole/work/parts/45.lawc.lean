/-! ===== a law: its clauses, what it tells ===== -/
/-- a clause: its kind (0 shakes, 1 falls, 2 thaws, 3 bars), its sum, its test -/
abbrev pCl : Type := Nat × pD × Option pD
/-- how many clauses, and which -/
abbrev pLw : Type := Nat × (Nat → pCl)
def clT (c : pCl) (K : Nat → Int32) : Prop := ∀ T, c.2.2 = some T → T K = some (nI 1)
def clv (kd : Nat) (K : Nat → Int32) (c : pCl) : Option Int32 := if c.1 = kd then (match c.2.2 with | none => (if kd = 3 then some (nI 1) else c.2.1 K) | some T => if T K = some (nI 1) then (if kd = 3 then some (nI 1) else c.2.1 K) else none) else none
def lwN (c : Nat → pCl) (kd : Nat) (K : Nat → Int32) : Nat → Option Int32
  | 0 => none
  | n + 1 => (clv kd K (c n)).or (lwN c kd K n)
/-- what a law's sums and tests look at -/
def Kag (K K' : Nat → Int32) : Prop := ∀ k, 13 ≤ k → k ≤ 22 → K k = K' k
def Kbd (K : Nat → Int32) : Prop := ∀ k, 13 ≤ k → k ≤ 22 → pBd (K k)
def okD (D : pD) : Prop := (∀ K K', Kag K K' → D K = D K') ∧ ∀ K v, Kbd K → D K = some v → pBd v
def okC (c : pCl) : Prop := c.1 < 4 ∧ okD c.2.1 ∧ ∀ T, c.2.2 = some T → dT T ∧ okD T
theorem clv_bd {kd : Nat} {K : Nat → Int32} {c : pCl} (h : okC c) (hK : Kbd K) {v : Int32} (hv : clv kd K c = some v) : pBd v := by
  have h1 : pBd (nI 1) := by unfold pBd; decide
  unfold clv at hv
  split at hv
  · split at hv
    · split at hv
      · rw [← Option.some.inj hv]; exact h1
      · exact h.2.1.2 K v hK hv
    · split at hv
      · split at hv
        · rw [← Option.some.inj hv]; exact h1
        · exact h.2.1.2 K v hK hv
      · exact absurd hv (by simp)
  · exact absurd hv (by simp)
theorem clv_ag {kd : Nat} {K K' : Nat → Int32} {c : pCl} (h : okC c) (hK : Kag K K') : clv kd K c = clv kd K' c := by
  unfold clv
  rw [h.2.1.1 K K' hK]
  cases hT : c.2.2 with
  | none => rfl
  | some T =>
    have e := (h.2.2 T hT).2.1 K K' hK
    simp only [e]
theorem lwN_ag {c : Nat → pCl} {kd : Nat} {K K' : Nat → Int32} : ∀ {n : Nat}, (∀ i, i < n → okC (c i)) → Kag K K' → lwN c kd K n = lwN c kd K' n
  | 0, _, _ => rfl
  | n + 1, h, hK => by rw [lwN, lwN, clv_ag (h n (by omega)) hK, lwN_ag (fun i hi => h i (by omega)) hK]
theorem lwN_bd {c : Nat → pCl} {kd : Nat} {K : Nat → Int32} : ∀ {n : Nat}, (∀ i, i < n → okC (c i)) → Kbd K → ∀ v, lwN c kd K n = some v → pBd v
  | 0, _, _, v, hv => absurd hv (by simp [lwN])
  | n + 1, h, hK, v, hv => by
    rw [lwN] at hv
    cases hc : clv kd K (c n) with
    | none => rw [hc] at hv; exact lwN_bd (fun i hi => h i (by omega)) hK v hv
    | some u => rw [hc] at hv; rw [← Option.some.inj hv]; exact clv_bd (h n (by omega)) hK hc
/-- the class's text p says the law L -/
def TxtC (g : am_G) (p : Nat) (L : pLw) : Prop :=
  am_S g p = (6, 3) ∧ L.1 ≤ 12 ∧ am_I g p 2 = nI L.1 ∧ 79 ≤ p ∧ ∃ pr ps ns, am_P g p 0 = some pr ∧ am_P g p 1 = some ps ∧ 79 ≤ pr ∧ 79 ≤ ps ∧ am_S g pr = (20, L.1 * 6) ∧ am_S g ps = (20, ns) ∧
    ∀ i, i < L.1 → okC (L.2 i) ∧ am_I g pr (i * 6 + 0) = nI ((L.2 i).1 + 1) ∧ ((L.2 i).1 ≠ 3 → ∃ a, am_I g pr (i * 6 + 1 + 0) = nI a ∧ ValC (am_I g ps) ns a (L.2 i).2.1) ∧
      (∀ T, (L.2 i).2.2 = some T → ∃ a, a < 2147483648 ∧ am_I g pr (i * 6 + 4) = nI a ∧ ValC (am_I g ps) ns a T) ∧ ((L.2 i).2.2 = none → am_I g pr (i * 6 + 4) = -1)
theorem TxtC.sr {g : am_G} {p : Nat} {L : pLw} (h : TxtC g p L) {c : Nat} (hc : c < 79) (f : Nat → Int32) : TxtC (am_sr g c f) p L := by
  obtain ⟨h1, h2, h3, h4, pr, ps, ns, h5, h6, h7, h8, h9, h10, h11⟩ := h
  refine ⟨h1, h2, by rw [pI_sr_ne _ _ (by omega)]; exact h3, h4, pr, ps, ns, h5, h6, h7, h8, h9, h10, ?_⟩
  rw [pI_sr_ne _ _ (show pr ≠ c by omega), pI_sr_ne _ _ (show ps ≠ c by omega)]
  exact h11
theorem nI_m1ne {a : Nat} (h : a < 2147483648) : ¬ nI a = -1 := fun z => by
  have := congrArg Int32.toInt z
  rw [nn_toInt h] at this
  have e : (-1 : Int32).toInt = -1 := by decide
  omega
theorem nI_neg1 {a : Nat} (h : a < 2147483648) : (nI a = -nI 1) = False := eq_false (nI_m1ne h)
theorem q6_kindOf {g : am_G} {p pr n i : Nat} (hS : am_S g p = (6, 3)) (hP : am_P g p 0 = some pr) (hr : am_S g pr = (20, n * 6)) (hi : i < n) (hn : n ≤ 12) : fX6_kindOf p (nI i) g = some (am_I g pr (i * 6 + 0), g) := by
  unfold fX6_kindOf
  simp (disch := first | omega | assumption | decide) only [pu_let, pu_jn, pu_bd, pu_ocs, pu_ocn, pu_gdt, pe_gd, pe_clamp, pe_eq, pe_le, pe_lt, pe_pos, pe_neg, nI_add, nn_mul, pe_sub, pb_0, pb_1, pb_z, pe_ieq, pe_ine, pe_ik, pP_si, pS_si, pn_si, ps_si, pL_si, ite_not, pe_gdd, pe_lle, decide_true, ofNat_nI, pe_srI, pe_srN, pe_srS, pe_srP, pl_0, pl_1, pl_2, pl_3, pl_4, pl_5, pl_6, pl_7, pl_8, pl_9, pl_10, pl_11, pl_12, pl_13, pl_14, pl_15, pl_16, pl_17, pl_18, pl_19, pl_20, pl_21, pl_22, pl_23, pl_24, pl_25, pl_26, pl_27, pl_28, pl_29, pl_30, pl_31, pl_32, pl_34, pl_36, pl_37, pl_40, pl_41, pl_42, pl_43, pl_45, pl_47, pl_48, pl_50, pl_57, pl_59, pl_60, pl_61, pl_62, pl_64, pl_70, pl_91, pl_93, pl_97, pl_98, pl_99, pl_100, pl_106, pl_122, pl_128, pl_136, pl_142, pl_165, pl_168, pl_170, pl_171, pl_173, pl_175, pl_187, pl_188, pl_189, pl_190, pl_206, pl_211, pl_219, pl_229, pl_255, pl_260, pl_400, pl_500, pl_512, pl_900, pl_999, pl_1000, pl_1001, pl_1005, pl_1020, pl_1023, pl_1024, pl_1103, pl_2000, pl_2040, pl_2176, pl_5660, pl_9999, pl_12345, pl_1000000, pl_1000003, pl_100000000, pl_1000000000, hS, hP, hr]
theorem q6_testOf {g : am_G} {p pr n i : Nat} (hS : am_S g p = (6, 3)) (hP : am_P g p 0 = some pr) (hr : am_S g pr = (20, n * 6)) (hi : i < n) (hn : n ≤ 12) : fX6_testOf p (nI i) g = some (am_I g pr (i * 6 + 4), g) := by
  unfold fX6_testOf
  simp (disch := first | omega | assumption | decide) only [pu_let, pu_jn, pu_bd, pu_ocs, pu_ocn, pu_gdt, pe_gd, pe_clamp, pe_eq, pe_le, pe_lt, pe_pos, pe_neg, nI_add, nn_mul, pe_sub, pb_0, pb_1, pb_z, pe_ieq, pe_ine, pe_ik, pP_si, pS_si, pn_si, ps_si, pL_si, ite_not, pe_gdd, pe_lle, decide_true, ofNat_nI, pe_srI, pe_srN, pe_srS, pe_srP, pl_0, pl_1, pl_2, pl_3, pl_4, pl_5, pl_6, pl_7, pl_8, pl_9, pl_10, pl_11, pl_12, pl_13, pl_14, pl_15, pl_16, pl_17, pl_18, pl_19, pl_20, pl_21, pl_22, pl_23, pl_24, pl_25, pl_26, pl_27, pl_28, pl_29, pl_30, pl_31, pl_32, pl_34, pl_36, pl_37, pl_40, pl_41, pl_42, pl_43, pl_45, pl_47, pl_48, pl_50, pl_57, pl_59, pl_60, pl_61, pl_62, pl_64, pl_70, pl_91, pl_93, pl_97, pl_98, pl_99, pl_100, pl_106, pl_122, pl_128, pl_136, pl_142, pl_165, pl_168, pl_170, pl_171, pl_173, pl_175, pl_187, pl_188, pl_189, pl_190, pl_206, pl_211, pl_219, pl_229, pl_255, pl_260, pl_400, pl_500, pl_512, pl_900, pl_999, pl_1000, pl_1001, pl_1005, pl_1020, pl_1023, pl_1024, pl_1103, pl_2000, pl_2040, pl_2176, pl_5660, pl_9999, pl_12345, pl_1000000, pl_1000003, pl_100000000, pl_1000000000, hS, hP, hr]
theorem q6_timesOf {g : am_G} {p pr n i : Nat} (hS : am_S g p = (6, 3)) (hP : am_P g p 0 = some pr) (hr : am_S g pr = (20, n * 6)) (hi : i < n) (hn : n ≤ 12) : fX6_timesOf p (nI i) g = some (am_I g pr (i * 6 + 5), g) := by
  unfold fX6_timesOf
  simp (disch := first | omega | assumption | decide) only [pu_let, pu_jn, pu_bd, pu_ocs, pu_ocn, pu_gdt, pe_gd, pe_clamp, pe_eq, pe_le, pe_lt, pe_pos, pe_neg, nI_add, nn_mul, pe_sub, pb_0, pb_1, pb_z, pe_ieq, pe_ine, pe_ik, pP_si, pS_si, pn_si, ps_si, pL_si, ite_not, pe_gdd, pe_lle, decide_true, ofNat_nI, pe_srI, pe_srN, pe_srS, pe_srP, pl_0, pl_1, pl_2, pl_3, pl_4, pl_5, pl_6, pl_7, pl_8, pl_9, pl_10, pl_11, pl_12, pl_13, pl_14, pl_15, pl_16, pl_17, pl_18, pl_19, pl_20, pl_21, pl_22, pl_23, pl_24, pl_25, pl_26, pl_27, pl_28, pl_29, pl_30, pl_31, pl_32, pl_34, pl_36, pl_37, pl_40, pl_41, pl_42, pl_43, pl_45, pl_47, pl_48, pl_50, pl_57, pl_59, pl_60, pl_61, pl_62, pl_64, pl_70, pl_91, pl_93, pl_97, pl_98, pl_99, pl_100, pl_106, pl_122, pl_128, pl_136, pl_142, pl_165, pl_168, pl_170, pl_171, pl_173, pl_175, pl_187, pl_188, pl_189, pl_190, pl_206, pl_211, pl_219, pl_229, pl_255, pl_260, pl_400, pl_500, pl_512, pl_900, pl_999, pl_1000, pl_1001, pl_1005, pl_1020, pl_1023, pl_1024, pl_1103, pl_2000, pl_2040, pl_2176, pl_5660, pl_9999, pl_12345, pl_1000000, pl_1000003, pl_100000000, pl_1000000000, hS, hP, hr]
theorem q6_sumOf {g : am_G} {p pr n i j : Nat} (hS : am_S g p = (6, 3)) (hP : am_P g p 0 = some pr) (hr : am_S g pr = (20, n * 6)) (hi : i < n) (hn : n ≤ 12) (hj : j < 3) : fX6_sumOf p (nI i) (nI j) g = some (am_I g pr (i * 6 + 1 + j), g) := by
  unfold fX6_sumOf
  simp (disch := first | omega | assumption | decide) only [pu_let, pu_jn, pu_bd, pu_ocs, pu_ocn, pu_gdt, pe_gd, pe_clamp, pe_eq, pe_le, pe_lt, pe_pos, pe_neg, nI_add, nn_mul, pe_sub, pb_0, pb_1, pb_z, pe_ieq, pe_ine, pe_ik, pP_si, pS_si, pn_si, ps_si, pL_si, ite_not, pe_gdd, pe_lle, decide_true, ofNat_nI, pe_srI, pe_srN, pe_srS, pe_srP, pl_0, pl_1, pl_2, pl_3, pl_4, pl_5, pl_6, pl_7, pl_8, pl_9, pl_10, pl_11, pl_12, pl_13, pl_14, pl_15, pl_16, pl_17, pl_18, pl_19, pl_20, pl_21, pl_22, pl_23, pl_24, pl_25, pl_26, pl_27, pl_28, pl_29, pl_30, pl_31, pl_32, pl_34, pl_36, pl_37, pl_40, pl_41, pl_42, pl_43, pl_45, pl_47, pl_48, pl_50, pl_57, pl_59, pl_60, pl_61, pl_62, pl_64, pl_70, pl_91, pl_93, pl_97, pl_98, pl_99, pl_100, pl_106, pl_122, pl_128, pl_136, pl_142, pl_165, pl_168, pl_170, pl_171, pl_173, pl_175, pl_187, pl_188, pl_189, pl_190, pl_206, pl_211, pl_219, pl_229, pl_255, pl_260, pl_400, pl_500, pl_512, pl_900, pl_999, pl_1000, pl_1001, pl_1005, pl_1020, pl_1023, pl_1024, pl_1103, pl_2000, pl_2040, pl_2176, pl_5660, pl_9999, pl_12345, pl_1000000, pl_1000003, pl_100000000, pl_1000000000, hS, hP, hr]
theorem lastL_neg {a1 : Int32} {p n : Nat} {x : Int32} {g : am_G} (h : x < 0) : fX0_lastTold_L22 a1 p (n + 1) x g = some (-2147483648, g) := by
  rw [fX0_lastTold_L22, if_pos h]
theorem pBR_1 : (pBR = nI 1) = False := eq_false (by decide)
theorem n0_1 : (nI 0 = nI 1) = False := eq_false (by decide)
theorem n1_BR : (nI 1 = pBR) = False := eq_false (by decide)
theorem BR_BR : (pBR = pBR) = True := eq_true rfl
theorem lastL {p kd : Nat} {L : pLw} {g : am_G} (hkd : kd < 4) (hT : TxtC g p L) (hK : Kbd (am_I g 37)) : ∀ (i n : Nat) (f0 : Nat → Int32), i ≤ L.1 → i < n → ∃ f, fX0_lastTold_L22 (nI (kd + 1)) p n (nI i + -nI 1) (am_sr g 38 f0) = some ((lwN L.2 kd (am_I g 37) i).getD pBR, am_sr g 38 f)
  | 0, n, f0, _, hn => by
    obtain ⟨n, rfl⟩ : ∃ n', n = n' + 1 := ⟨n - 1, by omega⟩
    exact ⟨f0, by rw [lastL_neg (by decide)]; rfl⟩
  | i + 1, n, f0, hi, hn => by
    obtain ⟨n, rfl⟩ : ∃ n', n = n' + 1 := ⟨n - 1, by omega⟩
    have IH := fun f1 => lastL hkd hT hK i n f1 (by omega) (by omega)
    obtain ⟨h1, h2, h3, h4, pr, ps, ns, h5, h6, h7, h8, h9, h10, h11⟩ := hT
    obtain ⟨c0, c1, c2, c3, c4⟩ := h11 i (by omega)
    have k0 : am_I (am_sr g 38 f0) pr (i * 6 + 0) = nI ((L.2 i).1 + 1) := by rw [pI_sr_ne _ _ (by omega)]; exact c1
    have hc0 := c0.1
    have q1 := q6_kindOf (g := am_sr g 38 f0) h1 h5 h9 (show i < L.1 by omega) h2
    have q2 := q6_testOf (g := am_sr g 38 f0) h1 h5 h9 (show i < L.1 by omega) h2
    have q3 := fun f1 => q6_sumOf (g := am_sr g 38 f1) h1 h5 h9 (show i < L.1 by omega) h2 (show 0 < 3 by decide)
    have run : ∀ (f1 : Nat → Int32) (a : Nat) (D : pD), ValC (am_I g ps) ns a D → ∃ f, fX0_value ps (nI a) (am_sr g 38 f1) = some ((D (am_I g 37)).getD pBR, am_sr g 38 f) := by
      intro f1 a D hV
      obtain ⟨f, hf⟩ := hV.run (p := ps) (g := am_sr g 38 f1) h10 (by omega) (fun j _ => by rw [pI_sr_ne _ _ (by omega)])
      rw [pI_sr_ne _ _ (by decide), sr_sr] at hf
      exact ⟨f, hf⟩
    rw [nI_m1, fX0_lastTold_L22, lwN]
    by_cases hk : (L.2 i).1 = kd
    · have fin : ∀ f1 : Nat → Int32, ∃ f, (if nI (kd + 1) = nI 4 then (if nI 1 = pBR then fX0_lastTold_L22 (nI (kd + 1)) p n (nI i + -nI 1) (am_sr g 38 f1) else some (nI 1, am_sr g 38 f1)) else am_bd (fX0_value ps (am_I g pr (i * 6 + 1 + 0)) (am_sr g 38 f1)) fun v38 g39 => if v38 = pBR then fX0_lastTold_L22 (nI (kd + 1)) p n (nI i + -nI 1) g39 else some (v38, g39)) = some (((if kd = 3 then some (nI 1) else (L.2 i).2.1 (am_I g 37)).or (lwN L.2 kd (am_I g 37) i)).getD pBR, am_sr g 38 f) := by
        intro f1
        by_cases h3 : kd = 3
        · subst h3
          rw [if_pos rfl, if_pos rfl, if_neg (by decide)]
          exact ⟨f1, rfl⟩
        · obtain ⟨a, ea, hV⟩ := c2 (by omega)
          obtain ⟨f2, hf2⟩ := run f1 a _ hV
          rw [if_neg (fun z => h3 (by have := (nn_eq (a := kd + 1) (b := 4) (by omega) (by decide)).mp z; omega)), if_neg h3, ea, hf2, pu_bd]
          cases hD : (L.2 i).2.1 (am_I g 37) with
          | none =>
            rw [Option.none_or, Option.getD_none, if_pos rfl]
            exact IH f2
          | some v =>
            rw [Option.some_or, Option.getD_some, if_neg (pBd_ne (c0.2.1.2 _ v hK hD))]
            exact ⟨f2, rfl⟩
      unfold clv
      rw [if_pos hk]
      cases hT2 : (L.2 i).2.2 with
      | none =>
        have k4 : am_I (am_sr g 38 f0) pr (i * 6 + 4) = -1 := by rw [pI_sr_ne _ _ (by omega)]; exact c4 hT2
        obtain ⟨f, hf⟩ := fin f0
        refine ⟨f, ?_⟩
        show _ = some (((if kd = 3 then some (nI 1) else (L.2 i).2.1 (am_I g 37)).or (lwN L.2 kd (am_I g 37) i)).getD pBR, am_sr g 38 f)
        rw [← hf]
        have ks : am_I (am_sr g 38 f0) pr (i * 6 + 1 + 0) = am_I g pr (i * 6 + 1 + 0) := by rw [pI_sr_ne _ _ (by omega)]
        simp (disch := first | omega | assumption | decide) only [↓pv_let, ↓pv_jn, ↓reduceIte, pv_bd, ↓pv_ocs, ↓pv_ocn, pv_gdt, pe_gd, pe_clamp, pt_eq, pf_eq, pt_le, pf_le, pt_lt, pf_lt, nI_add, nn_mul, pe_sub, pb_0, pb_1, pb_z, pe_ieq, pe_ine, pe_ik, pP_si, pS_si, pn_si, ps_si, pL_si, decide_true, ofNat_nI, pe_srI, pe_srN, pe_srS, pe_srP, not_true_eq_false, not_false_eq_true, true_and, and_true, and_self, false_and, and_false, nI_m1, nI_ms, Nat.add_sub_cancel, pl_0, pl_1, pl_2, pl_3, pl_4, pl_5, pl_6, pl_7, pl_8, pl_9, pl_10, pl_11, pl_12, pl_13, pl_14, pl_15, pl_16, pl_17, pl_18, pl_19, pl_20, pl_21, pl_22, pl_23, pl_24, pl_25, pl_26, pl_27, pl_28, pl_29, pl_30, pl_31, pl_32, pl_34, pl_36, pl_37, pl_40, pl_41, pl_42, pl_43, pl_45, pl_47, pl_48, pl_50, pl_57, pl_59, pl_60, pl_61, pl_62, pl_64, pl_70, pl_91, pl_93, pl_97, pl_98, pl_99, pl_100, pl_106, pl_122, pl_128, pl_136, pl_142, pl_165, pl_168, pl_170, pl_171, pl_173, pl_175, pl_187, pl_188, pl_189, pl_190, pl_206, pl_211, pl_219, pl_229, pl_255, pl_260, pl_400, pl_500, pl_512, pl_900, pl_999, pl_1000, pl_1001, pl_1005, pl_1020, pl_1023, pl_1024, pl_1103, pl_2000, pl_2040, pl_2176, pl_5660, pl_9999, pl_12345, pl_1000000, pl_1000003, pl_100000000, pl_1000000000, h1, h5, h6, q1, q2, k0, k4, q3, ks, hk, if_true, pBR_d]
      | some T =>
        obtain ⟨a, ha, ea, hV⟩ := c3 T hT2
        have k4 : am_I (am_sr g 38 f0) pr (i * 6 + 4) = nI a := by rw [pI_sr_ne _ _ (by omega)]; exact ea
        obtain ⟨f1, hf1⟩ := run f0 a T hV
        show ∃ f, _ = some (((if T (am_I g 37) = some (nI 1) then (if kd = 3 then some (nI 1) else (L.2 i).2.1 (am_I g 37)) else none).or (lwN L.2 kd (am_I g 37) i)).getD pBR, am_sr g 38 f)
        by_cases h1T : T (am_I g 37) = some (nI 1)
        · rw [if_pos h1T]
          rw [h1T] at hf1
          obtain ⟨f, hf⟩ := fin f1
          refine ⟨f, ?_⟩
          rw [← hf]
          have ks : am_I (am_sr g 38 f1) pr (i * 6 + 1 + 0) = am_I g pr (i * 6 + 1 + 0) := by rw [pI_sr_ne _ _ (by omega)]
          simp (disch := first | omega | assumption | decide) only [↓pv_let, ↓pv_jn, ↓reduceIte, pv_bd, ↓pv_ocs, ↓pv_ocn, pv_gdt, pe_gd, pe_clamp, pt_eq, pf_eq, pt_le, pf_le, pt_lt, pf_lt, nI_add, nn_mul, pe_sub, pb_0, pb_1, pb_z, pe_ieq, pe_ine, pe_ik, pP_si, pS_si, pn_si, ps_si, pL_si, decide_true, ofNat_nI, pe_srI, pe_srN, pe_srS, pe_srP, not_true_eq_false, not_false_eq_true, true_and, and_true, and_self, false_and, and_false, nI_m1, nI_ms, Nat.add_sub_cancel, pl_0, pl_1, pl_2, pl_3, pl_4, pl_5, pl_6, pl_7, pl_8, pl_9, pl_10, pl_11, pl_12, pl_13, pl_14, pl_15, pl_16, pl_17, pl_18, pl_19, pl_20, pl_21, pl_22, pl_23, pl_24, pl_25, pl_26, pl_27, pl_28, pl_29, pl_30, pl_31, pl_32, pl_34, pl_36, pl_37, pl_40, pl_41, pl_42, pl_43, pl_45, pl_47, pl_48, pl_50, pl_57, pl_59, pl_60, pl_61, pl_62, pl_64, pl_70, pl_91, pl_93, pl_97, pl_98, pl_99, pl_100, pl_106, pl_122, pl_128, pl_136, pl_142, pl_165, pl_168, pl_170, pl_171, pl_173, pl_175, pl_187, pl_188, pl_189, pl_190, pl_206, pl_211, pl_219, pl_229, pl_255, pl_260, pl_400, pl_500, pl_512, pl_900, pl_999, pl_1000, pl_1001, pl_1005, pl_1020, pl_1023, pl_1024, pl_1103, pl_2000, pl_2040, pl_2176, pl_5660, pl_9999, pl_12345, pl_1000000, pl_1000003, pl_100000000, pl_1000000000, h1, h5, h6, q1, q2, k0, k4, q3, ks, hk, if_true, pBR_d, nI_neg1, hf1, Option.getD_some]
        · rw [if_neg h1T, Option.none_or]
          obtain ⟨f, hf⟩ := IH f1
          refine ⟨f, ?_⟩
          rw [← hf]
          have hv : ((T (am_I g 37)).getD pBR = nI 1) = False := by
            cases hTK : T (am_I g 37) with
            | none => exact pBR_1
            | some v =>
              rw [hTK] at h1T
              exact eq_false fun z => h1T (by rw [← z]; rfl)
          simp (disch := first | omega | assumption | decide) only [↓pv_let, ↓pv_jn, ↓reduceIte, pv_bd, ↓pv_ocs, ↓pv_ocn, pv_gdt, pe_gd, pe_clamp, pt_eq, pf_eq, pt_le, pf_le, pt_lt, pf_lt, nI_add, nn_mul, pe_sub, pb_0, pb_1, pb_z, pe_ieq, pe_ine, pe_ik, pP_si, pS_si, pn_si, ps_si, pL_si, decide_true, ofNat_nI, pe_srI, pe_srN, pe_srS, pe_srP, not_true_eq_false, not_false_eq_true, true_and, and_true, and_self, false_and, and_false, nI_m1, nI_ms, Nat.add_sub_cancel, pl_0, pl_1, pl_2, pl_3, pl_4, pl_5, pl_6, pl_7, pl_8, pl_9, pl_10, pl_11, pl_12, pl_13, pl_14, pl_15, pl_16, pl_17, pl_18, pl_19, pl_20, pl_21, pl_22, pl_23, pl_24, pl_25, pl_26, pl_27, pl_28, pl_29, pl_30, pl_31, pl_32, pl_34, pl_36, pl_37, pl_40, pl_41, pl_42, pl_43, pl_45, pl_47, pl_48, pl_50, pl_57, pl_59, pl_60, pl_61, pl_62, pl_64, pl_70, pl_91, pl_93, pl_97, pl_98, pl_99, pl_100, pl_106, pl_122, pl_128, pl_136, pl_142, pl_165, pl_168, pl_170, pl_171, pl_173, pl_175, pl_187, pl_188, pl_189, pl_190, pl_206, pl_211, pl_219, pl_229, pl_255, pl_260, pl_400, pl_500, pl_512, pl_900, pl_999, pl_1000, pl_1001, pl_1005, pl_1020, pl_1023, pl_1024, pl_1103, pl_2000, pl_2040, pl_2176, pl_5660, pl_9999, pl_12345, pl_1000000, pl_1000003, pl_100000000, pl_1000000000, h1, h5, h6, q1, q2, k0, k4, q3, hk, if_true, pBR_d, nI_neg1, hf1, hv]
    · unfold clv
      rw [if_neg hk, Option.none_or]
      obtain ⟨f, hf⟩ := IH f0
      refine ⟨f, ?_⟩
      rw [← hf]
      simp (disch := first | omega | assumption | decide) only [↓pv_let, ↓pv_jn, ↓reduceIte, pv_bd, ↓pv_ocs, ↓pv_ocn, pv_gdt, pe_gd, pe_clamp, pt_eq, pf_eq, pt_le, pf_le, pt_lt, pf_lt, nI_add, nn_mul, pe_sub, pb_0, pb_1, pb_z, pe_ieq, pe_ine, pe_ik, pP_si, pS_si, pn_si, ps_si, pL_si, decide_true, ofNat_nI, pe_srI, pe_srN, pe_srS, pe_srP, not_true_eq_false, not_false_eq_true, true_and, and_true, and_self, false_and, and_false, nI_m1, nI_ms, Nat.add_sub_cancel, pl_0, pl_1, pl_2, pl_3, pl_4, pl_5, pl_6, pl_7, pl_8, pl_9, pl_10, pl_11, pl_12, pl_13, pl_14, pl_15, pl_16, pl_17, pl_18, pl_19, pl_20, pl_21, pl_22, pl_23, pl_24, pl_25, pl_26, pl_27, pl_28, pl_29, pl_30, pl_31, pl_32, pl_34, pl_36, pl_37, pl_40, pl_41, pl_42, pl_43, pl_45, pl_47, pl_48, pl_50, pl_57, pl_59, pl_60, pl_61, pl_62, pl_64, pl_70, pl_91, pl_93, pl_97, pl_98, pl_99, pl_100, pl_106, pl_122, pl_128, pl_136, pl_142, pl_165, pl_168, pl_170, pl_171, pl_173, pl_175, pl_187, pl_188, pl_189, pl_190, pl_206, pl_211, pl_219, pl_229, pl_255, pl_260, pl_400, pl_500, pl_512, pl_900, pl_999, pl_1000, pl_1001, pl_1005, pl_1020, pl_1023, pl_1024, pl_1103, pl_2000, pl_2040, pl_2176, pl_5660, pl_9999, pl_12345, pl_1000000, pl_1000003, pl_100000000, pl_1000000000, h1, h5, h6, q1, k0]
