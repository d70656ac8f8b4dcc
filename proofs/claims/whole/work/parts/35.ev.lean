/-! ===== running the programs by rewriting ===== -/
theorem pl_0 : (0 : Int32) = nI 0 := Eq.trans rfl (Eq.trans rfl rfl)
theorem pl_1 : (1 : Int32) = nI 1 := Eq.trans rfl (Eq.trans rfl rfl)
theorem pl_2 : (2 : Int32) = nI 2 := Eq.trans rfl (Eq.trans rfl rfl)
theorem pl_3 : (3 : Int32) = nI 3 := Eq.trans rfl (Eq.trans rfl rfl)
theorem pl_4 : (4 : Int32) = nI 4 := Eq.trans rfl (Eq.trans rfl rfl)
theorem pl_5 : (5 : Int32) = nI 5 := Eq.trans rfl (Eq.trans rfl rfl)
theorem pl_6 : (6 : Int32) = nI 6 := Eq.trans rfl (Eq.trans rfl rfl)
theorem pl_7 : (7 : Int32) = nI 7 := Eq.trans rfl (Eq.trans rfl rfl)
theorem pl_8 : (8 : Int32) = nI 8 := Eq.trans rfl (Eq.trans rfl rfl)
theorem pl_9 : (9 : Int32) = nI 9 := Eq.trans rfl (Eq.trans rfl rfl)
theorem pl_10 : (10 : Int32) = nI 10 := Eq.trans rfl (Eq.trans rfl rfl)
theorem pl_11 : (11 : Int32) = nI 11 := Eq.trans rfl (Eq.trans rfl rfl)
theorem pl_12 : (12 : Int32) = nI 12 := Eq.trans rfl (Eq.trans rfl rfl)
theorem pl_13 : (13 : Int32) = nI 13 := Eq.trans rfl (Eq.trans rfl rfl)
theorem pl_14 : (14 : Int32) = nI 14 := Eq.trans rfl (Eq.trans rfl rfl)
theorem pl_15 : (15 : Int32) = nI 15 := Eq.trans rfl (Eq.trans rfl rfl)
theorem pl_16 : (16 : Int32) = nI 16 := Eq.trans rfl (Eq.trans rfl rfl)
theorem pl_17 : (17 : Int32) = nI 17 := Eq.trans rfl (Eq.trans rfl rfl)
theorem pl_18 : (18 : Int32) = nI 18 := Eq.trans rfl (Eq.trans rfl rfl)
theorem pl_19 : (19 : Int32) = nI 19 := Eq.trans rfl (Eq.trans rfl rfl)
theorem pl_20 : (20 : Int32) = nI 20 := Eq.trans rfl (Eq.trans rfl rfl)
theorem pl_21 : (21 : Int32) = nI 21 := Eq.trans rfl (Eq.trans rfl rfl)
theorem pl_22 : (22 : Int32) = nI 22 := Eq.trans rfl (Eq.trans rfl rfl)
theorem pl_23 : (23 : Int32) = nI 23 := Eq.trans rfl (Eq.trans rfl rfl)
theorem pl_24 : (24 : Int32) = nI 24 := Eq.trans rfl (Eq.trans rfl rfl)
theorem pl_25 : (25 : Int32) = nI 25 := Eq.trans rfl (Eq.trans rfl rfl)
theorem pl_26 : (26 : Int32) = nI 26 := Eq.trans rfl (Eq.trans rfl rfl)
theorem pl_27 : (27 : Int32) = nI 27 := Eq.trans rfl (Eq.trans rfl rfl)
theorem pl_28 : (28 : Int32) = nI 28 := Eq.trans rfl (Eq.trans rfl rfl)
theorem pl_29 : (29 : Int32) = nI 29 := Eq.trans rfl (Eq.trans rfl rfl)
theorem pl_30 : (30 : Int32) = nI 30 := Eq.trans rfl (Eq.trans rfl rfl)
theorem pl_31 : (31 : Int32) = nI 31 := Eq.trans rfl (Eq.trans rfl rfl)
theorem pl_32 : (32 : Int32) = nI 32 := Eq.trans rfl (Eq.trans rfl rfl)
theorem pl_34 : (34 : Int32) = nI 34 := Eq.trans rfl (Eq.trans rfl rfl)
theorem pl_36 : (36 : Int32) = nI 36 := Eq.trans rfl (Eq.trans rfl rfl)
theorem pl_37 : (37 : Int32) = nI 37 := Eq.trans rfl (Eq.trans rfl rfl)
theorem pl_40 : (40 : Int32) = nI 40 := Eq.trans rfl (Eq.trans rfl rfl)
theorem pl_41 : (41 : Int32) = nI 41 := Eq.trans rfl (Eq.trans rfl rfl)
theorem pl_42 : (42 : Int32) = nI 42 := Eq.trans rfl (Eq.trans rfl rfl)
theorem pl_43 : (43 : Int32) = nI 43 := Eq.trans rfl (Eq.trans rfl rfl)
theorem pl_45 : (45 : Int32) = nI 45 := Eq.trans rfl (Eq.trans rfl rfl)
theorem pl_47 : (47 : Int32) = nI 47 := Eq.trans rfl (Eq.trans rfl rfl)
theorem pl_48 : (48 : Int32) = nI 48 := Eq.trans rfl (Eq.trans rfl rfl)
theorem pl_50 : (50 : Int32) = nI 50 := Eq.trans rfl (Eq.trans rfl rfl)
theorem pl_57 : (57 : Int32) = nI 57 := Eq.trans rfl (Eq.trans rfl rfl)
theorem pl_59 : (59 : Int32) = nI 59 := Eq.trans rfl (Eq.trans rfl rfl)
theorem pl_60 : (60 : Int32) = nI 60 := Eq.trans rfl (Eq.trans rfl rfl)
theorem pl_61 : (61 : Int32) = nI 61 := Eq.trans rfl (Eq.trans rfl rfl)
theorem pl_62 : (62 : Int32) = nI 62 := Eq.trans rfl (Eq.trans rfl rfl)
theorem pl_64 : (64 : Int32) = nI 64 := Eq.trans rfl (Eq.trans rfl rfl)
theorem pl_70 : (70 : Int32) = nI 70 := Eq.trans rfl (Eq.trans rfl rfl)
theorem pl_91 : (91 : Int32) = nI 91 := Eq.trans rfl (Eq.trans rfl rfl)
theorem pl_93 : (93 : Int32) = nI 93 := Eq.trans rfl (Eq.trans rfl rfl)
theorem pl_97 : (97 : Int32) = nI 97 := Eq.trans rfl (Eq.trans rfl rfl)
theorem pl_98 : (98 : Int32) = nI 98 := Eq.trans rfl (Eq.trans rfl rfl)
theorem pl_99 : (99 : Int32) = nI 99 := Eq.trans rfl (Eq.trans rfl rfl)
theorem pl_100 : (100 : Int32) = nI 100 := Eq.trans rfl (Eq.trans rfl rfl)
theorem pl_106 : (106 : Int32) = nI 106 := Eq.trans rfl (Eq.trans rfl rfl)
theorem pl_122 : (122 : Int32) = nI 122 := Eq.trans rfl (Eq.trans rfl rfl)
theorem pl_128 : (128 : Int32) = nI 128 := Eq.trans rfl (Eq.trans rfl rfl)
theorem pl_136 : (136 : Int32) = nI 136 := Eq.trans rfl (Eq.trans rfl rfl)
theorem pl_142 : (142 : Int32) = nI 142 := Eq.trans rfl (Eq.trans rfl rfl)
theorem pl_165 : (165 : Int32) = nI 165 := Eq.trans rfl (Eq.trans rfl rfl)
theorem pl_168 : (168 : Int32) = nI 168 := Eq.trans rfl (Eq.trans rfl rfl)
theorem pl_170 : (170 : Int32) = nI 170 := Eq.trans rfl (Eq.trans rfl rfl)
theorem pl_171 : (171 : Int32) = nI 171 := Eq.trans rfl (Eq.trans rfl rfl)
theorem pl_173 : (173 : Int32) = nI 173 := Eq.trans rfl (Eq.trans rfl rfl)
theorem pl_175 : (175 : Int32) = nI 175 := Eq.trans rfl (Eq.trans rfl rfl)
theorem pl_187 : (187 : Int32) = nI 187 := Eq.trans rfl (Eq.trans rfl rfl)
theorem pl_188 : (188 : Int32) = nI 188 := Eq.trans rfl (Eq.trans rfl rfl)
theorem pl_189 : (189 : Int32) = nI 189 := Eq.trans rfl (Eq.trans rfl rfl)
theorem pl_190 : (190 : Int32) = nI 190 := Eq.trans rfl (Eq.trans rfl rfl)
theorem pl_206 : (206 : Int32) = nI 206 := Eq.trans rfl (Eq.trans rfl rfl)
theorem pl_211 : (211 : Int32) = nI 211 := Eq.trans rfl (Eq.trans rfl rfl)
theorem pl_219 : (219 : Int32) = nI 219 := Eq.trans rfl (Eq.trans rfl rfl)
theorem pl_229 : (229 : Int32) = nI 229 := Eq.trans rfl (Eq.trans rfl rfl)
theorem pl_255 : (255 : Int32) = nI 255 := Eq.trans rfl (Eq.trans rfl rfl)
theorem pl_260 : (260 : Int32) = nI 260 := Eq.trans rfl (Eq.trans rfl rfl)
theorem pl_400 : (400 : Int32) = nI 400 := Eq.trans rfl (Eq.trans rfl rfl)
theorem pl_500 : (500 : Int32) = nI 500 := Eq.trans rfl (Eq.trans rfl rfl)
theorem pl_512 : (512 : Int32) = nI 512 := Eq.trans rfl (Eq.trans rfl rfl)
theorem pl_900 : (900 : Int32) = nI 900 := Eq.trans rfl (Eq.trans rfl rfl)
theorem pl_999 : (999 : Int32) = nI 999 := Eq.trans rfl (Eq.trans rfl rfl)
theorem pl_1000 : (1000 : Int32) = nI 1000 := Eq.trans rfl (Eq.trans rfl rfl)
theorem pl_1001 : (1001 : Int32) = nI 1001 := Eq.trans rfl (Eq.trans rfl rfl)
theorem pl_1005 : (1005 : Int32) = nI 1005 := Eq.trans rfl (Eq.trans rfl rfl)
theorem pl_1020 : (1020 : Int32) = nI 1020 := Eq.trans rfl (Eq.trans rfl rfl)
theorem pl_1023 : (1023 : Int32) = nI 1023 := Eq.trans rfl (Eq.trans rfl rfl)
theorem pl_1024 : (1024 : Int32) = nI 1024 := Eq.trans rfl (Eq.trans rfl rfl)
theorem pl_1103 : (1103 : Int32) = nI 1103 := Eq.trans rfl (Eq.trans rfl rfl)
theorem pl_2000 : (2000 : Int32) = nI 2000 := Eq.trans rfl (Eq.trans rfl rfl)
theorem pl_2040 : (2040 : Int32) = nI 2040 := Eq.trans rfl (Eq.trans rfl rfl)
theorem pl_2176 : (2176 : Int32) = nI 2176 := Eq.trans rfl (Eq.trans rfl rfl)
theorem pl_5660 : (5660 : Int32) = nI 5660 := Eq.trans rfl (Eq.trans rfl rfl)
theorem pl_9999 : (9999 : Int32) = nI 9999 := Eq.trans rfl (Eq.trans rfl rfl)
theorem pl_12345 : (12345 : Int32) = nI 12345 := Eq.trans rfl (Eq.trans rfl rfl)
theorem pl_1000000 : (1000000 : Int32) = nI 1000000 := Eq.trans rfl (Eq.trans rfl rfl)
theorem pl_1000003 : (1000003 : Int32) = nI 1000003 := Eq.trans rfl (Eq.trans rfl rfl)
theorem pl_100000000 : (100000000 : Int32) = nI 100000000 := Eq.trans rfl (Eq.trans rfl rfl)
theorem pl_1000000000 : (1000000000 : Int32) = nI 1000000000 := Eq.trans rfl (Eq.trans rfl rfl)
theorem pe_gd {β : Type} {m n : Nat} {k : Option β} (h : m < n) (hn : n < 2147483648) : am_gd (am_in (nI m) n) k = k := pu_gd (nn_in h hn)
theorem pe_gdd {β : Type} {p : Prop} [Decidable p] {k : Option β} (h : p) : am_gd (decide p) k = k := pu_gd (decide_eq_true h)
theorem pe_clamp {m : Nat} (h : m < 2147483648) : (nI m).toNatClampNeg = m := nI_clamp h
theorem pe_eq {a b : Nat} (ha : a < 2147483648) (hb : b < 2147483648) : (nI a = nI b) = (a = b) := propext (nn_eq ha hb)
theorem pe_le {a b : Nat} (ha : a < 2147483648) (hb : b < 2147483648) : (nI a ≤ nI b) = (a ≤ b) := propext (nI_leI ha hb)
theorem pe_lt {a b : Nat} (ha : a < 2147483648) (hb : b < 2147483648) : (nI a < nI b) = (a < b) := propext (nI_ltI ha hb)
theorem pe_pos {α : Type} {c : Prop} [Decidable c] {x y : α} (h : c) : ite c x y = x := if_pos h
theorem pe_neg {α : Type} {c : Prop} [Decidable c] {x y : α} (h : ¬ c) : ite c x y = y := if_neg h
theorem pe_sub {a b : Nat} (h : b ≤ a) : nI a - nI b = nI (a - b) := nn_sub h
/-- a Java boolean -/
def pb (p : Prop) [Decidable p] : Int32 := if p then nI 1 else nI 0
theorem pb_0 (p : Prop) [Decidable p] : (pb p = nI 0) = ¬ p := by
  unfold pb
  by_cases h : p
  · rw [if_pos h]; exact propext ⟨fun z => absurd z (by decide), fun z => absurd h z⟩
  · rw [if_neg h]; exact propext ⟨fun _ => h, fun _ => rfl⟩
theorem pb_1 (p : Prop) [Decidable p] : (pb p = nI 1) = p := by
  unfold pb
  by_cases h : p
  · rw [if_pos h]; exact propext ⟨fun _ => h, fun _ => rfl⟩
  · rw [if_neg h]; exact propext ⟨fun z => absurd z (by decide), fun z => absurd z h⟩
theorem pb_z {β : Type} (p : Prop) [Decidable p] {k : Option β} : am_gd (am_zb (pb p)) k = k := pu_gd (by unfold pb; split <;> rfl)
theorem pe_ieq (g : am_G) (a k : Nat) (x : Int32) : am_I (am_si g a k x) a k = x := by rw [pI_si, if_pos ⟨rfl, rfl⟩]
theorem pe_ine {g : am_G} {a k : Nat} {x : Int32} {b j : Nat} (h : b ≠ a) : am_I (am_si g a k x) b j = am_I g b j := by rw [pI_si_ne _ _ _ h]
theorem pe_ik {g : am_G} {a k : Nat} {x : Int32} {j : Nat} (h : j ≠ k) : am_I (am_si g a k x) a j = am_I g a j := by rw [pI_si, if_neg (fun z => h z.2)]
theorem pe_tt {p : Prop} (h : p) : p = True := eq_true h
theorem pe_lle (x : Int32) : (¬ x < nI 0) = (nI 0 ≤ x) := propext Int32.not_lt
theorem pt_eq (a : Nat) : (nI a = nI a) = True := eq_true rfl
theorem pf_eq {a b : Nat} (h : a ≠ b) (ha : a < 2147483648) (hb : b < 2147483648) : (nI a = nI b) = False := eq_false fun z => h ((nn_eq ha hb).mp z)
theorem pt_le {a b : Nat} (h : a ≤ b) (hb : b < 2147483648) : (nI a ≤ nI b) = True := eq_true (nI_le h hb)
theorem pf_le {a b : Nat} (h : b < a) (ha : a < 2147483648) : (nI a ≤ nI b) = False := eq_false (nI_ge h ha)
theorem pt_lt {a b : Nat} (h : a < b) (hb : b < 2147483648) : (nI a < nI b) = True := eq_true (nI_lt h hb)
theorem pf_lt {a b : Nat} (h : b ≤ a) (ha : a < 2147483648) : (nI a < nI b) = False := eq_false (nI_nlt h ha)
theorem nI_m1 (n : Nat) : nI (n + 1) + -nI 1 = nI n := by
  rw [← Int32.sub_eq_add_neg]
  exact nn_sub (by omega)
theorem nI_ms (n : Nat) : nI (n + 1) - nI 1 = nI n := nn_sub (by omega)
theorem ofNat_nI (n : Nat) : Int32.ofNat n = nI n := rfl
theorem pe_srI (g : am_G) (a : Nat) (f : Nat → Int32) : am_I (am_sr g a f) a = f := pI_sr_row g a f
theorem pe_srN {g : am_G} {a b : Nat} {f : Nat → Int32} (h : b ≠ a) : am_I (am_sr g a f) b = am_I g b := pI_sr_ne g f h
theorem pe_srS (g : am_G) (a : Nat) (f : Nat → Int32) : am_S (am_sr g a f) = am_S g := rfl
theorem pe_srP (g : am_G) (a : Nat) (f : Nat → Int32) : am_P (am_sr g a f) = am_P g := rfl
theorem q11_within (a b c : Int32) (g : am_G) : fX11_within a b c g = some (pb (b ≤ a ∧ a ≤ c), g) := s11_within a b c g
theorem q11_isSlope (a : Int32) (g : am_G) : fX11_isSlope a g = some (pb (nI 0 ≤ a ∧ a ≤ nI 5), g) := s11_isSlope a g
theorem q11_isPlace (a : Int32) (g : am_G) : fX11_isPlace a g = some (pb (nI 0 ≤ a ∧ a ≤ nI 3), g) := s11_isPlace a g
theorem q11_isLoud (a : Int32) (g : am_G) : fX11_isLoud a g = some (pb (nI 1 ≤ a ∧ a ≤ nI 3), g) := s11_isLoud a g
theorem q12_in (a b c : Int32) (g : am_G) : fX12_in a.toInt64 b.toInt64 c.toInt64 g = some (pb (b ≤ a ∧ a ≤ c), g) := s12_inI a b c g
theorem q12_isSlope (a : Int32) (g : am_G) : fX12_isSlope a g = some (pb (nI 0 ≤ a ∧ a ≤ nI 5), g) := s12_isSlope a g
theorem q12_isPlace (a : Int32) (g : am_G) : fX12_isPlace a g = some (pb (nI 0 ≤ a ∧ a ≤ nI 3), g) := s12_isPlace a g
theorem q12_isLoud (a : Int32) (g : am_G) : fX12_isLoud a g = some (pb (nI 1 ≤ a ∧ a ≤ nI 3), g) := s12_isLoud a g
theorem q10_canBe (a b c : Int32) (g : am_G) : fX10_canBe a b c g = some (pb ((nI 1 ≤ a ∧ a ≤ nI 9) ∧ (nI 0 ≤ b ∧ b ≤ nI 9) ∧ (nI 0 ≤ c ∧ c ≤ nI 7)), g) := by
  unfold fX10_canBe
  simp (disch := first | omega | assumption | decide) only [pu_let, pu_jn, pu_bd, pu_ocs, pu_ocn, pu_gdt, pe_gd, pe_clamp, pe_eq, pe_le, pe_lt, pe_pos, pe_neg, nI_add, nn_mul, pe_sub, pb_0, pb_1, pb_z, pe_ieq, pe_ine, pe_ik, pP_si, pS_si, pn_si, ps_si, pL_si, ite_not, pe_gdd, pe_lle, decide_true, ofNat_nI, pe_srI, pe_srN, pe_srS, pe_srP, pl_0, pl_1, pl_2, pl_3, pl_4, pl_5, pl_6, pl_7, pl_8, pl_9, pl_10, pl_11, pl_12, pl_13, pl_14, pl_15, pl_16, pl_17, pl_18, pl_19, pl_20, pl_21, pl_22, pl_23, pl_24, pl_25, pl_26, pl_27, pl_28, pl_29, pl_30, pl_31, pl_32, pl_34, pl_36, pl_37, pl_40, pl_41, pl_42, pl_43, pl_45, pl_47, pl_48, pl_50, pl_57, pl_59, pl_60, pl_61, pl_62, pl_64, pl_70, pl_91, pl_93, pl_97, pl_98, pl_99, pl_100, pl_106, pl_122, pl_128, pl_136, pl_142, pl_165, pl_168, pl_170, pl_171, pl_173, pl_175, pl_187, pl_188, pl_189, pl_190, pl_206, pl_211, pl_219, pl_229, pl_255, pl_260, pl_400, pl_500, pl_512, pl_900, pl_999, pl_1000, pl_1001, pl_1005, pl_1020, pl_1023, pl_1024, pl_1103, pl_2000, pl_2040, pl_2176, pl_5660, pl_9999, pl_12345, pl_1000000, pl_1000003, pl_100000000, pl_1000000000, q11_within]
  unfold pb
  by_cases h1 : nI 1 ≤ a ∧ a ≤ nI 9 <;> by_cases h2 : nI 0 ≤ b ∧ b ≤ nI 9 <;> by_cases h3 : nI 0 ≤ c ∧ c ≤ nI 7 <;> simp only [h1, h2, h3, if_true, if_false, and_true, and_false, true_and, false_and]
theorem q10_coin {n : Nat} (hn : n < 16) (a b c : Int32) {g : am_G} (e : am_I g 12 4 = nI n) : fX10_coin a b c g = some (nI n, am_si (am_si (am_si (am_si (am_si g 13 n a) 14 n b) 15 n c) 16 n (nI 0)) 12 4 (nI (n + 1))) := by
  unfold fX10_coin
  simp (disch := first | omega | assumption | decide) only [pu_let, pu_jn, pu_bd, pu_ocs, pu_ocn, pu_gdt, pe_gd, pe_clamp, pe_eq, pe_le, pe_lt, pe_pos, pe_neg, nI_add, nn_mul, pe_sub, pb_0, pb_1, pb_z, pe_ieq, pe_ine, pe_ik, pP_si, pS_si, pn_si, ps_si, pL_si, ite_not, pe_gdd, pe_lle, decide_true, ofNat_nI, pe_srI, pe_srN, pe_srS, pe_srP, pl_0, pl_1, pl_2, pl_3, pl_4, pl_5, pl_6, pl_7, pl_8, pl_9, pl_10, pl_11, pl_12, pl_13, pl_14, pl_15, pl_16, pl_17, pl_18, pl_19, pl_20, pl_21, pl_22, pl_23, pl_24, pl_25, pl_26, pl_27, pl_28, pl_29, pl_30, pl_31, pl_32, pl_34, pl_36, pl_37, pl_40, pl_41, pl_42, pl_43, pl_45, pl_47, pl_48, pl_50, pl_57, pl_59, pl_60, pl_61, pl_62, pl_64, pl_70, pl_91, pl_93, pl_97, pl_98, pl_99, pl_100, pl_106, pl_122, pl_128, pl_136, pl_142, pl_165, pl_168, pl_170, pl_171, pl_173, pl_175, pl_187, pl_188, pl_189, pl_190, pl_206, pl_211, pl_219, pl_229, pl_255, pl_260, pl_400, pl_500, pl_512, pl_900, pl_999, pl_1000, pl_1001, pl_1005, pl_1020, pl_1023, pl_1024, pl_1103, pl_2000, pl_2040, pl_2176, pl_5660, pl_9999, pl_12345, pl_1000000, pl_1000003, pl_100000000, pl_1000000000, e]
  rfl
