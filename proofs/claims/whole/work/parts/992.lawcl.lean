/-! ===== a clause of a law ===== -/
def RLt (x26 : Int32) (g41 : am_G) : Option (Unit × am_G) :=
            am_gd (am_in (x26 + (4 : Int32)) 96) <|
            am_let (am_si g41 10 (x26 + (4 : Int32)).toNatClampNeg (am_I g41 0 23)) fun g44 =>
            am_gd (am_in (x26 + (5 : Int32)) 96) <|
            am_let (am_si g44 10 (x26 + (5 : Int32)).toNatClampNeg (am_I g44 0 23)) fun g46 =>
            if (am_I g46 0 19) = 0 then (
              am_bd (fX12_isWord (294 : Int64) g46) fun v50 g51 =>
              if v50 = 0 then (
                am_gd (am_in (x26 + (6 : Int32)) 96) <|
                am_let (am_si g51 10 (x26 + (6 : Int32)).toNatClampNeg (am_I g51 0 23)) fun g55 =>
                some ((), g55))
              else (
                am_bd (fX12_next g51) fun u56 g57 =>
                am_bd (fX12_readExpression (1 : Int32) g57) fun u59 g60 =>
                am_gd (am_in (x26 + (6 : Int32)) 96) <|
                am_let (am_si g60 10 (x26 + (6 : Int32)).toNatClampNeg (am_I g60 0 23)) fun g63 =>
                some ((), g63)))
            else (
              am_gd (am_in (x26 + (6 : Int32)) 96) <|
              am_let (am_si g46 10 (x26 + (6 : Int32)).toNatClampNeg (am_I g46 0 23)) fun g49 =>
              some ((), g49))
def RLb (x16 x26 : Int32) (g34 : am_G) : Option (Unit × am_G) :=
          am_gd (am_in x26 96) <|
          am_let (am_si g34 10 x26.toNatClampNeg x16) fun g36 =>
          am_let (am_si g36 0 21 ((am_I g36 0 21) + (1 : Int32))) fun g37 =>
          am_gd (am_in (x26 + (3 : Int32)) 96) <|
          am_let (am_si g37 10 (x26 + (3 : Int32)).toNatClampNeg (am_I g37 0 23)) fun g39 =>
          am_jn (RLt x26) fun j42 =>
          if x16 = (3 : Int32) then (
            j42 g39)
          else (
            am_bd (fX12_readExpression (0 : Int32) g39) fun u64 g65 =>
            j42 g65)
def RLm (x16 x19 : Int32) (g20 : am_G) : Option (Unit × am_G) :=
      am_bd (fX12_must x19 g20) fun u22 g23 =>
      if (am_I g23 0 19) = 0 then (
        am_let ((8 : Int32) * (am_I g23 0 21)) fun x26 =>
        fX12_readLaw_L75 (RLb x16 x26) x16 x26 am_fu (0 : Int32) g23)
      else (
        some ((), g23))
def RLk (x16 : Int32) (g17 : am_G) : Option (Unit × am_G) :=
    am_jn (RLm x16) fun j21 =>
    am_jn (fun  (g67 : am_G) =>
      j21 (0 : Int32) g67) fun j68 =>
    if x16 = (-1 : Int32) then (
      j68 g17)
    else (
      if (12 : Int32) ≤ (am_I g17 0 21) then (
        j68 g17)
      else (
        j21 (1 : Int32) g17))
theorem RL_eq (g : am_G) : fX12_readLaw g = fX12_readLaw_L4 RLk am_fu (-1) 0 g := by
  unfold fX12_readLaw
  refine congrArg (fun K => fX12_readLaw_L4 K am_fu (-1) 0 g) ?_
  funext x16 g17
  unfold RLk RLm RLb RLt
  rfl
theorem L17 : ∀ k, k < 4 → am_L am_gr 17 k = wcd (1 + k) := by decide +kernel
def hdN (c i : Nat) : Int32 := if 1 ≤ c ∧ c ≤ i then nI (c - 1) else -nI 1
theorem headL {K : Int32 → am_G → Option (Unit × am_G)} {g : am_G} {c : Nat} (h : TkS g c) (hL : am_L g 17 = am_L am_gr 17) : ∀ (d i n : Nat), i + d = 4 → d < n → fX12_readLaw_L4 K n (hdN c i) (nI i) g = K (hdN c 4) g
  | 0, i, n, hd, hn => by
    obtain ⟨n, rfl⟩ : ∃ m, n = m + 1 := ⟨n - 1, by omega⟩
    obtain rfl : i = 4 := by omega
    rw [fX12_readLaw_L4]
    simp (disch := first | omega | assumption | decide) only [↓pv_let, ↓pv_jn, ↓reduceIte, pv_bd, ↓pv_ocs, ↓pv_ocn, pv_gdt, pe_gd, pe_clamp, pt_eq, pf_eq, pt_le, pf_le, pt_lt, pf_lt, nI_add, nn_mul, pe_sub, pb_0, pb_1, pb_z, pe_ieq, pe_ine, pe_ik, pP_si, pS_si, pn_si, ps_si, pL_si, decide_true, ofNat_nI, pe_srI, pe_srN, pe_srS, pe_srP, not_true_eq_false, not_false_eq_true, true_and, and_true, and_self, false_and, and_false, nI_m1, nI_ms, Nat.add_sub_cancel, pl_0, pl_1, pl_2, pl_3, pl_4, pl_5, pl_6, pl_7, pl_8, pl_9, pl_10, pl_11, pl_12, pl_13, pl_14, pl_15, pl_16, pl_17, pl_18, pl_19, pl_20, pl_21, pl_22, pl_23, pl_24, pl_25, pl_26, pl_27, pl_28, pl_29, pl_30, pl_31, pl_32, pl_34, pl_36, pl_37, pl_40, pl_41, pl_42, pl_43, pl_45, pl_47, pl_48, pl_50, pl_57, pl_59, pl_60, pl_61, pl_62, pl_64, pl_70, pl_91, pl_93, pl_97, pl_98, pl_99, pl_100, pl_106, pl_122, pl_128, pl_136, pl_142, pl_165, pl_168, pl_170, pl_171, pl_173, pl_175, pl_187, pl_188, pl_189, pl_190, pl_206, pl_211, pl_219, pl_229, pl_255, pl_260, pl_400, pl_500, pl_512, pl_900, pl_999, pl_1000, pl_1001, pl_1005, pl_1020, pl_1023, pl_1024, pl_1103, pl_2000, pl_2040, pl_2176, pl_5660, pl_9999, pl_12345, pl_1000000, pl_1000003, pl_100000000, pl_1000000000, pz_0, pz_1, pz_t]
  | d + 1, i, n, hd, hn => by
    obtain ⟨n, rfl⟩ : ∃ m, n = m + 1 := ⟨n - 1, by omega⟩
    have IH := headL (K := K) h hL d (i + 1) n (by omega) (by omega)
    have hw := q12_isWordT h (k := 1 + i) (by omega) (by omega)
    rw [← L17 i (by omega), ← hL] at hw
    rw [← IH, fX12_readLaw_L4]
    by_cases e : c = 1 + i
    · have e2 : hdN c (i + 1) = nI i := by unfold hdN; rw [if_pos (by omega), show c - 1 = i by omega]
      rw [e2]
      simp (disch := first | omega | assumption | decide) only [↓pv_let, ↓pv_jn, ↓reduceIte, pv_bd, ↓pv_ocs, ↓pv_ocn, pv_gdt, pe_gd, pe_clamp, pt_eq, pf_eq, pt_le, pf_le, pt_lt, pf_lt, nI_add, nn_mul, pe_sub, pb_0, pb_1, pb_z, pe_ieq, pe_ine, pe_ik, pP_si, pS_si, pn_si, ps_si, pL_si, decide_true, ofNat_nI, pe_srI, pe_srN, pe_srS, pe_srP, not_true_eq_false, not_false_eq_true, true_and, and_true, and_self, false_and, and_false, nI_m1, nI_ms, Nat.add_sub_cancel, pl_0, pl_1, pl_2, pl_3, pl_4, pl_5, pl_6, pl_7, pl_8, pl_9, pl_10, pl_11, pl_12, pl_13, pl_14, pl_15, pl_16, pl_17, pl_18, pl_19, pl_20, pl_21, pl_22, pl_23, pl_24, pl_25, pl_26, pl_27, pl_28, pl_29, pl_30, pl_31, pl_32, pl_34, pl_36, pl_37, pl_40, pl_41, pl_42, pl_43, pl_45, pl_47, pl_48, pl_50, pl_57, pl_59, pl_60, pl_61, pl_62, pl_64, pl_70, pl_91, pl_93, pl_97, pl_98, pl_99, pl_100, pl_106, pl_122, pl_128, pl_136, pl_142, pl_165, pl_168, pl_170, pl_171, pl_173, pl_175, pl_187, pl_188, pl_189, pl_190, pl_206, pl_211, pl_219, pl_229, pl_255, pl_260, pl_400, pl_500, pl_512, pl_900, pl_999, pl_1000, pl_1001, pl_1005, pl_1020, pl_1023, pl_1024, pl_1103, pl_2000, pl_2040, pl_2176, pl_5660, pl_9999, pl_12345, pl_1000000, pl_1000003, pl_100000000, pl_1000000000, pz_0, pz_1, pz_t, hw, e]
    · have e2 : hdN c (i + 1) = hdN c i := by
        unfold hdN
        by_cases z : 1 ≤ c ∧ c ≤ i
        · rw [if_pos z, if_pos (by omega)]
        · rw [if_neg z, if_neg (by omega)]
      rw [e2]
      simp (disch := first | omega | assumption | decide) only [↓pv_let, ↓pv_jn, ↓reduceIte, pv_bd, ↓pv_ocs, ↓pv_ocn, pv_gdt, pe_gd, pe_clamp, pt_eq, pf_eq, pt_le, pf_le, pt_lt, pf_lt, nI_add, nn_mul, pe_sub, pb_0, pb_1, pb_z, pe_ieq, pe_ine, pe_ik, pP_si, pS_si, pn_si, ps_si, pL_si, decide_true, ofNat_nI, pe_srI, pe_srN, pe_srS, pe_srP, not_true_eq_false, not_false_eq_true, true_and, and_true, and_self, false_and, and_false, nI_m1, nI_ms, Nat.add_sub_cancel, pl_0, pl_1, pl_2, pl_3, pl_4, pl_5, pl_6, pl_7, pl_8, pl_9, pl_10, pl_11, pl_12, pl_13, pl_14, pl_15, pl_16, pl_17, pl_18, pl_19, pl_20, pl_21, pl_22, pl_23, pl_24, pl_25, pl_26, pl_27, pl_28, pl_29, pl_30, pl_31, pl_32, pl_34, pl_36, pl_37, pl_40, pl_41, pl_42, pl_43, pl_45, pl_47, pl_48, pl_50, pl_57, pl_59, pl_60, pl_61, pl_62, pl_64, pl_70, pl_91, pl_93, pl_97, pl_98, pl_99, pl_100, pl_106, pl_122, pl_128, pl_136, pl_142, pl_165, pl_168, pl_170, pl_171, pl_173, pl_175, pl_187, pl_188, pl_189, pl_190, pl_206, pl_211, pl_219, pl_229, pl_255, pl_260, pl_400, pl_500, pl_512, pl_900, pl_999, pl_1000, pl_1001, pl_1005, pl_1020, pl_1023, pl_1024, pl_1103, pl_2000, pl_2040, pl_2176, pl_5660, pl_9999, pl_12345, pl_1000000, pl_1000003, pl_100000000, pl_1000000000, pz_0, pz_1, pz_t, hw, e]
theorem zeroL {K : am_G → Option (Unit × am_G)} {x16 : Int32} {N : Nat} (hN : N < 12) : ∀ (d i n : Nat) (g : am_G), i + d = 8 → d < n → fX12_readLaw_L75 K x16 (nI (8 * N)) n (nI i) g = K (am_sr g 10 (fun k => if 8 * N + i ≤ k ∧ k < 8 * N + 8 then nI 0 else am_I g 10 k))
  | 0, i, n, g, hd, hn => by
    obtain ⟨n, rfl⟩ : ∃ m, n = m + 1 := ⟨n - 1, by omega⟩
    obtain rfl : i = 8 := by omega
    have e : (fun k => if 8 * N + 8 ≤ k ∧ k < 8 * N + 8 then nI 0 else am_I g 10 k) = am_I g 10 := by
      funext k
      rw [if_neg (by omega)]
    rw [e, sr_self, fX12_readLaw_L75]
    simp (disch := first | omega | assumption | decide) only [↓pv_let, ↓pv_jn, ↓reduceIte, pv_bd, ↓pv_ocs, ↓pv_ocn, pv_gdt, pe_gd, pe_clamp, pt_eq, pf_eq, pt_le, pf_le, pt_lt, pf_lt, nI_add, nn_mul, pe_sub, pb_0, pb_1, pb_z, pe_ieq, pe_ine, pe_ik, pP_si, pS_si, pn_si, ps_si, pL_si, decide_true, ofNat_nI, pe_srI, pe_srN, pe_srS, pe_srP, not_true_eq_false, not_false_eq_true, true_and, and_true, and_self, false_and, and_false, nI_m1, nI_ms, Nat.add_sub_cancel, pl_0, pl_1, pl_2, pl_3, pl_4, pl_5, pl_6, pl_7, pl_8, pl_9, pl_10, pl_11, pl_12, pl_13, pl_14, pl_15, pl_16, pl_17, pl_18, pl_19, pl_20, pl_21, pl_22, pl_23, pl_24, pl_25, pl_26, pl_27, pl_28, pl_29, pl_30, pl_31, pl_32, pl_34, pl_36, pl_37, pl_40, pl_41, pl_42, pl_43, pl_45, pl_47, pl_48, pl_50, pl_57, pl_59, pl_60, pl_61, pl_62, pl_64, pl_70, pl_91, pl_93, pl_97, pl_98, pl_99, pl_100, pl_106, pl_122, pl_128, pl_136, pl_142, pl_165, pl_168, pl_170, pl_171, pl_173, pl_175, pl_187, pl_188, pl_189, pl_190, pl_206, pl_211, pl_219, pl_229, pl_255, pl_260, pl_400, pl_500, pl_512, pl_900, pl_999, pl_1000, pl_1001, pl_1005, pl_1020, pl_1023, pl_1024, pl_1103, pl_2000, pl_2040, pl_2176, pl_5660, pl_9999, pl_12345, pl_1000000, pl_1000003, pl_100000000, pl_1000000000, pz_0, pz_1, pz_t]
  | d + 1, i, n, g, hd, hn => by
    obtain ⟨n, rfl⟩ : ∃ m, n = m + 1 := ⟨n - 1, by omega⟩
    have IH := zeroL (K := K) (x16 := x16) hN d (i + 1) n (am_si g 10 (8 * N + i) (nI 0)) (by omega) (by omega)
    have e : am_sr (am_si g 10 (8 * N + i) (nI 0)) 10 (fun k => if 8 * N + (i + 1) ≤ k ∧ k < 8 * N + 8 then nI 0 else am_I (am_si g 10 (8 * N + i) (nI 0)) 10 k) = am_sr g 10 (fun k => if 8 * N + i ≤ k ∧ k < 8 * N + 8 then nI 0 else am_I g 10 k) := by
      show am_sr (am_sr g 10 _) 10 _ = _
      rw [sr_sr]
      congr 1
      funext k
      rw [pI_si_row]
      by_cases h : k = 8 * N + i
      · subst h
        rw [if_neg (by omega), am_up_eq, if_pos (by omega)]
      · rw [am_up_ne h]
        by_cases h2 : 8 * N + (i + 1) ≤ k ∧ k < 8 * N + 8
        · rw [if_pos h2, if_pos (by omega)]
        · rw [if_neg h2, if_neg (by omega)]
    rw [e] at IH
    rw [← IH, fX12_readLaw_L75]
    simp (disch := first | omega | assumption | decide) only [↓pv_let, ↓pv_jn, ↓reduceIte, pv_bd, ↓pv_ocs, ↓pv_ocn, pv_gdt, pe_gd, pe_clamp, pt_eq, pf_eq, pt_le, pf_le, pt_lt, pf_lt, nI_add, nn_mul, pe_sub, pb_0, pb_1, pb_z, pe_ieq, pe_ine, pe_ik, pP_si, pS_si, pn_si, ps_si, pL_si, decide_true, ofNat_nI, pe_srI, pe_srN, pe_srS, pe_srP, not_true_eq_false, not_false_eq_true, true_and, and_true, and_self, false_and, and_false, nI_m1, nI_ms, Nat.add_sub_cancel, pl_0, pl_1, pl_2, pl_3, pl_4, pl_5, pl_6, pl_7, pl_8, pl_9, pl_10, pl_11, pl_12, pl_13, pl_14, pl_15, pl_16, pl_17, pl_18, pl_19, pl_20, pl_21, pl_22, pl_23, pl_24, pl_25, pl_26, pl_27, pl_28, pl_29, pl_30, pl_31, pl_32, pl_34, pl_36, pl_37, pl_40, pl_41, pl_42, pl_43, pl_45, pl_47, pl_48, pl_50, pl_57, pl_59, pl_60, pl_61, pl_62, pl_64, pl_70, pl_91, pl_93, pl_97, pl_98, pl_99, pl_100, pl_106, pl_122, pl_128, pl_136, pl_142, pl_165, pl_168, pl_170, pl_171, pl_173, pl_175, pl_187, pl_188, pl_189, pl_190, pl_206, pl_211, pl_219, pl_229, pl_255, pl_260, pl_400, pl_500, pl_512, pl_900, pl_999, pl_1000, pl_1001, pl_1005, pl_1020, pl_1023, pl_1024, pl_1103, pl_2000, pl_2040, pl_2176, pl_5660, pl_9999, pl_12345, pl_1000000, pl_1000003, pl_100000000, pl_1000000000, pz_0, pz_1, pz_t]
/-- the reference's cells that a reading of clauses uses -/
def FrQ (g g' : am_G) : Prop := (∀ a k, ¬ (10 ≤ a ∧ a ≤ 14) → a ≠ 33 → ¬ (a = 0 ∧ ((14 ≤ k ∧ k ≤ 16) ∨ k = 18 ∨ k = 19 ∨ k = 21 ∨ k = 23 ∨ k = 26 ∨ k = 29 ∨ k = 30)) → am_I g' a k = am_I g a k) ∧ (∀ a k, ¬ (a = 0 ∧ k = 17) → am_L g' a k = am_L g a k) ∧ g'.2.2 = g.2.2
theorem FrQ.rf (g : am_G) : FrQ g g := ⟨fun _ _ _ _ _ => rfl, fun _ _ _ => rfl, rfl⟩
theorem FrQ.tr {g h i : am_G} (h1 : FrQ g h) (h2 : FrQ h i) : FrQ g i := ⟨fun a k x y z => (h2.1 a k x y z).trans (h1.1 a k x y z), fun a k x => (h2.2.1 a k x).trans (h1.2.1 a k x), h2.2.2.trans h1.2.2⟩
theorem FrP.Q {g h : am_G} (h1 : FrP g h) : FrQ g h := ⟨fun a k x _ y => h1.1 a k (by omega) (fun z => y ⟨z.1, by omega⟩), h1.2.1, h1.2.2⟩
theorem FrQ.si {g h : am_G} (h1 : FrQ g h) {a k : Nat} (ha : a = 10 ∨ a = 33 ∨ (a = 0 ∧ k = 21)) (x : Int32) : FrQ g (am_si h a k x) := ⟨fun b j y z w => by rw [pI_si, if_neg (fun q => by omega)]; exact h1.1 b j y z w, h1.2.1, h1.2.2⟩
theorem FrQ.srw {g h : am_G} (h1 : FrQ g h) (f : Nat → Int32) : FrQ g (am_sr h 10 f) := ⟨fun b j y z w => by rw [pI_sr_ne _ _ (by omega)]; exact h1.1 b j y z w, h1.2.1, h1.2.2⟩
theorem FBo.s10 {b : Nat → Nat} {len h : Nat} {g : am_G} (hr : FBo b len h g) {a : Nat} (ha : a = 10 ∨ a = 33) (k : Nat) (x : Int32) : FBo b len h (am_si g a k x) := ⟨by rw [pe_ine (by omega)]; exact hr.1, by rw [pe_ine (by omega)]; exact hr.2⟩
theorem RQ.s10 {md : Bool} {b : Nat → Nat} {len h nl : Nat} {X : Cd} {g : am_G} (hr : RQ md b len h X nl g) {a : Nat} (ha : a = 10 ∨ a = 33) (k : Nat) (x : Int32) : RQ md b len h X nl (am_si g a k x) :=
  hr.of (hr.lx.cg (fun j _ _ => pe_ine (by omega)) (fun j => pe_ine (by omega)) rfl) (fun j _ => pe_ine (by omega)) (fun c j h1 h2 => pe_ine (by omega)) rfl rfl
theorem RQ.s21 {md : Bool} {b : Nat → Nat} {len h nl : Nat} {X : Cd} {g : am_G} (hr : RQ md b len h X nl g) (x : Int32) : RQ md b len h X nl (am_si g 0 21 x) :=
  hr.of (hr.lx.cg (fun j _ _ => pe_ik (by omega)) (fun j => pe_ine (by omega)) rfl) (fun j hj => pe_ik (by omega)) (fun c j h1 h2 => pe_ine (by omega)) rfl rfl
/-- the end of a clause: "if", or none -/
theorem RLt_ok {md : Bool} {b : Nat → Nat} {len h nl N : Nat} {X : Cd} {g : am_G} (hN : N < 12) (hr : RQ md b len h X nl g) : RLt (nI (8 * N)) g = am_bd (ifR (am_si (am_si g 10 (8 * N + 4) (nI X.2.2)) 10 (8 * N + 5) (nI X.2.2))) (fun _ g' => some ((), am_si g' 10 (8 * N + 6) (am_I g' 0 23))) := by
  obtain ⟨c23, c19, -⟩ := hr.c
  have a4 : nI (8 * N) + (4 : Int32) = nI (8 * N + 4) := nI_add _ 4
  have a5 : nI (8 * N) + (5 : Int32) = nI (8 * N + 5) := nI_add _ 5
  have a6 : nI (8 * N) + (6 : Int32) = nI (8 * N + 6) := nI_add _ 6
  unfold RLt
  rw [a4, a5, a6, pe_gd (show 8 * N + 4 < 96 by omega) (by decide), pu_let, pe_clamp (show 8 * N + 4 < 2147483648 by omega), pe_gd (show 8 * N + 5 < 96 by omega) (by decide), pu_let, pe_clamp (show 8 * N + 5 < 2147483648 by omega), c23, show am_I (am_si g 10 (8 * N + 4) (nI X.2.2)) 0 23 = nI X.2.2 from (pe_ine (by decide)).trans c23, if_pos (show am_I (am_si (am_si g 10 (8 * N + 4) (nI X.2.2)) 10 (8 * N + 5) (nI X.2.2)) 0 19 = 0 by rw [pe_ine (by decide), pe_ine (by decide)]; exact c19)]
  unfold ifR
  generalize am_si (am_si g 10 (8 * N + 4) (nI X.2.2)) 10 (8 * N + 5) (nI X.2.2) = g0
  cases e : fX12_isWord 294 g0 with
  | none => rfl
  | some q =>
    obtain ⟨v, g1⟩ := q
    rw [pu_bd, pu_bd]
    by_cases hv : v = 0
    · rw [if_pos hv, if_pos hv, pu_bd, pe_gd (show 8 * N + 6 < 96 by omega) (by decide), pu_let, pe_clamp (show 8 * N + 6 < 2147483648 by omega)]
    · rw [if_neg hv, if_neg hv]
      cases e2 : fX12_next g1 with
      | none => rfl
      | some q2 =>
        obtain ⟨u2, g2⟩ := q2
        rw [pu_bd, pu_bd]
        cases e3 : fX12_readExpression 1 g2 with
        | none => rfl
        | some q3 =>
          obtain ⟨u3, g3⟩ := q3
          rw [pu_bd, pu_bd, pe_gd (show 8 * N + 6 < 96 by omega) (by decide), pu_let, pe_clamp (show 8 * N + 6 < 2147483648 by omega)]
theorem RLt_bad {b : Nat → Nat} {len h N : Nat} {g : am_G} (hN : N < 12) (hr : FBo b len h g) : ∃ g', RLt (nI (8 * N)) g = some ((), g') ∧ FBo b len h g' ∧ FrQ g g' := by
  have a4 : nI (8 * N) + (4 : Int32) = nI (8 * N + 4) := nI_add _ 4
  have a5 : nI (8 * N) + (5 : Int32) = nI (8 * N + 5) := nI_add _ 5
  have a6 : nI (8 * N) + (6 : Int32) = nI (8 * N + 6) := nI_add _ 6
  refine ⟨am_si (am_si (am_si g 10 (8 * N + 4) (am_I g 0 23)) 10 (8 * N + 5) (am_I g 0 23)) 10 (8 * N + 6) (am_I g 0 23), ?_, ((hr.s10 (Or.inl rfl) _ _).s10 (Or.inl rfl) _ _).s10 (Or.inl rfl) _ _, (((FrQ.rf g).si (by omega) _).si (by omega) _).si (by omega) _⟩
  unfold RLt
  rw [a4, a5, a6, pe_gd (show 8 * N + 4 < 96 by omega) (by decide), pu_let, pe_clamp (show 8 * N + 4 < 2147483648 by omega), pe_gd (show 8 * N + 5 < 96 by omega) (by decide), pu_let, pe_clamp (show 8 * N + 5 < 2147483648 by omega), show am_I (am_si g 10 (8 * N + 4) (am_I g 0 23)) 0 23 = am_I g 0 23 from pe_ine (by decide), if_neg (show ¬ am_I (am_si (am_si g 10 (8 * N + 4) (am_I g 0 23)) 10 (8 * N + 5) (am_I g 0 23)) 0 19 = 0 by rw [pe_ine (by decide), pe_ine (by decide), hr.1]; decide), pe_gd (show 8 * N + 6 < 96 by omega) (by decide), pu_let, pe_clamp (show 8 * N + 6 < 2147483648 by omega), pe_ine (show (0 : Nat) ≠ 10 by decide), pe_ine (show (0 : Nat) ≠ 10 by decide)]
