/-! ===== harm and slides counted from another start ===== -/
def o9 (j : Nat) : Prop := j = 8 ∨ (10 ≤ j ∧ j < 70 ∧ (j - 10) % 10 = 9)
def of9 (δ ρ : Row) : Row := fun j => if j = 8 ∨ (10 ≤ j ∧ j < 70 ∧ (j - 10) % 10 = 9) then ρ j + δ j else ρ j
theorem of9_at {δ ρ : Row} {j : Nat} (h : ¬ o9 j) : of9 δ ρ j = ρ j := if_neg h
theorem of9_y {δ ρ : Row} {j : Nat} (h : o9 j) : of9 δ ρ j = ρ j + δ j := if_pos h
theorem of9_up {δ ρ : Row} {j : Nat} {x : Int32} (h : ¬ o9 j) : of9 δ (am_up ρ j x) = am_up (of9 δ ρ) j x := by
  funext i
  by_cases e : i = j
  · subst e; rw [of9_at h, am_up_eq, am_up_eq]
  · rw [am_up_ne e]
    unfold of9
    rw [am_up_ne e]
theorem of9_uy {δ ρ : Row} {j : Nat} {y : Int32} (h : o9 j) : of9 δ (am_up ρ j (ρ j + y)) = am_up (of9 δ ρ) j (of9 δ ρ j + y) := by
  funext i
  by_cases e : i = j
  · subst e
    rw [of9_y h, am_up_eq, am_up_eq, of9_y h, Int32.add_assoc, Int32.add_comm y, ← Int32.add_assoc]
  · rw [am_up_ne e]
    unfold of9
    rw [am_up_ne e]
theorem of9_eS {δ ρ : Row} {w p s : Nat} (l : Nat) (hw : w < 16) (hp : p < 4) (hs : s < 6) : eS (of9 δ ρ) w p l s = eS ρ w p l s := by
  unfold eS
  rw [of9_at (j := 142 + 4 * w + 0) (by unfold o9; omega), of9_at (j := 142 + 4 * w + 1) (by unfold o9; omega), of9_at (j := 10 + 10 * s + (4 + p)) (by unfold o9; omega), of9_at (j := 10 + 10 * s + 0) (by unfold o9; omega), of9_at (j := 7) (by unfold o9; omega), of9_at (j := 6) (by unfold o9; omega)]
theorem of9_eB {δ ρ : Row} {w : Nat} (p l : Nat) (hw : w < 16) : eB (of9 δ ρ) w p l = eB ρ w p l := by
  unfold eB
  rw [of9_at (j := 142 + 4 * w + 0) (by unfold o9; omega), of9_at (j := 142 + 4 * w + 1) (by unfold o9; omega), of9_at (j := 7) (by unfold o9; omega), of9_at (j := 6) (by unfold o9; omega)]
theorem of9_eW {δ ρ : Row} {s : Nat} (hs : s < 6) : eW (of9 δ ρ) s = eW ρ s := by
  unfold eW
  rw [of9_at (j := 10 + 10 * s + 0) (by unfold o9; omega), of9_at (j := 7) (by unfold o9; omega), of9_at (j := 6) (by unfold o9; omega)]
theorem of9_shk {q : Option pLw} {δ ρ : Row} {w p s : Nat} (l : Nat) (hw : w < 16) (hp : p < 4) (hs : s < 6) : shk q (of9 δ ρ) w p l s = shk q ρ w p l s := by
  unfold shk
  rw [of9_eS l hw hp hs, of9_at (j := 142 + 4 * w + 0) (by unfold o9; omega), of9_at (j := 10 + 10 * s + (4 + p)) (by unfold o9; omega)]
theorem of9_brd {q : Option pLw} {δ ρ : Row} {w : Nat} (p l : Nat) (hw : w < 16) : brd q (of9 δ ρ) w p l = brd q ρ w p l := by
  unfold brd
  rw [of9_eB p l hw]
theorem of9_prs {δ ρ : Row} {i : Nat} (hi : i < 6) {sh : Nat → Int32} : ∀ n, n ≤ 6 → of9 δ (prs ρ i sh n) = prs (of9 δ ρ) i sh n
  | 0, _ => rfl
  | n + 1, hn => by
    rw [prs, prs, of9_up (by unfold o9; omega), of9_up (by unfold o9; omega), of9_prs hi n (by omega), ← of9_prs hi n (by omega), of9_at (j := 10 + 10 * n + 8) (by unfold o9; omega), of9_at (j := 70 + 6 * n + i) (by unfold o9; omega)]
theorem of9_mvp {δ ρ : Row} {s : Nat} (hs : s < 6) : ∀ n, n ≤ 6 → of9 δ (mvp ρ s n) = mvp (of9 δ ρ) s n
  | 0, _ => rfl
  | n + 1, hn => by
    rw [mvp, mvp, of9_up (by unfold o9; omega), of9_up (by unfold o9; omega), of9_mvp hs n (by omega), ← of9_mvp hs n (by omega), of9_at (j := 70 + 6 * s + n) (by unfold o9; omega)]
theorem of9_sldA {δ ρ : Row} {s : Nat} (hs : s < 6) (hV : okV ρ) : of9 δ (sldA ρ s) = sldA (of9 δ ρ) s := by
  unfold sldA
  rw [of9_at (j := 10 + 10 * s + 2) (by unfold o9; omega), of9_at (j := 10 + 10 * s + 3) (by unfold o9; omega), of9_at (j := 10 + 10 * s + 0) (by unfold o9; omega)]
  rcases hV.below hs with e | ⟨b, hb1, hb2, e⟩
  · rw [if_pos e, if_pos e]
    split
    · rw [of9_up (by unfold o9; omega), of9_at (j := 9) (by unfold o9; omega)]
    · exact of9_uy (Or.inl rfl)
  · rw [e, if_neg (nI_m1ne (by omega)), if_neg (nI_m1ne (by omega)), pe_clamp (by omega), of9_up (by unfold o9; omega), of9_at (j := 10 + 10 * b + 0) (by unfold o9; omega)]
theorem of9_sldB {δ ρ : Row} {s : Nat} (hs : s < 6) : of9 δ (sldB ρ s) = sldB (of9 δ ρ) s := by
  unfold sldB
  have h := of9_uy (δ := δ) (ρ := am_up (am_up ρ (10 + 10 * s + 0) (nI 0)) (10 + 10 * s + 8) (nI 0)) (j := 10 + 10 * s + 9) (y := nI 1) (by unfold o9; omega)
  rw [am_up_ne (show 10 + 10 * s + 9 ≠ 10 + 10 * s + 8 by omega), am_up_ne (show 10 + 10 * s + 9 ≠ 10 + 10 * s + 0 by omega)] at h
  rw [h, of9_up (by unfold o9; omega), of9_up (by unfold o9; omega), am_up_ne (show 10 + 10 * s + 9 ≠ 10 + 10 * s + 8 by omega), am_up_ne (show 10 + 10 * s + 9 ≠ 10 + 10 * s + 0 by omega)]
theorem of9_sld1 {δ ρ : Row} {s : Nat} (hs : s < 6) (hV : okV ρ) : of9 δ (sld1 ρ s) = sld1 (of9 δ ρ) s := by
  unfold sld1
  rw [of9_mvp hs 6 (Nat.le_refl _), of9_sldB hs, of9_sldA hs hV]
theorem of9_unst {δ ρ : Row} {s : Nat} (hs : s < 6) : unst (of9 δ ρ) s = unst ρ s := by
  unfold unst
  rw [of9_at (j := 10 + 10 * s + 0) (by unfold o9; omega), of9_at (j := 10 + 10 * s + 1) (by unfold o9; omega), of9_at (j := 10 + 10 * s + 8) (by unfold o9; omega)]
theorem of9_sldU {δ : Row} : ∀ (d s : Nat) (ρ : Row), s + d = 6 → okV ρ → (sldU d s (of9 δ ρ)).1 = (sldU d s ρ).1 ∧ (sldU d s (of9 δ ρ)).2 = of9 δ (sldU d s ρ).2
  | 0, _, _, _, _ => ⟨rfl, rfl⟩
  | d + 1, s, ρ, hd, hV => by
    rw [sldU, sldU, of9_unst (by omega)]
    by_cases hu : unst ρ s = true
    · rw [if_pos hu, if_pos hu, ← of9_sld1 (by omega) hV]
      have ih := of9_sldU (δ := δ) d (s + 1) (sld1 ρ s) (by omega) (sld1_ok hV (by omega))
      exact ⟨by show (sldU d (s + 1) (of9 δ (sld1 ρ s))).1 + 1 = _; rw [ih.1], ih.2⟩
    · rw [if_neg hu, if_neg hu]
      exact of9_sldU d (s + 1) ρ (by omega) hV
theorem of9_ok {δ ρ : Row} (hV : okV ρ) : okV (of9 δ ρ) := by
  intro j hj hs
  by_cases h : o9 j
  · by_cases h8 : j = 8
    · exact okAt_free (Or.inl h8) _
    · exact absurd (by unfold o9 at h; unfold stp; omega) hs
  · rw [of9_at h]; exact hV j hj hs
theorem of9_say {q : Option pLw} {δ ρ : Row} {i w p : Nat} (l : Nat) (hV : okV ρ) (hi : i < 6) (hw : w < 16) (hp : p < 4) : (sayP q (of9 δ ρ) i w p l).2 = of9 δ (sayP q ρ i w p l).2 := by
  unfold sayP
  rw [prs_cg (sh := shk q (of9 δ ρ) w p l) (sh' := shk q ρ w p l) 6 (fun s hs => of9_shk l hw hp hs), ← of9_prs hi 6 (Nat.le_refl _)]
  exact (of9_sldU 6 0 _ rfl (hV.cg (prs_ag ρ hi _ 6 (Nat.le_refl _)))).2
theorem of9_dwnN {q : Option pLw} {δ ρ : Row} : ∀ n, n ≤ 6 → of9 δ (dwnN q ρ n) = dwnN q (of9 δ ρ) n
  | 0, _ => by
    show of9 δ (am_up ρ 6 (ρ 6 + nI 1)) = am_up (of9 δ ρ) 6 (of9 δ ρ 6 + nI 1)
    rw [of9_up (by unfold o9; omega), of9_at (j := 6) (by unfold o9; omega)]
  | n + 1, hn => by
    rw [dwnN, dwnN, of9_up (by unfold o9; omega), of9_dwnN n (by omega)]
    congr 1
    unfold nsn
    rw [of9_at (j := 6) (by unfold o9; omega), ← of9_up (by unfold o9; omega), of9_at (j := 10 + 10 * n + 0) (by unfold o9; omega)]
    unfold fll thw
    rw [of9_eW (by omega)]
theorem of9_eas {δ ρ : Row} : of9 δ (eas ρ) = eas (of9 δ ρ) := by
  funext j
  by_cases h : o9 j
  · rw [of9_y h]
    unfold o9 at h
    unfold eas
    rw [if_neg (by omega), if_neg (by omega), of9_y h]
  · rw [of9_at h]
    unfold eas
    rw [of9_at h]
theorem of9_dwn {q : Option pLw} {δ ρ : Row} (hV : okV ρ) (hd : ρ 6 < nI 999) : (dwnP q (of9 δ ρ)).2 = of9 δ (dwnP q ρ).2 := by
  unfold dwnP dwn
  rw [← of9_dwnN 6 (Nat.le_refl _), ← of9_eas]
  exact (of9_sldU 6 0 _ rfl (dwn_ok hV hd)).2
/-! draws -/
def nxd (m : Nat) : Nat := (m * 1103 + 12345) % 1000003
theorem nxd_le (m : Nat) : nxd m ≤ 1000002 := by
  have := Nat.mod_lt (m * 1103 + 12345) (show 0 < 1000003 by decide)
  unfold nxd
  omega
theorem t64 {a : Nat} (h : a < 2147483648) : (nI a).toInt64.toInt = a := by rw [Int32.toInt_toInt64, nn_toInt h]
theorem q11_nextDraw {m : Nat} (hm : m ≤ 1000002) (g : am_G) : fX11_nextDraw (nI m) g = some (nI (nxd m), g) := by
  unfold fX11_nextDraw nxd
  simp (disch := first | omega | assumption | decide) only [↓pv_let, ↓pv_jn, ↓reduceIte, pv_bd, ↓pv_ocs, ↓pv_ocn, pv_gdt, pe_gd, pe_clamp, pt_eq, pf_eq, pt_le, pf_le, pt_lt, pf_lt, nI_add, nn_mul, pe_sub, pb_0, pb_1, pb_z, pe_ieq, pe_ine, pe_ik, pP_si, pS_si, pn_si, ps_si, pL_si, decide_true, ofNat_nI, pe_srI, pe_srN, pe_srS, pe_srP, not_true_eq_false, not_false_eq_true, true_and, and_true, and_self, false_and, and_false, nI_m1, nI_ms, Nat.add_sub_cancel, pl_0, pl_1, pl_2, pl_3, pl_4, pl_5, pl_6, pl_7, pl_8, pl_9, pl_10, pl_11, pl_12, pl_13, pl_14, pl_15, pl_16, pl_17, pl_18, pl_19, pl_20, pl_21, pl_22, pl_23, pl_24, pl_25, pl_26, pl_27, pl_28, pl_29, pl_30, pl_31, pl_32, pl_34, pl_36, pl_37, pl_40, pl_41, pl_42, pl_43, pl_45, pl_47, pl_48, pl_50, pl_57, pl_59, pl_60, pl_61, pl_62, pl_64, pl_70, pl_91, pl_93, pl_97, pl_98, pl_99, pl_100, pl_106, pl_122, pl_128, pl_136, pl_142, pl_165, pl_168, pl_170, pl_171, pl_173, pl_175, pl_187, pl_188, pl_189, pl_190, pl_206, pl_211, pl_219, pl_229, pl_255, pl_260, pl_400, pl_500, pl_512, pl_900, pl_999, pl_1000, pl_1001, pl_1005, pl_1020, pl_1023, pl_1024, pl_1103, pl_2000, pl_2040, pl_2176, pl_5660, pl_9999, pl_12345, pl_1000000, pl_1000003, pl_100000000, pl_1000000000, pz_0, pz_1, pz_t, prem]
theorem rem64 {a c : Nat} (ha : a < 2147483648) (hc : 0 < c) (hc' : c < 2147483648) : (nI a).toInt64 - (nI a).toInt64 / (nI c).toInt64 * (nI c).toInt64 = (nI (a % c)).toInt64 := by
  have hm := Nat.mod_lt a hc
  have hle := Nat.mod_le a c
  have hd : ((nI a).toInt64 / (nI c).toInt64).toInt = ((a / c : Nat) : Int) := by
    rw [Int64.toInt_div_of_ne_right _ _ (fun z => by have := congrArg Int64.toInt z; rw [t64 hc'] at this; have e : (-1 : Int64).toInt = -1 := (by decide); omega), t64 ha, t64 hc']
    exact (Int.ofNat_tdiv a c).symm
  have h1 : a / c * c ≤ a := Nat.div_mul_le_self a c
  have h2 : a / c * c + a % c = a := Nat.div_add_mod' a c
  apply Int64.toInt_inj.mp
  rw [Int64.toInt_sub, Int64.toInt_mul, hd, t64 ha, t64 hc', t64 (by omega)]
  have h3 : ((a / c : Nat) : Int) * (c : Int) = ((a / c * c : Nat) : Int) := by rw [Int.natCast_mul]
  rw [h3, Int.bmod_eq_of_le (n := ((a / c * c : Nat) : Int)) (by omega) (by omega), Int.bmod_eq_of_le (by omega) (by omega)]
  omega
theorem q12_draw {m c : Nat} (hm : m ≤ 1000002) (hc : 0 < c) (hc' : c ≤ 16) {g : am_G} (e : am_L g 0 61 = (nI m).toInt64) : fX12_draw (nI c) g = some (nI (nxd m % c), am_sl g 0 61 (nI (nxd m)).toInt64) := by
  have e1 : (nI m).toInt64 * 1103 + 12345 = (nI (m * 1103 + 12345)).toInt64 := by
    apply Int64.toInt_inj.mp
    rw [Int64.toInt_add, Int64.toInt_mul, t64 (by omega), t64 (by omega)]
    have a1 : (1103 : Int64).toInt = 1103 := rfl
    have a2 : (12345 : Int64).toInt = 12345 := rfl
    rw [a1, a2, Int.bmod_eq_of_le (n := (m : Int) * 1103) (by omega) (by omega), Int.bmod_eq_of_le (by omega) (by omega)]
    omega
  have e2 : (nI (m * 1103 + 12345)).toInt64 - (nI (m * 1103 + 12345)).toInt64 / 1000003 * 1000003 = (nI (nxd m)).toInt64 := rem64 (c := 1000003) (by omega) (by decide) (by decide)
  have hn := nxd_le m
  have e3 := rem64 (a := nxd m) (c := c) (by omega) hc (by omega)
  have hz : ¬ (nI c).toInt64 = 0 := by
    intro z
    have h1 : (nI c).toInt64.toInt = (0 : Int64).toInt := congrArg Int64.toInt z
    rw [t64 (show c < 2147483648 by omega), show (0 : Int64).toInt = 0 from rfl] at h1
    omega
  unfold fX12_draw
  rw [pu_let, e, e1, e2, gd0 hz, rLk, e3, Int32.toInt32_toInt64]
