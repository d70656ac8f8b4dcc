/-! ===== the reference's next token ===== -/
theorem skp_rg (b : Nat → Nat) : ∀ d i, i ≤ skp b d i ∧ skp b d i ≤ i + d
  | 0, i => ⟨Nat.le_refl _, Nat.le_refl _⟩
  | d + 1, i => by
    rw [skp]
    have := skp_rg b d (i + 1)
    split <;> omega
theorem rnF_rg (P : Nat → Bool) (b : Nat → Nat) : ∀ d i, i ≤ rnF P b d i ∧ rnF P b d i ≤ i + d
  | 0, i => ⟨Nat.le_refl _, Nat.le_refl _⟩
  | d + 1, i => by
    rw [rnF]
    have := rnF_rg P b d (i + 1)
    split <;> omega
theorem rnF_all (P : Nat → Bool) (b : Nat → Nat) : ∀ d i j, i ≤ j → j < rnF P b d i → P (b j) = true
  | 0, i, j, h1, h2 => by rw [rnF] at h2; omega
  | d + 1, i, j, h1, h2 => by
    rw [rnF] at h2
    by_cases e : P (b i) = true
    · rw [if_pos e] at h2
      by_cases z : j = i
      · rw [z]; exact e
      · exact rnF_all P b d (i + 1) j (by omega) h2
    · rw [if_neg e] at h2; omega
theorem enS_rg {b : Nat → Nat} {len s : Nat} (h : s ≤ len) : s ≤ enS b len s ∧ enS b len s ≤ len ∧ (s < len → s < enS b len s) := by
  unfold enS
  by_cases h0 : len ≤ s
  · rw [if_pos h0]; omega
  · rw [if_neg h0]
    obtain ⟨d, hd⟩ : ∃ d, len - s = d + 1 := ⟨len - s - 1, by omega⟩
    split
    · rename_i hL
      rw [hd, rnF, if_pos hL]
      have := rnF_rg isL b d (s + 1)
      omega
    · split
      · rename_i hL
        rw [hd, rnF, if_pos hL]
        have := rnF_rg isDg b d (s + 1)
        omega
      · omega
theorem plF_le (b : Nat → Nat) (len : Nat) : ∀ i, plF b len i ≤ len
  | 0 => by rw [plF]; have := skp_rg b len 0; omega
  | i + 1 => by
    rw [plF]
    have h1 := enS_rg (b := b) (plF_le b len i)
    have h2 := skp_rg b (len - enS b len (plF b len i)) (enS b len (plF b len i))
    omega
theorem fnd_pos : ∀ (ns : List (List Nat)) (k : Nat) (l : List Nat), (∃ j, ns[j]? = some l ∧ fnd k ns l = k + j) ∨ fnd k ns l = 99
  | [], k, l => Or.inr rfl
  | n :: r, k, l => by
    rw [fnd]
    by_cases e : l = n
    · rw [if_pos e]
      exact Or.inl ⟨0, by rw [e]; rfl, by omega⟩
    · rw [if_neg e]
      rcases fnd_pos r (k + 1) l with ⟨j, h1, h2⟩ | h
      · exact Or.inl ⟨j + 1, by rw [List.getElem?_cons_succ]; exact h1, by omega⟩
      · exact Or.inr h
theorem nms_len : nms.length = 27 := rfl
theorem fnd_rg (l : List Nat) : 1 ≤ fnd 1 nms l ∧ fnd 1 nms l ≤ 99 := by
  rcases fnd_pos nms 1 l with ⟨j, h1, h2⟩ | h
  · have : j < nms.length := by
      rcases Nat.lt_or_ge j nms.length with z | z
      · exact z
      · rw [List.getElem?_eq_none z] at h1; exact absurd h1 (by simp)
    rw [nms_len] at this
    omega
  · omega
theorem fnd_own : ∀ j, j < 27 → fnd 1 nms (nms.getD j []) = 1 + j := by decide +kernel
theorem fnd_iff (l : List Nat) {j : Nat} (hj : j < 27) : fnd 1 nms l = 1 + j ↔ l = nms.getD j [] := by
  constructor
  · intro h
    rcases fnd_pos nms 1 l with ⟨i, h1, h2⟩ | h'
    · have : i = j := by omega
      subst this
      rw [List.getD_eq_getElem?_getD, h1]
      rfl
    · omega
  · intro h
    rw [h]
    exact fnd_own j hj
theorem tkS_0 {b : Nat → Nat} {len s : Nat} (hs : s ≤ len) : tkS b len s = 0 ↔ s = len := by
  unfold tkS
  by_cases h : len ≤ s
  · rw [if_pos h]; omega
  · rw [if_neg h]
    split
    · have := (fnd_rg (lst b (enS b len s - s) s)).1; omega
    · split <;> omega
/-- how the letters are joined to a number -/
def wrN (b : Nat → Nat) (s : Nat) : Nat → Nat
  | 0 => 0
  | j + 1 => wrN b s j * 32 + (b (s + j) - 96)
theorem wrN_lt {b : Nat → Nat} {s : Nat} : ∀ j, (∀ i, i < j → isL (b (s + i)) = true) → wrN b s j < 32 ^ j
  | 0, _ => by rw [wrN]; decide
  | j + 1, h => by
    have h1 := wrN_lt j (fun i hi => h i (by omega))
    have h2 := h j (by omega)
    unfold isL at h2
    have h3 := of_decide_eq_true h2
    rw [wrN, Nat.pow_succ]
    omega
theorem wrN_inj {b b' : Nat → Nat} {s s' : Nat} : ∀ j m, (∀ i, i < j → isL (b (s + i)) = true) → (∀ i, i < m → isL (b' (s' + i)) = true) → wrN b s j = wrN b' s' m → j = m ∧ ∀ i, i < j → b (s + i) = b' (s' + i)
  | 0, 0, _, _, _ => ⟨rfl, fun i hi => absurd hi (by omega)⟩
  | 0, m + 1, _, h', e => by
    have h2 := of_decide_eq_true (h' m (by omega))
    rw [wrN, wrN] at e
    omega
  | j + 1, 0, h, _, e => by
    have h2 := of_decide_eq_true (h j (by omega))
    rw [wrN, wrN] at e
    omega
  | j + 1, m + 1, h, h', e => by
    have h1 := of_decide_eq_true (h j (by omega))
    have h2 := of_decide_eq_true (h' m (by omega))
    rw [wrN, wrN] at e
    obtain ⟨z1, z2⟩ := wrN_inj j m (fun i hi => h i (by omega)) (fun i hi => h' i (by omega)) (by omega)
    subst z1
    refine ⟨rfl, fun i hi => ?_⟩
    by_cases y : i = j
    · subst y; omega
    · exact z2 i (by omega)
def nmb (k : Nat) : Nat → Nat := fun i => (nms.getD k []).getD i 0
def nml (k : Nat) : Nat := (nms.getD k []).length
theorem nm_let : ∀ k, k < 27 → nml k ≤ 6 ∧ ∀ i, i < nml k → isL (nmb k (0 + i)) = true := by
  have key : ∀ k, k < 27 → nml k ≤ 6 ∧ ∀ i, i < 6 → i < nml k → isL (nmb k (0 + i)) = true := by decide +kernel
  intro k hk
  exact ⟨(key k hk).1, fun i hi => (key k hk).2 i (by have := (key k hk).1; omega) hi⟩
theorem nm_wcd : ∀ k, k < 27 → wcd (1 + k) = Int64.ofNat (wrN (nmb k) 0 (nml k)) ∧ wcd (1 + k) ≠ -1 := by decide +kernel
theorem lst_len (b : Nat → Nat) : ∀ d s, (lst b d s).length = d
  | 0, _ => rfl
  | d + 1, s => by rw [lst, List.length_cons, lst_len b d (s + 1)]
theorem lst_eq {b : Nat → Nat} : ∀ (l : List Nat) (d s : Nat), lst b d s = l ↔ d = l.length ∧ ∀ i, i < d → b (s + i) = l.getD i 0
  | [], 0, s => ⟨fun _ => ⟨rfl, fun i hi => absurd hi (by omega)⟩, fun _ => rfl⟩
  | [], d + 1, s => ⟨fun h => by rw [lst] at h; exact absurd h (by simp), fun h => absurd h.1 (by simp)⟩
  | c :: l, 0, s => ⟨fun h => by rw [lst] at h; exact absurd h (by simp), fun h => absurd h.1 (by simp)⟩
  | c :: l, d + 1, s => by
    rw [lst]
    constructor
    · intro h
      injection h with h1 h2
      obtain ⟨z1, z2⟩ := (lst_eq l d (s + 1)).mp h2
      refine ⟨by rw [List.length_cons, z1], fun i hi => ?_⟩
      cases i with
      | zero => exact h1
      | succ i =>
        have := z2 i (by omega)
        rw [show s + (i + 1) = s + 1 + i by omega, this]
        rfl
    · intro h
      obtain ⟨h1, h2⟩ := h
      have h3 := h2 0 (by omega)
      have h4 : lst b d (s + 1) = l := (lst_eq l d (s + 1)).mpr ⟨by rw [List.length_cons] at h1; omega, fun i hi => by
        have := h2 (i + 1) (by omega)
        rw [show s + 1 + i = s + (i + 1) by omega, this]
        rfl⟩
      rw [h4]
      rw [Nat.add_zero] at h3
      rw [h3]
      rfl
def nL (n : Nat) : Int64 := Int64.ofNat n
theorem nL_int {n : Nat} (h : n < 2 ^ 63) : (nL n).toInt = n := Int64.toInt_ofNat_of_lt h
theorem nL_inj {a b : Nat} (ha : a < 2 ^ 63) (hb : b < 2 ^ 63) (h : nL a = nL b) : a = b := by
  have := congrArg Int64.toInt h
  rw [nL_int ha, nL_int hb] at this
  omega
theorem nL_of {n : Nat} (h : n < 2147483648) : (nI n).toInt64 = nL n := Int64.toInt_inj.mp (by rw [Int32.toInt_toInt64, nn_toInt h, nL_int (by omega)])
/-- a row of letters is the k-th name just if it is so by its number -/
theorem word_iff {b : Nat → Nat} {s d k : Nat} (hk : k < 27) (hd : d ≤ 10) (hL : ∀ i, i < d → isL (b (s + i)) = true) : nL (wrN b s d) = wcd (1 + k) ↔ fnd 1 nms (lst b d s) = 1 + k := by
  obtain ⟨n1, n2⟩ := nm_let k hk
  rw [(nm_wcd k hk).1, fnd_iff _ hk, lst_eq]
  have b1 := wrN_lt d hL
  have b2 := wrN_lt (nml k) n2
  have p1 : 32 ^ d ≤ 32 ^ 10 := Nat.pow_le_pow_right (by decide) hd
  have p2 : 32 ^ nml k ≤ 32 ^ 6 := Nat.pow_le_pow_right (by decide) n1
  constructor
  · intro h
    have h' := nL_inj (by omega) (by omega) h
    obtain ⟨z1, z2⟩ := wrN_inj d (nml k) hL n2 h'
    exact ⟨z1, fun i hi => by rw [z2 i hi, Nat.zero_add]; rfl⟩
  · intro h
    have e : ∀ j, j ≤ d → wrN b s j = wrN (nmb k) 0 j := by
      intro j
      induction j with
      | zero => intro _; rfl
      | succ j ih =>
        intro hj
        rw [wrN, wrN, ih (by omega), h.2 j (by omega), Nat.zero_add]
        rfl
    have e1 : d = nml k := h.1
    show nL _ = nL _
    rw [e d (Nat.le_refl _), e1]
theorem word_long {b : Nat → Nat} {s d k : Nat} (hk : k < 27) (hd : 10 < d) : ¬ fnd 1 nms (lst b d s) = 1 + k := by
  rw [fnd_iff _ hk, lst_eq]
  intro h
  have h1 : d = nml k := h.1
  have := (nm_let k hk).1
  omega
def FrN (g g' : am_G) : Prop := (∀ a k, ¬ (a = 0 ∧ 14 ≤ k ∧ k ≤ 16) → am_I g' a k = am_I g a k) ∧ (∀ a k, ¬ (a = 0 ∧ k = 17) → am_L g' a k = am_L g a k) ∧ g'.2.2 = g.2.2
theorem FrN.rf (g : am_G) : FrN g g := ⟨fun _ _ _ => rfl, fun _ _ _ => rfl, rfl⟩
theorem FrN.tr {g h i : am_G} (h1 : FrN g h) (h2 : FrN h i) : FrN g i := ⟨fun a k x => (h2.1 a k x).trans (h1.1 a k x), fun a k x => (h2.2.1 a k x).trans (h1.2.1 a k x), h2.2.2.trans h1.2.2⟩
theorem FrN.si {g h : am_G} (h1 : FrN g h) {k : Nat} (ha : 14 ≤ k ∧ k ≤ 16) (x : Int32) : FrN g (am_si h 0 k x) := ⟨fun b j y => by rw [pI_si, if_neg (fun w => y ⟨w.1, by omega⟩)]; exact h1.1 b j y, h1.2.1, h1.2.2⟩
theorem FrN.sl {g h : am_G} (h1 : FrN g h) (x : Int64) : FrN g (am_sl h 0 17 x) := ⟨h1.1, fun b j y => by rw [pL_sl, if_neg y]; exact h1.2.1 b j y, h1.2.2⟩
theorem skipL {b : Nat → Nat} {len : Nat} (hl : len ≤ 400) (hb : ∀ i, i < len → b i < 256) : ∀ (d i n : Nat) (g : am_G), i + d = len → d < n → am_I g 0 13 = nI len → (∀ i, i < len → am_I g 9 i = nI (b i)) → am_I g 0 14 = nI i → ∃ g', (∀ k, fX12_next_L8 k n g = k g') ∧ am_I g' 0 14 = nI (skp b d i) ∧ FrN g g'
  | 0, i, n, g, hd, hn, e13, e9, e14 => by
    obtain ⟨n, rfl⟩ : ∃ m, n = m + 1 := ⟨n - 1, by omega⟩
    obtain rfl : i = len := by omega
    refine ⟨g, fun k => ?_, e14, FrN.rf g⟩
    rw [fX12_next_L8]
    simp (disch := first | omega | assumption | decide) only [↓pv_let, ↓pv_jn, ↓reduceIte, pv_bd, ↓pv_ocs, ↓pv_ocn, pv_gdt, pe_gd, pe_clamp, pt_eq, pf_eq, pt_le, pf_le, pt_lt, pf_lt, nI_add, nn_mul, pe_sub, pb_0, pb_1, pb_z, pe_ieq, pe_ine, pe_ik, pP_si, pS_si, pn_si, ps_si, pL_si, decide_true, ofNat_nI, pe_srI, pe_srN, pe_srS, pe_srP, not_true_eq_false, not_false_eq_true, true_and, and_true, and_self, false_and, and_false, nI_m1, nI_ms, Nat.add_sub_cancel, pl_0, pl_1, pl_2, pl_3, pl_4, pl_5, pl_6, pl_7, pl_8, pl_9, pl_10, pl_11, pl_12, pl_13, pl_14, pl_15, pl_16, pl_17, pl_18, pl_19, pl_20, pl_21, pl_22, pl_23, pl_24, pl_25, pl_26, pl_27, pl_28, pl_29, pl_30, pl_31, pl_32, pl_34, pl_36, pl_37, pl_40, pl_41, pl_42, pl_43, pl_45, pl_47, pl_48, pl_50, pl_57, pl_59, pl_60, pl_61, pl_62, pl_64, pl_70, pl_91, pl_93, pl_97, pl_98, pl_99, pl_100, pl_106, pl_122, pl_128, pl_136, pl_142, pl_165, pl_168, pl_170, pl_171, pl_173, pl_175, pl_187, pl_188, pl_189, pl_190, pl_206, pl_211, pl_219, pl_229, pl_255, pl_260, pl_400, pl_500, pl_512, pl_900, pl_999, pl_1000, pl_1001, pl_1005, pl_1020, pl_1023, pl_1024, pl_1103, pl_2000, pl_2040, pl_2176, pl_5660, pl_9999, pl_12345, pl_1000000, pl_1000003, pl_100000000, pl_1000000000, pz_0, pz_1, pz_t, e13, e14]
  | d + 1, i, n, g, hd, hn, e13, e9, e14 => by
    obtain ⟨n, rfl⟩ : ∃ m, n = m + 1 := ⟨n - 1, by omega⟩
    have ei := e9 i (by omega)
    have hbi := hb i (by omega)
    rw [skp]
    by_cases h : b i = 32
    · rw [if_pos h]
      rw [h] at ei
      obtain ⟨g', z1, z2, z3⟩ := skipL hl hb d (i + 1) n (am_si g 0 14 (nI (i + 1))) (by omega) (by omega) (by rw [pe_ik (by decide)]; exact e13) (fun j hj => by rw [pe_ine (by decide)]; exact e9 j hj) (pe_ieq _ _ _ _)
      refine ⟨g', fun k => ?_, z2, ((FrN.rf g).si (by decide) _).tr z3⟩
      rw [← z1 k, fX12_next_L8]
      simp (disch := first | omega | assumption | decide) only [↓pv_let, ↓pv_jn, ↓reduceIte, pv_bd, ↓pv_ocs, ↓pv_ocn, pv_gdt, pe_gd, pe_clamp, pt_eq, pf_eq, pt_le, pf_le, pt_lt, pf_lt, nI_add, nn_mul, pe_sub, pb_0, pb_1, pb_z, pe_ieq, pe_ine, pe_ik, pP_si, pS_si, pn_si, ps_si, pL_si, decide_true, ofNat_nI, pe_srI, pe_srN, pe_srS, pe_srP, not_true_eq_false, not_false_eq_true, true_and, and_true, and_self, false_and, and_false, nI_m1, nI_ms, Nat.add_sub_cancel, pl_0, pl_1, pl_2, pl_3, pl_4, pl_5, pl_6, pl_7, pl_8, pl_9, pl_10, pl_11, pl_12, pl_13, pl_14, pl_15, pl_16, pl_17, pl_18, pl_19, pl_20, pl_21, pl_22, pl_23, pl_24, pl_25, pl_26, pl_27, pl_28, pl_29, pl_30, pl_31, pl_32, pl_34, pl_36, pl_37, pl_40, pl_41, pl_42, pl_43, pl_45, pl_47, pl_48, pl_50, pl_57, pl_59, pl_60, pl_61, pl_62, pl_64, pl_70, pl_91, pl_93, pl_97, pl_98, pl_99, pl_100, pl_106, pl_122, pl_128, pl_136, pl_142, pl_165, pl_168, pl_170, pl_171, pl_173, pl_175, pl_187, pl_188, pl_189, pl_190, pl_206, pl_211, pl_219, pl_229, pl_255, pl_260, pl_400, pl_500, pl_512, pl_900, pl_999, pl_1000, pl_1001, pl_1005, pl_1020, pl_1023, pl_1024, pl_1103, pl_2000, pl_2040, pl_2176, pl_5660, pl_9999, pl_12345, pl_1000000, pl_1000003, pl_100000000, pl_1000000000, pz_0, pz_1, pz_t, e13, e14, ei]
    · rw [if_neg h]
      refine ⟨g, fun k => ?_, e14, FrN.rf g⟩
      rw [fX12_next_L8]
      simp (disch := first | omega | assumption | decide) only [↓pv_let, ↓pv_jn, ↓reduceIte, pv_bd, ↓pv_ocs, ↓pv_ocn, pv_gdt, pe_gd, pe_clamp, pt_eq, pf_eq, pt_le, pf_le, pt_lt, pf_lt, nI_add, nn_mul, pe_sub, pb_0, pb_1, pb_z, pe_ieq, pe_ine, pe_ik, pP_si, pS_si, pn_si, ps_si, pL_si, decide_true, ofNat_nI, pe_srI, pe_srN, pe_srS, pe_srP, not_true_eq_false, not_false_eq_true, true_and, and_true, and_self, false_and, and_false, nI_m1, nI_ms, Nat.add_sub_cancel, pl_0, pl_1, pl_2, pl_3, pl_4, pl_5, pl_6, pl_7, pl_8, pl_9, pl_10, pl_11, pl_12, pl_13, pl_14, pl_15, pl_16, pl_17, pl_18, pl_19, pl_20, pl_21, pl_22, pl_23, pl_24, pl_25, pl_26, pl_27, pl_28, pl_29, pl_30, pl_31, pl_32, pl_34, pl_36, pl_37, pl_40, pl_41, pl_42, pl_43, pl_45, pl_47, pl_48, pl_50, pl_57, pl_59, pl_60, pl_61, pl_62, pl_64, pl_70, pl_91, pl_93, pl_97, pl_98, pl_99, pl_100, pl_106, pl_122, pl_128, pl_136, pl_142, pl_165, pl_168, pl_170, pl_171, pl_173, pl_175, pl_187, pl_188, pl_189, pl_190, pl_206, pl_211, pl_219, pl_229, pl_255, pl_260, pl_400, pl_500, pl_512, pl_900, pl_999, pl_1000, pl_1001, pl_1005, pl_1020, pl_1023, pl_1024, pl_1103, pl_2000, pl_2040, pl_2176, pl_5660, pl_9999, pl_12345, pl_1000000, pl_1000003, pl_100000000, pl_1000000000, pz_0, pz_1, pz_t, e13, e14, ei]
theorem q12_isSmallN {n : Nat} (h : n < 256) (g : am_G) : fX12_isSmall (nI n) g = some (pb (isL n = true), g) := by
  unfold fX12_isSmall isL
  by_cases h1 : n < 97
  · simp (disch := first | omega | assumption | decide) only [↓pv_let, ↓pv_jn, ↓reduceIte, pv_bd, ↓pv_ocs, ↓pv_ocn, pv_gdt, pe_gd, pe_clamp, pt_eq, pf_eq, pt_le, pf_le, pt_lt, pf_lt, nI_add, nn_mul, pe_sub, pb_0, pb_1, pb_z, pe_ieq, pe_ine, pe_ik, pP_si, pS_si, pn_si, ps_si, pL_si, decide_true, ofNat_nI, pe_srI, pe_srN, pe_srS, pe_srP, not_true_eq_false, not_false_eq_true, true_and, and_true, and_self, false_and, and_false, nI_m1, nI_ms, Nat.add_sub_cancel, pl_0, pl_1, pl_2, pl_3, pl_4, pl_5, pl_6, pl_7, pl_8, pl_9, pl_10, pl_11, pl_12, pl_13, pl_14, pl_15, pl_16, pl_17, pl_18, pl_19, pl_20, pl_21, pl_22, pl_23, pl_24, pl_25, pl_26, pl_27, pl_28, pl_29, pl_30, pl_31, pl_32, pl_34, pl_36, pl_37, pl_40, pl_41, pl_42, pl_43, pl_45, pl_47, pl_48, pl_50, pl_57, pl_59, pl_60, pl_61, pl_62, pl_64, pl_70, pl_91, pl_93, pl_97, pl_98, pl_99, pl_100, pl_106, pl_122, pl_128, pl_136, pl_142, pl_165, pl_168, pl_170, pl_171, pl_173, pl_175, pl_187, pl_188, pl_189, pl_190, pl_206, pl_211, pl_219, pl_229, pl_255, pl_260, pl_400, pl_500, pl_512, pl_900, pl_999, pl_1000, pl_1001, pl_1005, pl_1020, pl_1023, pl_1024, pl_1103, pl_2000, pl_2040, pl_2176, pl_5660, pl_9999, pl_12345, pl_1000000, pl_1000003, pl_100000000, pl_1000000000, pz_0, pz_1, pz_t]
    rw [pb_ne (by simp; omega)]
  · by_cases h2 : 122 < n
    · simp (disch := first | omega | assumption | decide) only [↓pv_let, ↓pv_jn, ↓reduceIte, pv_bd, ↓pv_ocs, ↓pv_ocn, pv_gdt, pe_gd, pe_clamp, pt_eq, pf_eq, pt_le, pf_le, pt_lt, pf_lt, nI_add, nn_mul, pe_sub, pb_0, pb_1, pb_z, pe_ieq, pe_ine, pe_ik, pP_si, pS_si, pn_si, ps_si, pL_si, decide_true, ofNat_nI, pe_srI, pe_srN, pe_srS, pe_srP, not_true_eq_false, not_false_eq_true, true_and, and_true, and_self, false_and, and_false, nI_m1, nI_ms, Nat.add_sub_cancel, pl_0, pl_1, pl_2, pl_3, pl_4, pl_5, pl_6, pl_7, pl_8, pl_9, pl_10, pl_11, pl_12, pl_13, pl_14, pl_15, pl_16, pl_17, pl_18, pl_19, pl_20, pl_21, pl_22, pl_23, pl_24, pl_25, pl_26, pl_27, pl_28, pl_29, pl_30, pl_31, pl_32, pl_34, pl_36, pl_37, pl_40, pl_41, pl_42, pl_43, pl_45, pl_47, pl_48, pl_50, pl_57, pl_59, pl_60, pl_61, pl_62, pl_64, pl_70, pl_91, pl_93, pl_97, pl_98, pl_99, pl_100, pl_106, pl_122, pl_128, pl_136, pl_142, pl_165, pl_168, pl_170, pl_171, pl_173, pl_175, pl_187, pl_188, pl_189, pl_190, pl_206, pl_211, pl_219, pl_229, pl_255, pl_260, pl_400, pl_500, pl_512, pl_900, pl_999, pl_1000, pl_1001, pl_1005, pl_1020, pl_1023, pl_1024, pl_1103, pl_2000, pl_2040, pl_2176, pl_5660, pl_9999, pl_12345, pl_1000000, pl_1000003, pl_100000000, pl_1000000000, pz_0, pz_1, pz_t]
      rw [pb_ne (by simp; omega)]
    · simp (disch := first | omega | assumption | decide) only [↓pv_let, ↓pv_jn, ↓reduceIte, pv_bd, ↓pv_ocs, ↓pv_ocn, pv_gdt, pe_gd, pe_clamp, pt_eq, pf_eq, pt_le, pf_le, pt_lt, pf_lt, nI_add, nn_mul, pe_sub, pb_0, pb_1, pb_z, pe_ieq, pe_ine, pe_ik, pP_si, pS_si, pn_si, ps_si, pL_si, decide_true, ofNat_nI, pe_srI, pe_srN, pe_srS, pe_srP, not_true_eq_false, not_false_eq_true, true_and, and_true, and_self, false_and, and_false, nI_m1, nI_ms, Nat.add_sub_cancel, pl_0, pl_1, pl_2, pl_3, pl_4, pl_5, pl_6, pl_7, pl_8, pl_9, pl_10, pl_11, pl_12, pl_13, pl_14, pl_15, pl_16, pl_17, pl_18, pl_19, pl_20, pl_21, pl_22, pl_23, pl_24, pl_25, pl_26, pl_27, pl_28, pl_29, pl_30, pl_31, pl_32, pl_34, pl_36, pl_37, pl_40, pl_41, pl_42, pl_43, pl_45, pl_47, pl_48, pl_50, pl_57, pl_59, pl_60, pl_61, pl_62, pl_64, pl_70, pl_91, pl_93, pl_97, pl_98, pl_99, pl_100, pl_106, pl_122, pl_128, pl_136, pl_142, pl_165, pl_168, pl_170, pl_171, pl_173, pl_175, pl_187, pl_188, pl_189, pl_190, pl_206, pl_211, pl_219, pl_229, pl_255, pl_260, pl_400, pl_500, pl_512, pl_900, pl_999, pl_1000, pl_1001, pl_1005, pl_1020, pl_1023, pl_1024, pl_1103, pl_2000, pl_2040, pl_2176, pl_5660, pl_9999, pl_12345, pl_1000000, pl_1000003, pl_100000000, pl_1000000000, pz_0, pz_1, pz_t]
      rw [pb_eq (by simp; omega)]
theorem q12_isDigitN {n : Nat} (h : n < 256) (g : am_G) : fX12_isDigit (nI n) g = some (pb (isDg n = true), g) := by
  unfold fX12_isDigit isDg
  by_cases h1 : n < 48
  · simp (disch := first | omega | assumption | decide) only [↓pv_let, ↓pv_jn, ↓reduceIte, pv_bd, ↓pv_ocs, ↓pv_ocn, pv_gdt, pe_gd, pe_clamp, pt_eq, pf_eq, pt_le, pf_le, pt_lt, pf_lt, nI_add, nn_mul, pe_sub, pb_0, pb_1, pb_z, pe_ieq, pe_ine, pe_ik, pP_si, pS_si, pn_si, ps_si, pL_si, decide_true, ofNat_nI, pe_srI, pe_srN, pe_srS, pe_srP, not_true_eq_false, not_false_eq_true, true_and, and_true, and_self, false_and, and_false, nI_m1, nI_ms, Nat.add_sub_cancel, pl_0, pl_1, pl_2, pl_3, pl_4, pl_5, pl_6, pl_7, pl_8, pl_9, pl_10, pl_11, pl_12, pl_13, pl_14, pl_15, pl_16, pl_17, pl_18, pl_19, pl_20, pl_21, pl_22, pl_23, pl_24, pl_25, pl_26, pl_27, pl_28, pl_29, pl_30, pl_31, pl_32, pl_34, pl_36, pl_37, pl_40, pl_41, pl_42, pl_43, pl_45, pl_47, pl_48, pl_50, pl_57, pl_59, pl_60, pl_61, pl_62, pl_64, pl_70, pl_91, pl_93, pl_97, pl_98, pl_99, pl_100, pl_106, pl_122, pl_128, pl_136, pl_142, pl_165, pl_168, pl_170, pl_171, pl_173, pl_175, pl_187, pl_188, pl_189, pl_190, pl_206, pl_211, pl_219, pl_229, pl_255, pl_260, pl_400, pl_500, pl_512, pl_900, pl_999, pl_1000, pl_1001, pl_1005, pl_1020, pl_1023, pl_1024, pl_1103, pl_2000, pl_2040, pl_2176, pl_5660, pl_9999, pl_12345, pl_1000000, pl_1000003, pl_100000000, pl_1000000000, pz_0, pz_1, pz_t]
    rw [pb_ne (by simp; omega)]
  · by_cases h2 : 57 < n
    · simp (disch := first | omega | assumption | decide) only [↓pv_let, ↓pv_jn, ↓reduceIte, pv_bd, ↓pv_ocs, ↓pv_ocn, pv_gdt, pe_gd, pe_clamp, pt_eq, pf_eq, pt_le, pf_le, pt_lt, pf_lt, nI_add, nn_mul, pe_sub, pb_0, pb_1, pb_z, pe_ieq, pe_ine, pe_ik, pP_si, pS_si, pn_si, ps_si, pL_si, decide_true, ofNat_nI, pe_srI, pe_srN, pe_srS, pe_srP, not_true_eq_false, not_false_eq_true, true_and, and_true, and_self, false_and, and_false, nI_m1, nI_ms, Nat.add_sub_cancel, pl_0, pl_1, pl_2, pl_3, pl_4, pl_5, pl_6, pl_7, pl_8, pl_9, pl_10, pl_11, pl_12, pl_13, pl_14, pl_15, pl_16, pl_17, pl_18, pl_19, pl_20, pl_21, pl_22, pl_23, pl_24, pl_25, pl_26, pl_27, pl_28, pl_29, pl_30, pl_31, pl_32, pl_34, pl_36, pl_37, pl_40, pl_41, pl_42, pl_43, pl_45, pl_47, pl_48, pl_50, pl_57, pl_59, pl_60, pl_61, pl_62, pl_64, pl_70, pl_91, pl_93, pl_97, pl_98, pl_99, pl_100, pl_106, pl_122, pl_128, pl_136, pl_142, pl_165, pl_168, pl_170, pl_171, pl_173, pl_175, pl_187, pl_188, pl_189, pl_190, pl_206, pl_211, pl_219, pl_229, pl_255, pl_260, pl_400, pl_500, pl_512, pl_900, pl_999, pl_1000, pl_1001, pl_1005, pl_1020, pl_1023, pl_1024, pl_1103, pl_2000, pl_2040, pl_2176, pl_5660, pl_9999, pl_12345, pl_1000000, pl_1000003, pl_100000000, pl_1000000000, pz_0, pz_1, pz_t]
      rw [pb_ne (by simp; omega)]
    · simp (disch := first | omega | assumption | decide) only [↓pv_let, ↓pv_jn, ↓reduceIte, pv_bd, ↓pv_ocs, ↓pv_ocn, pv_gdt, pe_gd, pe_clamp, pt_eq, pf_eq, pt_le, pf_le, pt_lt, pf_lt, nI_add, nn_mul, pe_sub, pb_0, pb_1, pb_z, pe_ieq, pe_ine, pe_ik, pP_si, pS_si, pn_si, ps_si, pL_si, decide_true, ofNat_nI, pe_srI, pe_srN, pe_srS, pe_srP, not_true_eq_false, not_false_eq_true, true_and, and_true, and_self, false_and, and_false, nI_m1, nI_ms, Nat.add_sub_cancel, pl_0, pl_1, pl_2, pl_3, pl_4, pl_5, pl_6, pl_7, pl_8, pl_9, pl_10, pl_11, pl_12, pl_13, pl_14, pl_15, pl_16, pl_17, pl_18, pl_19, pl_20, pl_21, pl_22, pl_23, pl_24, pl_25, pl_26, pl_27, pl_28, pl_29, pl_30, pl_31, pl_32, pl_34, pl_36, pl_37, pl_40, pl_41, pl_42, pl_43, pl_45, pl_47, pl_48, pl_50, pl_57, pl_59, pl_60, pl_61, pl_62, pl_64, pl_70, pl_91, pl_93, pl_97, pl_98, pl_99, pl_100, pl_106, pl_122, pl_128, pl_136, pl_142, pl_165, pl_168, pl_170, pl_171, pl_173, pl_175, pl_187, pl_188, pl_189, pl_190, pl_206, pl_211, pl_219, pl_229, pl_255, pl_260, pl_400, pl_500, pl_512, pl_900, pl_999, pl_1000, pl_1001, pl_1005, pl_1020, pl_1023, pl_1024, pl_1103, pl_2000, pl_2040, pl_2176, pl_5660, pl_9999, pl_12345, pl_1000000, pl_1000003, pl_100000000, pl_1000000000, pz_0, pz_1, pz_t]
      rw [pb_eq (by simp; omega)]
theorem nL_mul (a b : Nat) : nL a * nL b = nL (a * b) := (Int64.ofNat_mul a b).symm
theorem nL_add (a b : Nat) : nL a + nL b = nL (a + b) := (Int64.ofNat_add a b).symm
theorem nL_sub {a b : Nat} (h : b ≤ a) : nL a - nL b = nL (a - b) := by
  have h1 : nL (a - b) + nL b = nL a := by rw [nL_add]; congr 1; omega
  rw [← h1]
  exact Int64.add_sub_cancel _ _
theorem letL {b : Nat → Nat} {len s : Nat} (hl : len ≤ 400) (hb : ∀ i, i < len → b i < 256) : ∀ (d i n : Nat) (g : am_G), i + d = len → s ≤ i → d < n → (∀ j, s ≤ j → j < i → isL (b j) = true) → am_I g 0 13 = nI len → (∀ i, i < len → am_I g 9 i = nI (b i)) → am_I g 0 14 = nI s → am_I g 0 15 = nI i → am_I g 0 16 = nI 1 → am_L g 0 17 = (if i - s ≤ 10 then nL (wrN b s (i - s)) else -1) → ∃ g', (∀ k, fX12_next_L149 k n g = k g') ∧ am_I g' 0 14 = nI s ∧ am_I g' 0 15 = nI (rnF isL b d i) ∧ am_I g' 0 16 = nI 1 ∧ am_L g' 0 17 = (if rnF isL b d i - s ≤ 10 then nL (wrN b s (rnF isL b d i - s)) else -1) ∧ FrN g g'
  | 0, i, n, g, hd, hs, hn, hL, e13, e9, e14, e15, e16, e17 => by
    obtain ⟨n, rfl⟩ : ∃ m, n = m + 1 := ⟨n - 1, by omega⟩
    obtain rfl : i = len := by omega
    refine ⟨g, fun k => ?_, e14, e15, e16, e17, FrN.rf g⟩
    rw [fX12_next_L149]
    simp (disch := first | omega | assumption | decide) only [↓pv_let, ↓pv_jn, ↓reduceIte, pv_bd, ↓pv_ocs, ↓pv_ocn, pv_gdt, pe_gd, pe_clamp, pt_eq, pf_eq, pt_le, pf_le, pt_lt, pf_lt, nI_add, nn_mul, pe_sub, pb_0, pb_1, pb_z, pe_ieq, pe_ine, pe_ik, pP_si, pS_si, pn_si, ps_si, pL_si, decide_true, ofNat_nI, pe_srI, pe_srN, pe_srS, pe_srP, not_true_eq_false, not_false_eq_true, true_and, and_true, and_self, false_and, and_false, nI_m1, nI_ms, Nat.add_sub_cancel, pl_0, pl_1, pl_2, pl_3, pl_4, pl_5, pl_6, pl_7, pl_8, pl_9, pl_10, pl_11, pl_12, pl_13, pl_14, pl_15, pl_16, pl_17, pl_18, pl_19, pl_20, pl_21, pl_22, pl_23, pl_24, pl_25, pl_26, pl_27, pl_28, pl_29, pl_30, pl_31, pl_32, pl_34, pl_36, pl_37, pl_40, pl_41, pl_42, pl_43, pl_45, pl_47, pl_48, pl_50, pl_57, pl_59, pl_60, pl_61, pl_62, pl_64, pl_70, pl_91, pl_93, pl_97, pl_98, pl_99, pl_100, pl_106, pl_122, pl_128, pl_136, pl_142, pl_165, pl_168, pl_170, pl_171, pl_173, pl_175, pl_187, pl_188, pl_189, pl_190, pl_206, pl_211, pl_219, pl_229, pl_255, pl_260, pl_400, pl_500, pl_512, pl_900, pl_999, pl_1000, pl_1001, pl_1005, pl_1020, pl_1023, pl_1024, pl_1103, pl_2000, pl_2040, pl_2176, pl_5660, pl_9999, pl_12345, pl_1000000, pl_1000003, pl_100000000, pl_1000000000, pz_0, pz_1, pz_t, e16, e13, e15]
  | d + 1, i, n, g, hd, hs, hn, hL, e13, e9, e14, e15, e16, e17 => by
    obtain ⟨n, rfl⟩ : ∃ m, n = m + 1 := ⟨n - 1, by omega⟩
    have ei := e9 i (by omega)
    have hbi := hb i (by omega)
    have sm := q12_isSmallN hbi g
    rw [rnF]
    by_cases h : isL (b i) = true
    · rw [if_pos h]
      have hl2 := of_decide_eq_true h
      have nx : ∀ x, x = (if i + 1 - s ≤ 10 then nL (wrN b s (i + 1 - s)) else -1) → ∃ g', (∀ k, fX12_next_L149 k n (am_si (am_sl g 0 17 x) 0 15 (nI (i + 1))) = k g') ∧ am_I g' 0 14 = nI s ∧ am_I g' 0 15 = nI (rnF isL b d (i + 1)) ∧ am_I g' 0 16 = nI 1 ∧ am_L g' 0 17 = (if rnF isL b d (i + 1) - s ≤ 10 then nL (wrN b s (rnF isL b d (i + 1) - s)) else -1) ∧ FrN g g' := by
        intro x hx
        obtain ⟨g', z1, z2, z3, z4, z5, z6⟩ := letL (s := s) hl hb d (i + 1) n (am_si (am_sl g 0 17 x) 0 15 (nI (i + 1))) (by omega) (by omega) (by omega) (fun j h1 h2 => by
          by_cases e : j = i
          · rw [e]; exact h
          · exact hL j h1 (by omega)) (by rw [pe_ik (by decide)]; exact e13) (fun j hj => by rw [pe_ine (by decide)]; exact e9 j hj) (by rw [pe_ik (by decide)]; exact e14) (pe_ieq _ _ _ _) (by rw [pe_ik (by decide)]; exact e16) (by rw [rL_si, rLk]; exact hx)
        exact ⟨g', z1, z2, z3, z4, z5, (((FrN.rf g).sl _).si (by decide) _).tr z6⟩
      by_cases h10 : i - s < 10
      · obtain ⟨g', z1, z2⟩ := nx (nL (wrN b s (i - s)) * nL 32 + nL (b i) - nL 96) (by
          have x1 : i + 1 - s ≤ 10 := by omega
          have x2 : i + 1 - s = (i - s) + 1 := by omega
          have x3 : s + (i - s) = i := by omega
          have x4 : wrN b s (i - s) * 32 + b i - 96 = wrN b s (i - s) * 32 + (b i - 96) := by omega
          have x5 : 96 ≤ wrN b s (i - s) * 32 + b i := by omega
          rw [if_pos x1, x2, wrN, x3, nL_mul, nL_add, nL_sub x5, x4])
        refine ⟨g', fun k => ?_, z2⟩
        rw [if_pos (by omega)] at e17
        have i15 : ¬ nI 10 ≤ nI i - nI s := by rw [pe_sub hs]; exact nI_ge (by omega) (by omega)
        rw [← z1 k, fX12_next_L149]
        have c1 : (nI (b i)).toInt64 = nL (b i) := nL_of (by omega)
        have c2 : (32 : Int64) = nL 32 := rfl
        have c3 : (96 : Int64) = nL 96 := rfl
        have hle := nI_leI (a := s) (b := i) (by omega) (by omega)
        simp (disch := first | omega | assumption | decide) only [↓pv_let, ↓pv_jn, ↓reduceIte, pv_bd, ↓pv_ocs, ↓pv_ocn, pv_gdt, pe_gd, pe_clamp, pt_eq, pf_eq, pt_le, pf_le, pt_lt, pf_lt, nI_add, nn_mul, pe_sub, pb_0, pb_1, pb_z, pe_ieq, pe_ine, pe_ik, pP_si, pS_si, pn_si, ps_si, pL_si, decide_true, ofNat_nI, pe_srI, pe_srN, pe_srS, pe_srP, not_true_eq_false, not_false_eq_true, true_and, and_true, and_self, false_and, and_false, nI_m1, nI_ms, Nat.add_sub_cancel, pl_0, pl_1, pl_2, pl_3, pl_4, pl_5, pl_6, pl_7, pl_8, pl_9, pl_10, pl_11, pl_12, pl_13, pl_14, pl_15, pl_16, pl_17, pl_18, pl_19, pl_20, pl_21, pl_22, pl_23, pl_24, pl_25, pl_26, pl_27, pl_28, pl_29, pl_30, pl_31, pl_32, pl_34, pl_36, pl_37, pl_40, pl_41, pl_42, pl_43, pl_45, pl_47, pl_48, pl_50, pl_57, pl_59, pl_60, pl_61, pl_62, pl_64, pl_70, pl_91, pl_93, pl_97, pl_98, pl_99, pl_100, pl_106, pl_122, pl_128, pl_136, pl_142, pl_165, pl_168, pl_170, pl_171, pl_173, pl_175, pl_187, pl_188, pl_189, pl_190, pl_206, pl_211, pl_219, pl_229, pl_255, pl_260, pl_400, pl_500, pl_512, pl_900, pl_999, pl_1000, pl_1001, pl_1005, pl_1020, pl_1023, pl_1024, pl_1103, pl_2000, pl_2040, pl_2176, pl_5660, pl_9999, pl_12345, pl_1000000, pl_1000003, pl_100000000, pl_1000000000, pz_0, pz_1, pz_t, e16, e13, e15, ei, sm, h, e14, e17, c1, c2, c3, rI_sl, i15]
      · obtain ⟨g', z1, z2⟩ := nx (-1) (by rw [if_neg (by omega)])
        refine ⟨g', fun k => ?_, z2⟩
        rw [← z1 k, fX12_next_L149]
        simp (disch := first | omega | assumption | decide) only [↓pv_let, ↓pv_jn, ↓reduceIte, pv_bd, ↓pv_ocs, ↓pv_ocn, pv_gdt, pe_gd, pe_clamp, pt_eq, pf_eq, pt_le, pf_le, pt_lt, pf_lt, nI_add, nn_mul, pe_sub, pb_0, pb_1, pb_z, pe_ieq, pe_ine, pe_ik, pP_si, pS_si, pn_si, ps_si, pL_si, decide_true, ofNat_nI, pe_srI, pe_srN, pe_srS, pe_srP, not_true_eq_false, not_false_eq_true, true_and, and_true, and_self, false_and, and_false, nI_m1, nI_ms, Nat.add_sub_cancel, pl_0, pl_1, pl_2, pl_3, pl_4, pl_5, pl_6, pl_7, pl_8, pl_9, pl_10, pl_11, pl_12, pl_13, pl_14, pl_15, pl_16, pl_17, pl_18, pl_19, pl_20, pl_21, pl_22, pl_23, pl_24, pl_25, pl_26, pl_27, pl_28, pl_29, pl_30, pl_31, pl_32, pl_34, pl_36, pl_37, pl_40, pl_41, pl_42, pl_43, pl_45, pl_47, pl_48, pl_50, pl_57, pl_59, pl_60, pl_61, pl_62, pl_64, pl_70, pl_91, pl_93, pl_97, pl_98, pl_99, pl_100, pl_106, pl_122, pl_128, pl_136, pl_142, pl_165, pl_168, pl_170, pl_171, pl_173, pl_175, pl_187, pl_188, pl_189, pl_190, pl_206, pl_211, pl_219, pl_229, pl_255, pl_260, pl_400, pl_500, pl_512, pl_900, pl_999, pl_1000, pl_1001, pl_1005, pl_1020, pl_1023, pl_1024, pl_1103, pl_2000, pl_2040, pl_2176, pl_5660, pl_9999, pl_12345, pl_1000000, pl_1000003, pl_100000000, pl_1000000000, pz_0, pz_1, pz_t, e16, e13, e15, ei, sm, h, e14, rI_sl]
    · rw [if_neg h]
      refine ⟨g, fun k => ?_, e14, e15, e16, e17, FrN.rf g⟩
      rw [fX12_next_L149]
      simp (disch := first | omega | assumption | decide) only [↓pv_let, ↓pv_jn, ↓reduceIte, pv_bd, ↓pv_ocs, ↓pv_ocn, pv_gdt, pe_gd, pe_clamp, pt_eq, pf_eq, pt_le, pf_le, pt_lt, pf_lt, nI_add, nn_mul, pe_sub, pb_0, pb_1, pb_z, pe_ieq, pe_ine, pe_ik, pP_si, pS_si, pn_si, ps_si, pL_si, decide_true, ofNat_nI, pe_srI, pe_srN, pe_srS, pe_srP, not_true_eq_false, not_false_eq_true, true_and, and_true, and_self, false_and, and_false, nI_m1, nI_ms, Nat.add_sub_cancel, pl_0, pl_1, pl_2, pl_3, pl_4, pl_5, pl_6, pl_7, pl_8, pl_9, pl_10, pl_11, pl_12, pl_13, pl_14, pl_15, pl_16, pl_17, pl_18, pl_19, pl_20, pl_21, pl_22, pl_23, pl_24, pl_25, pl_26, pl_27, pl_28, pl_29, pl_30, pl_31, pl_32, pl_34, pl_36, pl_37, pl_40, pl_41, pl_42, pl_43, pl_45, pl_47, pl_48, pl_50, pl_57, pl_59, pl_60, pl_61, pl_62, pl_64, pl_70, pl_91, pl_93, pl_97, pl_98, pl_99, pl_100, pl_106, pl_122, pl_128, pl_136, pl_142, pl_165, pl_168, pl_170, pl_171, pl_173, pl_175, pl_187, pl_188, pl_189, pl_190, pl_206, pl_211, pl_219, pl_229, pl_255, pl_260, pl_400, pl_500, pl_512, pl_900, pl_999, pl_1000, pl_1001, pl_1005, pl_1020, pl_1023, pl_1024, pl_1103, pl_2000, pl_2040, pl_2176, pl_5660, pl_9999, pl_12345, pl_1000000, pl_1000003, pl_100000000, pl_1000000000, pz_0, pz_1, pz_t, e16, e13, e15, ei, sm, h, Bool.false_eq_true]
def dgW (b : Nat → Nat) : Nat → Nat → Nat → Nat
  | 0, _, w => w
  | d + 1, s, w => dgW b d (s + 1) (if w > 1000000 then w else w * 10 + (b s - 48))
theorem digL {b : Nat → Nat} {len : Nat} (hl : len ≤ 400) (hb : ∀ i, i < len → b i < 256) : ∀ (d i n w : Nat) (g : am_G), i + d = len → d < n → w < 10000010 → am_I g 0 13 = nI len → (∀ i, i < len → am_I g 9 i = nI (b i)) → am_I g 0 15 = nI i → am_I g 0 16 = nI 2 → am_L g 0 17 = nL w → ∃ g' w', fX12_next_L243 n g = some ((), g') ∧ am_I g' 0 14 = am_I g 0 14 ∧ am_I g' 0 15 = nI (rnF isDg b d i) ∧ am_I g' 0 16 = nI 2 ∧ am_L g' 0 17 = nL w' ∧ w' < 10000010 ∧ vlF b (rnF isDg b d i - i) i (min 1001 w) = min 1001 w' ∧ FrN g g'
  | 0, i, n, w, g, hd, hn, hw, e13, e9, e15, e16, e17 => by
    obtain ⟨n, rfl⟩ : ∃ m, n = m + 1 := ⟨n - 1, by omega⟩
    obtain rfl : i = len := by omega
    refine ⟨g, w, ?_, rfl, e15, e16, e17, hw, by rw [rnF, Nat.sub_self, vlF], FrN.rf g⟩
    rw [fX12_next_L243]
    simp (disch := first | omega | assumption | decide) only [↓pv_let, ↓pv_jn, ↓reduceIte, pv_bd, ↓pv_ocs, ↓pv_ocn, pv_gdt, pe_gd, pe_clamp, pt_eq, pf_eq, pt_le, pf_le, pt_lt, pf_lt, nI_add, nn_mul, pe_sub, pb_0, pb_1, pb_z, pe_ieq, pe_ine, pe_ik, pP_si, pS_si, pn_si, ps_si, pL_si, decide_true, ofNat_nI, pe_srI, pe_srN, pe_srS, pe_srP, not_true_eq_false, not_false_eq_true, true_and, and_true, and_self, false_and, and_false, nI_m1, nI_ms, Nat.add_sub_cancel, pl_0, pl_1, pl_2, pl_3, pl_4, pl_5, pl_6, pl_7, pl_8, pl_9, pl_10, pl_11, pl_12, pl_13, pl_14, pl_15, pl_16, pl_17, pl_18, pl_19, pl_20, pl_21, pl_22, pl_23, pl_24, pl_25, pl_26, pl_27, pl_28, pl_29, pl_30, pl_31, pl_32, pl_34, pl_36, pl_37, pl_40, pl_41, pl_42, pl_43, pl_45, pl_47, pl_48, pl_50, pl_57, pl_59, pl_60, pl_61, pl_62, pl_64, pl_70, pl_91, pl_93, pl_97, pl_98, pl_99, pl_100, pl_106, pl_122, pl_128, pl_136, pl_142, pl_165, pl_168, pl_170, pl_171, pl_173, pl_175, pl_187, pl_188, pl_189, pl_190, pl_206, pl_211, pl_219, pl_229, pl_255, pl_260, pl_400, pl_500, pl_512, pl_900, pl_999, pl_1000, pl_1001, pl_1005, pl_1020, pl_1023, pl_1024, pl_1103, pl_2000, pl_2040, pl_2176, pl_5660, pl_9999, pl_12345, pl_1000000, pl_1000003, pl_100000000, pl_1000000000, pz_0, pz_1, pz_t, e16, e13, e15]
  | d + 1, i, n, w, g, hd, hn, hw, e13, e9, e15, e16, e17 => by
    obtain ⟨n, rfl⟩ : ∃ m, n = m + 1 := ⟨n - 1, by omega⟩
    have ei := e9 i (by omega)
    have hbi := hb i (by omega)
    have sm := q12_isDigitN hbi g
    rw [rnF]
    by_cases h : isDg (b i) = true
    · rw [if_pos h]
      have hl2 := of_decide_eq_true h
      have hr := rnF_rg isDg b d (i + 1)
      have nx : ∀ x, x < 10000010 → min 1001 (min 1001 w * 10 + (b i - 48)) = min 1001 x → ∃ g' w', fX12_next_L243 n (am_si (am_sl g 0 17 (nL x)) 0 15 (nI (i + 1))) = some ((), g') ∧ am_I g' 0 14 = am_I g 0 14 ∧ am_I g' 0 15 = nI (rnF isDg b d (i + 1)) ∧ am_I g' 0 16 = nI 2 ∧ am_L g' 0 17 = nL w' ∧ w' < 10000010 ∧ vlF b (rnF isDg b d (i + 1) - i) i (min 1001 w) = min 1001 w' ∧ FrN g g' := by
        intro x hx hm
        obtain ⟨g', w', z1, z2, z3, z4, z5, z6, z7, z8⟩ := digL hl hb d (i + 1) n x (am_si (am_sl g 0 17 (nL x)) 0 15 (nI (i + 1))) (by omega) (by omega) hx (by rw [pe_ik (by decide)]; exact e13) (fun j hj => by rw [pe_ine (by decide)]; exact e9 j hj) (pe_ieq _ _ _ _) (by rw [pe_ik (by decide)]; exact e16) (by rw [rL_si, rLk])
        refine ⟨g', w', z1, by rw [z2, pe_ik (by decide), rI_sl], z3, z4, z5, z6, ?_, (((FrN.rf g).sl _).si (by decide) _).tr z8⟩
        rw [← z7, show rnF isDg b d (i + 1) - i = (rnF isDg b d (i + 1) - (i + 1)) + 1 by omega, vlF, hm]
      have c4 : (1000000 : Int64) = nL 1000000 := rfl
      have hc := cmp_le' (am_L g 0 17) (nL 1000000)
      by_cases hbig : w > 1000000
      · obtain ⟨g', w', z1, z2⟩ := nx w hw (by omega)
        refine ⟨g', w', ?_, z2⟩
        have hcc : ¬ lg_cmp (nL w) (nL 1000000) ≤ nI 0 := by
          rw [← e17, hc, e17, Int64.le_iff_toInt_le, nL_int (by omega), nL_int (by omega)]
          omega
        rw [← z1, fX12_next_L243]
        simp (disch := first | omega | assumption | decide) only [↓pv_let, ↓pv_jn, ↓reduceIte, pv_bd, ↓pv_ocs, ↓pv_ocn, pv_gdt, pe_gd, pe_clamp, pt_eq, pf_eq, pt_le, pf_le, pt_lt, pf_lt, nI_add, nn_mul, pe_sub, pb_0, pb_1, pb_z, pe_ieq, pe_ine, pe_ik, pP_si, pS_si, pn_si, ps_si, pL_si, decide_true, ofNat_nI, pe_srI, pe_srN, pe_srS, pe_srP, not_true_eq_false, not_false_eq_true, true_and, and_true, and_self, false_and, and_false, nI_m1, nI_ms, Nat.add_sub_cancel, pl_0, pl_1, pl_2, pl_3, pl_4, pl_5, pl_6, pl_7, pl_8, pl_9, pl_10, pl_11, pl_12, pl_13, pl_14, pl_15, pl_16, pl_17, pl_18, pl_19, pl_20, pl_21, pl_22, pl_23, pl_24, pl_25, pl_26, pl_27, pl_28, pl_29, pl_30, pl_31, pl_32, pl_34, pl_36, pl_37, pl_40, pl_41, pl_42, pl_43, pl_45, pl_47, pl_48, pl_50, pl_57, pl_59, pl_60, pl_61, pl_62, pl_64, pl_70, pl_91, pl_93, pl_97, pl_98, pl_99, pl_100, pl_106, pl_122, pl_128, pl_136, pl_142, pl_165, pl_168, pl_170, pl_171, pl_173, pl_175, pl_187, pl_188, pl_189, pl_190, pl_206, pl_211, pl_219, pl_229, pl_255, pl_260, pl_400, pl_500, pl_512, pl_900, pl_999, pl_1000, pl_1001, pl_1005, pl_1020, pl_1023, pl_1024, pl_1103, pl_2000, pl_2040, pl_2176, pl_5660, pl_9999, pl_12345, pl_1000000, pl_1000003, pl_100000000, pl_1000000000, pz_0, pz_1, pz_t, e16, e13, e15, ei, sm, h, e17, c4, hcc, rI_sl]
      · obtain ⟨g', w', z1, z2⟩ := nx (w * 10 + (b i - 48)) (by omega) (by omega)
        refine ⟨g', w', ?_, z2⟩
        have hcc : lg_cmp (nL w) (nL 1000000) ≤ nI 0 := by
          rw [← e17, hc, e17, Int64.le_iff_toInt_le, nL_int (by omega), nL_int (by omega)]
          omega
        have c1 : (nI (b i)).toInt64 = nL (b i) := nL_of (by omega)
        have c2 : (10 : Int64) = nL 10 := rfl
        have c3 : (48 : Int64) = nL 48 := rfl
        have c5 : nL w * nL 10 + nL (b i) - nL 48 = nL (w * 10 + (b i - 48)) := by
          rw [nL_mul, nL_add, nL_sub (by omega)]
          congr 1
          omega
        rw [← z1, fX12_next_L243]
        simp (disch := first | omega | assumption | decide) only [↓pv_let, ↓pv_jn, ↓reduceIte, pv_bd, ↓pv_ocs, ↓pv_ocn, pv_gdt, pe_gd, pe_clamp, pt_eq, pf_eq, pt_le, pf_le, pt_lt, pf_lt, nI_add, nn_mul, pe_sub, pb_0, pb_1, pb_z, pe_ieq, pe_ine, pe_ik, pP_si, pS_si, pn_si, ps_si, pL_si, decide_true, ofNat_nI, pe_srI, pe_srN, pe_srS, pe_srP, not_true_eq_false, not_false_eq_true, true_and, and_true, and_self, false_and, and_false, nI_m1, nI_ms, Nat.add_sub_cancel, pl_0, pl_1, pl_2, pl_3, pl_4, pl_5, pl_6, pl_7, pl_8, pl_9, pl_10, pl_11, pl_12, pl_13, pl_14, pl_15, pl_16, pl_17, pl_18, pl_19, pl_20, pl_21, pl_22, pl_23, pl_24, pl_25, pl_26, pl_27, pl_28, pl_29, pl_30, pl_31, pl_32, pl_34, pl_36, pl_37, pl_40, pl_41, pl_42, pl_43, pl_45, pl_47, pl_48, pl_50, pl_57, pl_59, pl_60, pl_61, pl_62, pl_64, pl_70, pl_91, pl_93, pl_97, pl_98, pl_99, pl_100, pl_106, pl_122, pl_128, pl_136, pl_142, pl_165, pl_168, pl_170, pl_171, pl_173, pl_175, pl_187, pl_188, pl_189, pl_190, pl_206, pl_211, pl_219, pl_229, pl_255, pl_260, pl_400, pl_500, pl_512, pl_900, pl_999, pl_1000, pl_1001, pl_1005, pl_1020, pl_1023, pl_1024, pl_1103, pl_2000, pl_2040, pl_2176, pl_5660, pl_9999, pl_12345, pl_1000000, pl_1000003, pl_100000000, pl_1000000000, pz_0, pz_1, pz_t, e16, e13, e15, ei, sm, h, e17, c4, hcc, c1, c2, c3, c5, rI_sl]
    · rw [if_neg h]
      refine ⟨g, w, ?_, rfl, e15, e16, e17, hw, by rw [Nat.sub_self, vlF], FrN.rf g⟩
      rw [fX12_next_L243]
      simp (disch := first | omega | assumption | decide) only [↓pv_let, ↓pv_jn, ↓reduceIte, pv_bd, ↓pv_ocs, ↓pv_ocn, pv_gdt, pe_gd, pe_clamp, pt_eq, pf_eq, pt_le, pf_le, pt_lt, pf_lt, nI_add, nn_mul, pe_sub, pb_0, pb_1, pb_z, pe_ieq, pe_ine, pe_ik, pP_si, pS_si, pn_si, ps_si, pL_si, decide_true, ofNat_nI, pe_srI, pe_srN, pe_srS, pe_srP, not_true_eq_false, not_false_eq_true, true_and, and_true, and_self, false_and, and_false, nI_m1, nI_ms, Nat.add_sub_cancel, pl_0, pl_1, pl_2, pl_3, pl_4, pl_5, pl_6, pl_7, pl_8, pl_9, pl_10, pl_11, pl_12, pl_13, pl_14, pl_15, pl_16, pl_17, pl_18, pl_19, pl_20, pl_21, pl_22, pl_23, pl_24, pl_25, pl_26, pl_27, pl_28, pl_29, pl_30, pl_31, pl_32, pl_34, pl_36, pl_37, pl_40, pl_41, pl_42, pl_43, pl_45, pl_47, pl_48, pl_50, pl_57, pl_59, pl_60, pl_61, pl_62, pl_64, pl_70, pl_91, pl_93, pl_97, pl_98, pl_99, pl_100, pl_106, pl_122, pl_128, pl_136, pl_142, pl_165, pl_168, pl_170, pl_171, pl_173, pl_175, pl_187, pl_188, pl_189, pl_190, pl_206, pl_211, pl_219, pl_229, pl_255, pl_260, pl_400, pl_500, pl_512, pl_900, pl_999, pl_1000, pl_1001, pl_1005, pl_1020, pl_1023, pl_1024, pl_1103, pl_2000, pl_2040, pl_2176, pl_5660, pl_9999, pl_12345, pl_1000000, pl_1000003, pl_100000000, pl_1000000000, pz_0, pz_1, pz_t, e16, e13, e15, ei, sm, h, Bool.false_eq_true]
/-- from any place on -/
theorem nextG {b : Nat → Nat} {len e : Nat} (hl : len ≤ 400) (hb : ∀ i, i < len → b i < 256) (he : e ≤ len) {g : am_G} (e13 : am_I g 0 13 = nI len) (e9 : ∀ i, i < len → am_I g 9 i = nI (b i)) (e15 : am_I g 0 15 = nI e) : ∃ g', fX12_next g = some ((), g') ∧ am_I g' 0 14 = nI (skp b (len - e) e) ∧ am_I g' 0 15 = nI (enS b len (skp b (len - e) e)) ∧ TkS g' (tkS b len (skp b (len - e) e)) ∧ FrN g g' := by
  have hf : am_fu = 1048575 + 1 := rfl
  obtain ⟨g1, z1, z2, z3⟩ := skipL hl hb (len - e) e am_fu (am_si g 0 14 (nI e)) (by omega) (by omega) (by rw [pe_ik (by decide)]; exact e13) (fun j hj => by rw [pe_ine (by decide)]; exact e9 j hj) (pe_ieq _ _ _ _)
  have hs := skp_rg b (len - e) e
  generalize skp b (len - e) e = s at *
  have f13 : am_I g1 0 13 = nI len := by rw [z3.1 0 13 (by omega), pe_ik (by decide)]; exact e13
  have f9 : ∀ i, i < len → am_I g1 9 i = nI (b i) := fun i hi => by rw [z3.1 9 i (by omega), pe_ine (by decide)]; exact e9 i hi
  have fN : ∀ g', FrN g1 g' → FrN g g' := fun g' h => (((FrN.rf g).si (k := 14) (by decide) _).tr z3).tr h
  have hst : fX12_next g = fX12_next_L8 _ am_fu (am_si g 0 14 (am_I g 0 15)) := rfl
  rw [hst, e15, z1]
  have t15 : am_I (am_sl (am_si g1 0 15 (nI s)) 0 17 0) 0 15 = nI s := by rw [rI_sl, pe_ieq]
  have k149 : ∀ (g2 : am_G) (x : Nat), am_I g2 0 16 = nI x → x ≠ 1 → x < 4 → ∀ k, fX12_next_L149 k am_fu g2 = k g2 := by
    intro g2 x hx h1 h4 k
    rw [hf, fX12_next_L149]
    simp (disch := first | omega | assumption | decide) only [↓pv_let, ↓pv_jn, ↓reduceIte, pv_bd, ↓pv_ocs, ↓pv_ocn, pv_gdt, pe_gd, pe_clamp, pt_eq, pf_eq, pt_le, pf_le, pt_lt, pf_lt, nI_add, nn_mul, pe_sub, pb_0, pb_1, pb_z, pe_ieq, pe_ine, pe_ik, pP_si, pS_si, pn_si, ps_si, pL_si, decide_true, ofNat_nI, pe_srI, pe_srN, pe_srS, pe_srP, not_true_eq_false, not_false_eq_true, true_and, and_true, and_self, false_and, and_false, nI_m1, nI_ms, Nat.add_sub_cancel, pl_0, pl_1, pl_2, pl_3, pl_4, pl_5, pl_6, pl_7, pl_8, pl_9, pl_10, pl_11, pl_12, pl_13, pl_14, pl_15, pl_16, pl_17, pl_18, pl_19, pl_20, pl_21, pl_22, pl_23, pl_24, pl_25, pl_26, pl_27, pl_28, pl_29, pl_30, pl_31, pl_32, pl_34, pl_36, pl_37, pl_40, pl_41, pl_42, pl_43, pl_45, pl_47, pl_48, pl_50, pl_57, pl_59, pl_60, pl_61, pl_62, pl_64, pl_70, pl_91, pl_93, pl_97, pl_98, pl_99, pl_100, pl_106, pl_122, pl_128, pl_136, pl_142, pl_165, pl_168, pl_170, pl_171, pl_173, pl_175, pl_187, pl_188, pl_189, pl_190, pl_206, pl_211, pl_219, pl_229, pl_255, pl_260, pl_400, pl_500, pl_512, pl_900, pl_999, pl_1000, pl_1001, pl_1005, pl_1020, pl_1023, pl_1024, pl_1103, pl_2000, pl_2040, pl_2176, pl_5660, pl_9999, pl_12345, pl_1000000, pl_1000003, pl_100000000, pl_1000000000, pz_0, pz_1, pz_t, hx]
  have k243 : ∀ (g2 : am_G) (x : Nat), am_I g2 0 16 = nI x → x ≠ 2 → x < 4 → fX12_next_L243 am_fu g2 = some ((), g2) := by
    intro g2 x hx h1 h4
    rw [hf, fX12_next_L243]
    simp (disch := first | omega | assumption | decide) only [↓pv_let, ↓pv_jn, ↓reduceIte, pv_bd, ↓pv_ocs, ↓pv_ocn, pv_gdt, pe_gd, pe_clamp, pt_eq, pf_eq, pt_le, pf_le, pt_lt, pf_lt, nI_add, nn_mul, pe_sub, pb_0, pb_1, pb_z, pe_ieq, pe_ine, pe_ik, pP_si, pS_si, pn_si, ps_si, pL_si, decide_true, ofNat_nI, pe_srI, pe_srN, pe_srS, pe_srP, not_true_eq_false, not_false_eq_true, true_and, and_true, and_self, false_and, and_false, nI_m1, nI_ms, Nat.add_sub_cancel, pl_0, pl_1, pl_2, pl_3, pl_4, pl_5, pl_6, pl_7, pl_8, pl_9, pl_10, pl_11, pl_12, pl_13, pl_14, pl_15, pl_16, pl_17, pl_18, pl_19, pl_20, pl_21, pl_22, pl_23, pl_24, pl_25, pl_26, pl_27, pl_28, pl_29, pl_30, pl_31, pl_32, pl_34, pl_36, pl_37, pl_40, pl_41, pl_42, pl_43, pl_45, pl_47, pl_48, pl_50, pl_57, pl_59, pl_60, pl_61, pl_62, pl_64, pl_70, pl_91, pl_93, pl_97, pl_98, pl_99, pl_100, pl_106, pl_122, pl_128, pl_136, pl_142, pl_165, pl_168, pl_170, pl_171, pl_173, pl_175, pl_187, pl_188, pl_189, pl_190, pl_206, pl_211, pl_219, pl_229, pl_255, pl_260, pl_400, pl_500, pl_512, pl_900, pl_999, pl_1000, pl_1001, pl_1005, pl_1020, pl_1023, pl_1024, pl_1103, pl_2000, pl_2040, pl_2176, pl_5660, pl_9999, pl_12345, pl_1000000, pl_1000003, pl_100000000, pl_1000000000, pz_0, pz_1, pz_t, hx]
  by_cases h0 : s = len
  · have q : enS b len s = s ∧ tkS b len s = 0 := ⟨by unfold enS; rw [if_pos (by omega)], (tkS_0 (by omega)).mpr h0⟩
    rw [q.1, q.2]
    refine ⟨am_si (am_sl (am_si g1 0 15 (nI s)) 0 17 0) 0 16 (nI 0), ?_, ?_, ?_, Or.inl ⟨rfl, pe_ieq _ _ _ _⟩, fN _ ((((FrN.rf g1).si (by decide) _).sl _).si (by decide) _)⟩
    · subst h0
      have k1 := k149 (am_si (am_sl (am_si g1 0 15 (nI s)) 0 17 0) 0 16 (nI 0)) 0 (pe_ieq _ _ _ _) (by decide) (by decide)
      have k2 := k243 (am_si (am_sl (am_si g1 0 15 (nI s)) 0 17 0) 0 16 (nI 0)) 0 (pe_ieq _ _ _ _) (by decide) (by decide)
      simp (disch := first | omega | assumption | decide) only [↓pv_let, ↓pv_jn, ↓reduceIte, pv_bd, ↓pv_ocs, ↓pv_ocn, pv_gdt, pe_gd, pe_clamp, pt_eq, pf_eq, pt_le, pf_le, pt_lt, pf_lt, nI_add, nn_mul, pe_sub, pb_0, pb_1, pb_z, pe_ieq, pe_ine, pe_ik, pP_si, pS_si, pn_si, ps_si, pL_si, decide_true, ofNat_nI, pe_srI, pe_srN, pe_srS, pe_srP, not_true_eq_false, not_false_eq_true, true_and, and_true, and_self, false_and, and_false, nI_m1, nI_ms, Nat.add_sub_cancel, pl_0, pl_1, pl_2, pl_3, pl_4, pl_5, pl_6, pl_7, pl_8, pl_9, pl_10, pl_11, pl_12, pl_13, pl_14, pl_15, pl_16, pl_17, pl_18, pl_19, pl_20, pl_21, pl_22, pl_23, pl_24, pl_25, pl_26, pl_27, pl_28, pl_29, pl_30, pl_31, pl_32, pl_34, pl_36, pl_37, pl_40, pl_41, pl_42, pl_43, pl_45, pl_47, pl_48, pl_50, pl_57, pl_59, pl_60, pl_61, pl_62, pl_64, pl_70, pl_91, pl_93, pl_97, pl_98, pl_99, pl_100, pl_106, pl_122, pl_128, pl_136, pl_142, pl_165, pl_168, pl_170, pl_171, pl_173, pl_175, pl_187, pl_188, pl_189, pl_190, pl_206, pl_211, pl_219, pl_229, pl_255, pl_260, pl_400, pl_500, pl_512, pl_900, pl_999, pl_1000, pl_1001, pl_1005, pl_1020, pl_1023, pl_1024, pl_1103, pl_2000, pl_2040, pl_2176, pl_5660, pl_9999, pl_12345, pl_1000000, pl_1000003, pl_100000000, pl_1000000000, pz_0, pz_1, pz_t, z2, f13, rI_sl, k1, k2]
    · rw [pe_ik (by decide), rI_sl, pe_ik (by decide)]; exact z2
    · rw [pe_ik (by decide)]; exact t15
  · have hlt : s < len := by omega
    have es := f9 s hlt
    have hbs := hb s hlt
    have eT : ¬ len ≤ s := by omega
    by_cases hL : isL (b s) = true
    · have q : enS b len s = rnF isL b (len - s) s ∧ tkS b len s = fnd 1 nms (lst b (rnF isL b (len - s) s - s) s) := by
        have q1 : enS b len s = rnF isL b (len - s) s := by unfold enS; rw [if_neg eT, if_pos hL]
        refine ⟨q1, ?_⟩
        unfold tkS
        rw [if_neg eT, if_pos hL, q1]
      obtain ⟨g2, y1, y2, y3, y4, y5, y6⟩ := letL hl hb (s := s) (len - s) s am_fu (am_si (am_sl (am_si g1 0 15 (nI s)) 0 17 0) 0 16 (nI 1)) (by omega) (Nat.le_refl _) (by omega) (fun j h1 h2 => absurd h1 (by omega)) (by rw [pe_ik (by decide), rI_sl, pe_ik (by decide)]; exact f13) (fun j hj => by rw [pe_ine (by decide), rI_sl, pe_ine (by decide)]; exact f9 j hj) (by rw [pe_ik (by decide), rI_sl, pe_ik (by decide)]; exact z2) (by rw [pe_ik (by decide)]; exact t15) (pe_ieq _ _ _ _) (by rw [Nat.sub_self, if_pos (by decide), wrN, rL_si, rLk]; rfl)
      have hr := rnF_rg isL b (len - s) s
      have hall := rnF_all isL b (len - s) s
      rw [q.1, q.2]
      generalize rnF isL b (len - s) s = e2 at *
      refine ⟨g2, ?_, y2, y3, Or.inr (Or.inl ⟨(fnd_rg _).1, (fnd_rg _).2, y4, fun k h1 h2 => ?_⟩), fN _ (((((FrN.rf g1).si (by decide) _).sl _).si (by decide) _).tr y6)⟩
      · have k2 := k243 g2 1 y4 (by decide) (by decide)
        have sm := q12_isSmallN hbs (am_sl (am_si g1 0 15 (nI s)) 0 17 0)
        have hne : s ≠ len := h0
        simp (disch := first | omega | assumption | decide) only [↓pv_let, ↓pv_jn, ↓reduceIte, pv_bd, ↓pv_ocs, ↓pv_ocn, pv_gdt, pe_gd, pe_clamp, pt_eq, pf_eq, pt_le, pf_le, pt_lt, pf_lt, nI_add, nn_mul, pe_sub, pb_0, pb_1, pb_z, pe_ieq, pe_ine, pe_ik, pP_si, pS_si, pn_si, ps_si, pL_si, decide_true, ofNat_nI, pe_srI, pe_srN, pe_srS, pe_srP, not_true_eq_false, not_false_eq_true, true_and, and_true, and_self, false_and, and_false, nI_m1, nI_ms, Nat.add_sub_cancel, pl_0, pl_1, pl_2, pl_3, pl_4, pl_5, pl_6, pl_7, pl_8, pl_9, pl_10, pl_11, pl_12, pl_13, pl_14, pl_15, pl_16, pl_17, pl_18, pl_19, pl_20, pl_21, pl_22, pl_23, pl_24, pl_25, pl_26, pl_27, pl_28, pl_29, pl_30, pl_31, pl_32, pl_34, pl_36, pl_37, pl_40, pl_41, pl_42, pl_43, pl_45, pl_47, pl_48, pl_50, pl_57, pl_59, pl_60, pl_61, pl_62, pl_64, pl_70, pl_91, pl_93, pl_97, pl_98, pl_99, pl_100, pl_106, pl_122, pl_128, pl_136, pl_142, pl_165, pl_168, pl_170, pl_171, pl_173, pl_175, pl_187, pl_188, pl_189, pl_190, pl_206, pl_211, pl_219, pl_229, pl_255, pl_260, pl_400, pl_500, pl_512, pl_900, pl_999, pl_1000, pl_1001, pl_1005, pl_1020, pl_1023, pl_1024, pl_1103, pl_2000, pl_2040, pl_2176, pl_5660, pl_9999, pl_12345, pl_1000000, pl_1000003, pl_100000000, pl_1000000000, pz_0, pz_1, pz_t, z2, f13, rI_sl, es, sm, hL, y1, k2]
      · rw [y5]
        obtain ⟨j, rfl⟩ : ∃ j, k = 1 + j := ⟨k - 1, by omega⟩
        have hl' : ∀ i, i < e2 - s → isL (b (s + i)) = true := fun i hi => hall (s + i) (by omega) (by omega)
        by_cases h10 : e2 - s ≤ 10
        · rw [if_pos h10]
          exact word_iff (by omega) h10 hl'
        · rw [if_neg h10]
          exact ⟨fun z => absurd z.symm (nm_wcd j (by omega)).2, fun z => absurd z (word_long (by omega) (by omega))⟩
    · by_cases hD : isDg (b s) = true
      · have q : enS b len s = rnF isDg b (len - s) s ∧ tkS b len s = 1000 + vlF b (rnF isDg b (len - s) s - s) s 0 := by
          have q1 : enS b len s = rnF isDg b (len - s) s := by unfold enS; rw [if_neg eT, if_neg hL, if_pos hD]
          refine ⟨q1, ?_⟩
          unfold tkS
          rw [if_neg eT, if_neg hL, if_pos hD, q1]
        have k1 := k149 (am_si (am_sl (am_si g1 0 15 (nI s)) 0 17 0) 0 16 (nI 2)) 2 (pe_ieq _ _ _ _) (by decide) (by decide)
        obtain ⟨g2, w, y1, y2, y3, y4, y5, y6, y7, y8⟩ := digL hl hb (len - s) s am_fu 0 (am_si (am_sl (am_si g1 0 15 (nI s)) 0 17 0) 0 16 (nI 2)) (by omega) (by omega) (by decide) (by rw [pe_ik (by decide), rI_sl, pe_ik (by decide)]; exact f13) (fun j hj => by rw [pe_ine (by decide), rI_sl, pe_ine (by decide)]; exact f9 j hj) (by rw [pe_ik (by decide)]; exact t15) (pe_ieq _ _ _ _) (by rw [rL_si, rLk]; rfl)
        rw [q.1, q.2]
        rw [show min 1001 0 = 0 from rfl] at y7
        rw [y7]
        refine ⟨g2, ?_, ?_, y3, Or.inr (Or.inr ?_), fN _ (((((FrN.rf g1).si (by decide) _).sl _).si (by decide) _).tr y8)⟩
        · have sm := q12_isSmallN hbs (am_sl (am_si g1 0 15 (nI s)) 0 17 0)
          have dg := q12_isDigitN hbs (am_sl (am_si g1 0 15 (nI s)) 0 17 0)
          have hne : s ≠ len := h0
          simp (disch := first | omega | assumption | decide) only [↓pv_let, ↓pv_jn, ↓reduceIte, pv_bd, ↓pv_ocs, ↓pv_ocn, pv_gdt, pe_gd, pe_clamp, pt_eq, pf_eq, pt_le, pf_le, pt_lt, pf_lt, nI_add, nn_mul, pe_sub, pb_0, pb_1, pb_z, pe_ieq, pe_ine, pe_ik, pP_si, pS_si, pn_si, ps_si, pL_si, decide_true, ofNat_nI, pe_srI, pe_srN, pe_srS, pe_srP, not_true_eq_false, not_false_eq_true, true_and, and_true, and_self, false_and, and_false, nI_m1, nI_ms, Nat.add_sub_cancel, pl_0, pl_1, pl_2, pl_3, pl_4, pl_5, pl_6, pl_7, pl_8, pl_9, pl_10, pl_11, pl_12, pl_13, pl_14, pl_15, pl_16, pl_17, pl_18, pl_19, pl_20, pl_21, pl_22, pl_23, pl_24, pl_25, pl_26, pl_27, pl_28, pl_29, pl_30, pl_31, pl_32, pl_34, pl_36, pl_37, pl_40, pl_41, pl_42, pl_43, pl_45, pl_47, pl_48, pl_50, pl_57, pl_59, pl_60, pl_61, pl_62, pl_64, pl_70, pl_91, pl_93, pl_97, pl_98, pl_99, pl_100, pl_106, pl_122, pl_128, pl_136, pl_142, pl_165, pl_168, pl_170, pl_171, pl_173, pl_175, pl_187, pl_188, pl_189, pl_190, pl_206, pl_211, pl_219, pl_229, pl_255, pl_260, pl_400, pl_500, pl_512, pl_900, pl_999, pl_1000, pl_1001, pl_1005, pl_1020, pl_1023, pl_1024, pl_1103, pl_2000, pl_2040, pl_2176, pl_5660, pl_9999, pl_12345, pl_1000000, pl_1000003, pl_100000000, pl_1000000000, pz_0, pz_1, pz_t, z2, f13, rI_sl, es, sm, hL, dg, hD, k1, y1, Bool.false_eq_true]
        · rw [y2, pe_ik (by decide), rI_sl, pe_ik (by decide)]; exact z2
        · by_cases hw : w ≤ 1000
          · refine Or.inl ⟨by omega, by omega, y4, ?_⟩
            have x1 : 1000 + min 1001 w - 1000 = w := by omega
            rw [y5, x1, nL_of (by omega)]
          · refine Or.inr (Or.inl ⟨by omega, y4, ?_⟩)
            rw [y5, Int64.lt_iff_toInt_lt, nL_int (by omega)]
            show (1000 : Int) < _
            omega
      · have q : enS b len s = s + 1 ∧ tkS b len s = 128 + b s := by
          have q1 : enS b len s = s + 1 := by unfold enS; rw [if_neg eT, if_neg hL, if_neg hD]
          refine ⟨q1, ?_⟩
          unfold tkS
          rw [if_neg eT, if_neg hL, if_neg hD]
        rw [q.1, q.2]
        refine ⟨am_si (am_sl (am_si (am_sl (am_si g1 0 15 (nI s)) 0 17 0) 0 16 (nI 3)) 0 17 (nI (b s)).toInt64) 0 15 (nI (s + 1)), ?_, ?_, pe_ieq _ _ _ _, Or.inr (Or.inr (Or.inr (Or.inr ⟨by omega, by omega, ?_, ?_⟩))), fN _ ((((((FrN.rf g1).si (by decide) _).sl _).si (by decide) _).sl _).si (by decide) _)⟩
        · have sm := q12_isSmallN hbs (am_sl (am_si g1 0 15 (nI s)) 0 17 0)
          have dg := q12_isDigitN hbs (am_sl (am_si g1 0 15 (nI s)) 0 17 0)
          have hne : s ≠ len := h0
          have k1 := k149 (am_si (am_sl (am_si (am_sl (am_si g1 0 15 (nI s)) 0 17 0) 0 16 (nI 3)) 0 17 (nI (b s)).toInt64) 0 15 (nI (s + 1))) 3 (by rw [pe_ik (by decide), rI_sl, pe_ieq]) (by decide) (by decide)
          have k2 := k243 (am_si (am_sl (am_si (am_sl (am_si g1 0 15 (nI s)) 0 17 0) 0 16 (nI 3)) 0 17 (nI (b s)).toInt64) 0 15 (nI (s + 1))) 3 (by rw [pe_ik (by decide), rI_sl, pe_ieq]) (by decide) (by decide)
          simp (disch := first | omega | assumption | decide) only [↓pv_let, ↓pv_jn, ↓reduceIte, pv_bd, ↓pv_ocs, ↓pv_ocn, pv_gdt, pe_gd, pe_clamp, pt_eq, pf_eq, pt_le, pf_le, pt_lt, pf_lt, nI_add, nn_mul, pe_sub, pb_0, pb_1, pb_z, pe_ieq, pe_ine, pe_ik, pP_si, pS_si, pn_si, ps_si, pL_si, decide_true, ofNat_nI, pe_srI, pe_srN, pe_srS, pe_srP, not_true_eq_false, not_false_eq_true, true_and, and_true, and_self, false_and, and_false, nI_m1, nI_ms, Nat.add_sub_cancel, pl_0, pl_1, pl_2, pl_3, pl_4, pl_5, pl_6, pl_7, pl_8, pl_9, pl_10, pl_11, pl_12, pl_13, pl_14, pl_15, pl_16, pl_17, pl_18, pl_19, pl_20, pl_21, pl_22, pl_23, pl_24, pl_25, pl_26, pl_27, pl_28, pl_29, pl_30, pl_31, pl_32, pl_34, pl_36, pl_37, pl_40, pl_41, pl_42, pl_43, pl_45, pl_47, pl_48, pl_50, pl_57, pl_59, pl_60, pl_61, pl_62, pl_64, pl_70, pl_91, pl_93, pl_97, pl_98, pl_99, pl_100, pl_106, pl_122, pl_128, pl_136, pl_142, pl_165, pl_168, pl_170, pl_171, pl_173, pl_175, pl_187, pl_188, pl_189, pl_190, pl_206, pl_211, pl_219, pl_229, pl_255, pl_260, pl_400, pl_500, pl_512, pl_900, pl_999, pl_1000, pl_1001, pl_1005, pl_1020, pl_1023, pl_1024, pl_1103, pl_2000, pl_2040, pl_2176, pl_5660, pl_9999, pl_12345, pl_1000000, pl_1000003, pl_100000000, pl_1000000000, pz_0, pz_1, pz_t, z2, f13, rI_sl, es, sm, hL, dg, hD, k1, k2, Bool.false_eq_true]
        · rw [pe_ik (by decide), rI_sl, pe_ik (by decide), rI_sl, pe_ik (by decide)]; exact z2
        · rw [pe_ik (by decide), rI_sl, pe_ieq]
        · rw [rL_si, rLk, Nat.add_sub_cancel_left]
theorem Lx.next {b : Nat → Nat} {len h : Nat} {g : am_G} (hL : Lx b len h g) (hl : len ≤ 400) (hb : ∀ i, i < len → b i < 256) : ∃ g', fX12_next g = some ((), g') ∧ Lx b len (h + 1) g' ∧ FrN g g' := by
  obtain ⟨h1, h2, h3, h4, h5⟩ := hL
  obtain ⟨g', z1, z2, z3, z4, z5⟩ := nextG hl hb (e := enF b len h) (enS_rg (plF_le b len h)).2.1 h1 h2 h4
  exact ⟨g', z1, ⟨by rw [z5.1 0 13 (by omega)]; exact h1, fun i hi => by rw [z5.1 9 i (by omega)]; exact h2 i hi, z2, z3, z4⟩, z5⟩
