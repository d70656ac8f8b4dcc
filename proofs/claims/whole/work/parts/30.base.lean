/-! ===== pure part: the programs' words unfold ===== -/
theorem pu_let {α β : Type} (x : α) (f : α → Option β) : am_let x f = f x := rfl
theorem pu_gd {β : Type} {b : Bool} {k : Option β} (h : b = true) : am_gd b k = k := by subst h; rfl
theorem pu_bd {α β : Type} (v : α) (g : am_G) (k : α → am_G → Option β) : am_bd (some (v, g)) k = k v g := rfl
theorem pu_jn {κ β : Type} (k : κ) (f : κ → Option β) : am_jn k f = f k := rfl
theorem pu_ocs {β : Type} (p : Nat) (ks : Nat → Option β) (kn : Option β) : am_oc (some p) ks kn = ks p := rfl
theorem pu_ocn {β : Type} (ks : Nat → Option β) (kn : Option β) : am_oc none ks kn = kn := rfl
theorem pu_gdt {β : Type} {k : Option β} : am_gd true k = k := rfl
/-! heaps -/
theorem pI_si (g : am_G) (a k : Nat) (x : Int32) (b j : Nat) : am_I (am_si g a k x) b j = if b = a ∧ j = k then x else am_I g b j := by
  show am_up (am_I g) a (am_up (am_I g a) k x) b j = _
  unfold am_up
  by_cases h : b = a
  · subst h
    by_cases hj : j = k
    · simp [hj]
    · simp [hj]
  · simp [h]
theorem pI_si_row (g : am_G) (a k : Nat) (x : Int32) : am_I (am_si g a k x) a = am_up (am_I g a) k x := by
  show am_up (am_I g) a _ a = _
  rw [am_up_eq]
theorem pI_si_ne (g : am_G) {a b : Nat} (k : Nat) (x : Int32) (h : b ≠ a) : am_I (am_si g a k x) b = am_I g b := am_up_ne h
theorem pI_sr_row (g : am_G) (a : Nat) (f : Nat → Int32) : am_I (am_sr g a f) a = f := am_up_eq
theorem pI_sr_ne (g : am_G) {a b : Nat} (f : Nat → Int32) (h : b ≠ a) : am_I (am_sr g a f) b = am_I g b := am_up_ne h
theorem pL_si (g : am_G) (a k : Nat) (x : Int32) : am_L (am_si g a k x) = am_L g := rfl
theorem pP_si (g : am_G) (a k : Nat) (x : Int32) : am_P (am_si g a k x) = am_P g := rfl
theorem pS_si (g : am_G) (a k : Nat) (x : Int32) : am_S (am_si g a k x) = am_S g := rfl
theorem pn_si (g : am_G) (a k : Nat) (x : Int32) : am_n (am_si g a k x) = am_n g := rfl
theorem ps_si (g : am_G) (a k : Nat) (x : Int32) : am_s (am_si g a k x) = am_s g := rfl
theorem pI_sl (g : am_G) (a k : Nat) (x : Int64) : am_I (am_sl g a k x) = am_I g := rfl
theorem pP_sl (g : am_G) (a k : Nat) (x : Int64) : am_P (am_sl g a k x) = am_P g := rfl
theorem pS_sl (g : am_G) (a k : Nat) (x : Int64) : am_S (am_sl g a k x) = am_S g := rfl
theorem pn_sl (g : am_G) (a k : Nat) (x : Int64) : am_n (am_sl g a k x) = am_n g := rfl
theorem ps_sl (g : am_G) (a k : Nat) (x : Int64) : am_s (am_sl g a k x) = am_s g := rfl
theorem pL_sl (g : am_G) (a k : Nat) (x : Int64) (b j : Nat) : am_L (am_sl g a k x) b j = if b = a ∧ j = k then x else am_L g b j := by
  show am_up (am_L g) a (am_up (am_L g a) k x) b j = _
  unfold am_up
  by_cases h : b = a
  · subst h
    by_cases hj : j = k
    · simp [hj]
    · simp [hj]
  · simp [h]
/-! numbers -/
theorem nn_lit (n : Nat) : (OfNat.ofNat n : Int32) = nI n := rfl
theorem nn_mul (a b : Nat) : nI a * nI b = nI (a * b) := (Int32.ofNat_mul a b).symm
theorem nn_sub {a b : Nat} (h : b ≤ a) : nI a - nI b = nI (a - b) := by
  have h1 : nI (a - b) + nI b = nI a := by rw [nI_add]; congr 1; omega
  rw [← h1]
  exact Int32.add_sub_cancel _ _
theorem nn_toInt {n : Nat} (h : n < 2 ^ 31) : (nI n).toInt = n := Int32.toInt_ofNat_of_lt h
theorem nn_of {x : Int32} (h : 0 ≤ x) : x = nI x.toNatClampNeg ∧ x.toNatClampNeg < 2 ^ 31 := by
  have h0 : (0 : Int) ≤ x.toInt := by simpa using Int32.le_iff_toInt_le.mp h
  have h1 : x.toInt < 2 ^ 31 := Int32.toInt_lt x
  have h2 : x.toNatClampNeg = x.toInt.toNat := rfl
  have h3 : x.toNatClampNeg < 2 ^ 31 := by rw [h2]; omega
  refine ⟨Int32.toInt_inj.mp ?_, h3⟩
  rw [nn_toInt h3, h2]
  omega
theorem nn_rng {x : Int32} {n : Nat} (hn : n < 2 ^ 31) (h : 0 ≤ x ∧ x ≤ nI n) : ∃ m, m ≤ n ∧ x = nI m := by
  obtain ⟨h1, h2⟩ := nn_of h.1
  refine ⟨x.toNatClampNeg, ?_, h1⟩
  have h3 := h.2
  rw [h1] at h3
  exact (nI_leI h2 hn).mp h3
theorem nn_in {m n : Nat} (h : m < n) (hn : n < 2 ^ 31) : am_in (nI m) n = true := by
  have h1 := vp_in_nI h hn
  unfold vp_in at h1
  unfold am_in
  simp only [Bool.not_eq_true', Bool.or_eq_false_iff, decide_eq_false_iff_not]
  exact ⟨fun z => h1 (Or.inl z), fun z => h1 (Or.inr z)⟩
theorem nn_eq {a b : Nat} (ha : a < 2 ^ 31) (hb : b < 2 ^ 31) : nI a = nI b ↔ a = b := by
  refine ⟨fun h => ?_, fun h => by rw [h]⟩
  have := congrArg Int32.toInt h
  rw [nn_toInt ha, nn_toInt hb] at this
  omega
/-! leaves -/
theorem s11_within (a b c : Int32) (g : am_G) : fX11_within a b c g = some (if b ≤ a ∧ a ≤ c then 1 else 0, g) := by
  unfold fX11_within
  by_cases h1 : a < b
  · rw [if_pos h1, if_neg (fun z => absurd z.1 (Int32.not_le.mpr h1))]
  · rw [if_neg h1]
    by_cases h2 : c < a
    · rw [if_pos h2, if_neg (fun z => absurd z.2 (Int32.not_le.mpr h2))]
    · rw [if_neg h2, if_pos ⟨Int32.not_lt.mp h1, Int32.not_lt.mp h2⟩]
theorem zb_ite (p : Prop) [Decidable p] : am_zb (if p then 1 else 0) = true := by split <;> rfl
theorem ite10 (p : Prop) [Decidable p] : ((if p then (1 : Int32) else 0) = 0) = ¬ p := by
  by_cases h : p <;> simp [h]
theorem s11_isSlope (a : Int32) (g : am_G) : fX11_isSlope a g = some (if 0 ≤ a ∧ a ≤ 5 then 1 else 0, g) := by
  unfold fX11_isSlope
  rw [s11_within, pu_bd, pu_gd (zb_ite _)]
theorem s11_isPlace (a : Int32) (g : am_G) : fX11_isPlace a g = some (if 0 ≤ a ∧ a ≤ 3 then 1 else 0, g) := by
  unfold fX11_isPlace
  rw [s11_within, pu_bd, pu_gd (zb_ite _)]
theorem s11_isLoud (a : Int32) (g : am_G) : fX11_isLoud a g = some (if 1 ≤ a ∧ a ≤ 3 then 1 else 0, g) := by
  unfold fX11_isLoud
  rw [s11_within, pu_bd, pu_gd (zb_ite _)]
theorem cmp_lt (x y : Int64) : (lg_cmp x y < 0) = (x < y) := by
  unfold lg_cmp
  by_cases h1 : y < x
  · have h2 : ¬ x < y := lg_lt_not h1
    simp [h1, h2]
  · by_cases h2 : x = y
    · subst h2; simp
    · have h3 : x < y := Int64.lt_of_le_of_ne (Int64.not_lt.mp h1) h2
      simp [h1, h2, h3]
theorem cmp_gt (x y : Int64) : (0 < lg_cmp x y) = (y < x) := by
  unfold lg_cmp
  by_cases h1 : y < x
  · simp [h1]
  · by_cases h2 : x = y
    · subst h2; simp
    · simp [h1, h2]
theorem s12_in (a b c : Int64) (g : am_G) : fX12_in a b c g = some (if b ≤ a ∧ a ≤ c then 1 else 0, g) := by
  unfold fX12_in
  simp only [cmp_lt, cmp_gt]
  by_cases h1 : a < b
  · rw [if_pos h1, if_neg (fun z => absurd z.1 (Int64.not_le.mpr h1))]
  · rw [if_neg h1]
    by_cases h2 : c < a
    · rw [if_pos h2, if_neg (fun z => absurd z.2 (Int64.not_le.mpr h2))]
    · rw [if_neg h2, if_pos ⟨Int64.not_lt.mp h1, Int64.not_lt.mp h2⟩]
theorem le64 (a b : Int32) : (a.toInt64 ≤ b.toInt64) = (a ≤ b) := by
  apply propext
  rw [Int64.le_iff_toInt_le, Int32.le_iff_toInt_le, Int32.toInt_toInt64, Int32.toInt_toInt64]
theorem s12_inI (a b c : Int32) (g : am_G) : fX12_in a.toInt64 b.toInt64 c.toInt64 g = some (if b ≤ a ∧ a ≤ c then 1 else 0, g) := by
  rw [s12_in]
  simp only [le64]
theorem s12_isSlope (a : Int32) (g : am_G) : fX12_isSlope a g = some (if 0 ≤ a ∧ a ≤ 5 then 1 else 0, g) := by
  unfold fX12_isSlope
  rw [show (0 : Int64) = (0 : Int32).toInt64 from rfl, show (5 : Int64) = (5 : Int32).toInt64 from rfl, s12_inI, pu_bd, pu_gd (zb_ite _)]
theorem s12_isPlace (a : Int32) (g : am_G) : fX12_isPlace a g = some (if 0 ≤ a ∧ a ≤ 3 then 1 else 0, g) := by
  unfold fX12_isPlace
  rw [show (0 : Int64) = (0 : Int32).toInt64 from rfl, show (3 : Int64) = (3 : Int32).toInt64 from rfl, s12_inI, pu_bd, pu_gd (zb_ite _)]
theorem s12_isLoud (a : Int32) (g : am_G) : fX12_isLoud a g = some (if 1 ≤ a ∧ a ≤ 3 then 1 else 0, g) := by
  unfold fX12_isLoud
  rw [show (1 : Int64) = (1 : Int32).toInt64 from rfl, show (3 : Int64) = (3 : Int32).toInt64 from rfl, s12_inI, pu_bd, pu_gd (zb_ite _)]
