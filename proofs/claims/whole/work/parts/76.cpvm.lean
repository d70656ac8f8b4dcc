theorem cpk_S (g : am_G) (b a : Nat) : am_S (cpk g b a) = am_S g := Eq.trans rfl (Eq.trans rfl rfl)
theorem cpk_P (g : am_G) (b a : Nat) : am_P (cpk g b a) = am_P g := Eq.trans rfl (Eq.trans rfl rfl)
theorem cpw_S (g : am_G) (b a : Nat) : am_S (cpw g b a) = am_S g := Eq.trans rfl (Eq.trans rfl rfl)
theorem cpw_P (g : am_G) (b a : Nat) : am_P (cpw g b a) = am_P g := Eq.trans rfl (Eq.trans rfl rfl)
theorem srP_S (g : am_G) (a : Nat) (f : Nat → Option Nat) : am_S (am_srP g a f) = am_S g := Eq.trans rfl (Eq.trans rfl rfl)
theorem srP_I (g : am_G) (a : Nat) (f : Nat → Option Nat) : am_I (am_srP g a f) = am_I g := Eq.trans rfl (Eq.trans rfl rfl)
theorem cpL_S (g : am_G) (b a : Nat) : am_S (cpL g b a) = am_S g := Eq.trans rfl (Eq.trans rfl rfl)
theorem cpL_I (g : am_G) (b a : Nat) : am_I (cpL g b a) = am_I g := Eq.trans rfl (Eq.trans rfl rfl)
theorem cpLL0 {b a : Nat} {k : am_G → Option (Unit × am_G)} (hd : b + 24 ≤ a ∨ a + 24 ≤ b) (hb24 : 79 ≤ b + 23 ∨ b + 23 = 24) {g : am_G} (hb : ImS g b) (ha : ImS g a) (hS : ∀ l p, l < 6 → am_P g (a + 23) l = some p → am_S g p = (6, 3)) : fX9_copyFrom_L188 k b a am_fu (nI 0) g = k (cpL g b a) := by
  rw [cpLL hd hb24 6 0 am_fu g rfl (by decide) hb ha hS]
  have e : (fun l => if 0 ≤ l ∧ l < 6 then am_P g (a + 23) l else am_P g (b + 23) l) = (fun l => if l < 6 then am_P g (a + 23) l else am_P g (b + 23) l) := by
    funext l
    by_cases h : l < 6
    · rw [if_pos ⟨Nat.zero_le _, h⟩, if_pos h]
    · rw [if_neg (fun z => h z.2), if_neg h]
  rw [e]
  rfl
theorem cpblk {g g0 : am_G} {a b i pa pb n : Nat} {x : Int32} {K : am_G → Option (Unit × am_G)} (hx : x = nI n) (hn : n < 2147483648) (ha : am_S g0 a = (9, 20)) (hpa : am_P g0 a i = some pa) (hb : am_S g0 b = (9, 20)) (hpb : am_P g0 b i = some pb) (hsa : am_S g0 pa = (20, n)) (hsb : am_S g0 pb = (20, n)) (he : g.2 = g0.2) :
    (am_gd (decide (am_S g a = (9, 20))) <| am_oc (am_P g a i) (fun p22 => am_gd (decide (am_S g b = (9, 20))) <| am_oc (am_P g b i) (fun p25 => am_gd (decide ((am_S g p22).1 = 20)) <| am_gd (decide ((am_S g p25).1 = 20)) <| am_gd (am_co (0 : Int32) (0 : Int32) x ((am_S g p22).2) ((am_S g p25).2)) <| am_let (am_cp g p22 p25 (0 : Int32).toNatClampNeg (0 : Int32).toNatClampNeg x.toNatClampNeg) K) none) none) = K (cpa g pa pb n) := by
  subst hx
  have eP : am_P g = am_P g0 := congrArg (fun z => z.2.1) he
  have eS : am_S g = am_S g0 := congrArg (fun z => z.2.2.1) he
  rw [← eS] at ha hb hsa hsb
  rw [← eP] at hpa hpb
  rw [pu_gd (decide_eq_true ha), hpa, pu_ocs, pu_gd (decide_eq_true hb), hpb, pu_ocs, pu_gd (decide_eq_true (by rw [hsa])), pu_gd (decide_eq_true (by rw [hsb])), pu_gd (by rw [hsa, hsb]; exact am_co_t (Nat.le_refl _) (Nat.le_refl _) hn), pu_let, pe_clamp hn]
  congr 1
  exact cp_cpa g pa pb n
theorem cpsi {g g0 : am_G} {a b i : Nat} {K : am_G → Option (Unit × am_G)} (ha : am_S g0 a = (9, 20)) (hb : am_S g0 b = (9, 20)) (he : am_S g = am_S g0) : (am_gd (decide (am_S g a = (9, 20))) <| am_gd (decide (am_S g b = (9, 20))) <| am_let (am_si g b i (am_I g a i)) K) = K (am_si g b i (am_I g a i)) := by
  rw [← he] at ha hb
  rw [pu_gd (decide_eq_true ha), pu_gd (decide_eq_true hb), pu_let]
/-- the numbers behind the laws -/
def endV (b a : Nat) (g156 : am_G) : Option (Unit × am_G) :=
    am_gd (decide (am_S g156 a = (9, 20))) <|
    am_gd (decide (am_S g156 b = (9, 20))) <|
    am_let (am_si g156 b 14 (am_I g156 a 14)) fun g159 =>
    am_gd (decide (am_S g159 a = (9, 20))) <|
    am_gd (decide (am_S g159 b = (9, 20))) <|
    am_let (am_si g159 b 15 (am_I g159 a 15)) fun g162 =>
    am_gd (decide (am_S g162 a = (9, 20))) <|
    am_gd (decide (am_S g162 b = (9, 20))) <|
    am_let (am_si g162 b 16 (am_I g162 a 16)) fun g165 =>
    am_gd (decide (am_S g165 a = (9, 20))) <|
    am_gd (decide (am_S g165 b = (9, 20))) <|
    am_let (am_si g165 b 17 (am_I g165 a 17)) fun g168 =>
    am_gd (decide (am_S g168 a = (9, 20))) <|
    am_gd (decide (am_S g168 b = (9, 20))) <|
    am_let (am_si g168 b 18 (am_I g168 a 18)) fun g171 =>
    am_gd (decide (am_S g171 a = (9, 20))) <|
    am_gd (decide (am_S g171 b = (9, 20))) <|
    am_let (am_si g171 b 19 (am_I g171 a 19)) fun g174 =>
    some ((), g174)
theorem endV_eq {g : am_G} {b a : Nat} (ha : am_S g a = (9, 20)) (hb : am_S g b = (9, 20)) (hab : a ≠ b) : endV b a g = some ((), cpN g b a) := by
  unfold endV cpN
  rw [cpsi (i := 14) ha hb (by rfl), cpsi (i := 15) ha hb (by rfl), cpsi (i := 16) ha hb (by rfl), cpsi (i := 17) ha hb (by rfl), cpsi (i := 18) ha hb (by rfl), cpsi (i := 19) ha hb (by rfl)]
  have e : ∀ (h : am_G) (k j : Nat) (x : Int32), am_I (am_si h b k x) a j = am_I h a j := fun h k j x => by rw [pI_si_ne _ _ _ hab]
  rw [e, e, e, e, e, e, e, e, e, e, e, e, e, e, e]
