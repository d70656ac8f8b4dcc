def fX12_slopeAt (a0 : Int32) (a1 : Int32) (g : am_G) : Option (Int32 × am_G) :=
  some (((10 : Int32) + ((10 : Int32) * a0)) + a1, g)
set_option maxRecDepth 100000 in
set_option maxHeartbeats 4000000 in
theorem eX12_slopeAt (a0 : Int32) (a1 : Int32) (g : am_G) (r : Int32 × am_G) (h : fX12_slopeAt a0 a1 g = some r) : am_Ev zr MX12_slopeAt 0 0 [(0, .int a0), (1, .int a1)] [] g (am_ri r) := by
  unfold fX12_slopeAt at h
  refine ev_bipush dX12_slopeAt_0 rfl ?_
  refine ev_bipush dX12_slopeAt_2 rfl ?_
  refine ev_iload_n 0 dX12_slopeAt_4 rfl ?_
  refine ev_imul dX12_slopeAt_5 ?_
  refine ev_iadd dX12_slopeAt_6 ?_
  refine ev_iload_n 1 dX12_slopeAt_7 rfl ?_
  refine ev_iadd dX12_slopeAt_8 ?_
  cases h
  exact ev_iret dX12_slopeAt_9 rfl
theorem tX12_slopeAt {a0 : Int32} {a1 : Int32} {g : am_G} {r : Int32 × am_G} (h : fX12_slopeAt a0 a1 g = some r) : am_Mt zr MX12_slopeAt 0 [.int a0, .int a1] g (am_ri r) := am_Mt.of rfl (Nat.le_of_ble_eq_true rfl) (eX12_slopeAt _ _ _ _ h)
def fX12_in (a0 : Int64) (a2 : Int64) (a4 : Int64) (g : am_G) : Option (Int32 × am_G) :=
  if (lg_cmp a0 a2) < 0 then (
    some ((0 : Int32), g))
  else (
    if 0 < (lg_cmp a0 a4) then (
      some ((0 : Int32), g))
    else (
      some ((1 : Int32), g)))
set_option maxRecDepth 100000 in
set_option maxHeartbeats 4000000 in
theorem eX12_in (a0 : Int64) (a2 : Int64) (a4 : Int64) (g : am_G) (r : Int32 × am_G) (h : fX12_in a0 a2 a4 g = some r) : am_Ev zr MX12_in 0 0 [(0, .long a0), (2, .long a2), (4, .long a4)] [] g (am_ri r) := by
  unfold fX12_in at h
  refine ev_lload_n 0 dX12_in_0 rfl ?_
  refine ev_lload_n 1 dX12_in_1 rfl ?_
  refine ev_lcmp dX12_in_2 ?_
  refine ev_if_lt 17 dX12_in_3 (by decide) (fun c1 => ?_) (fun c1 => ?_)
  · replace h := am_ifp c1 h
    refine ev_iconst dX12_in_17 rfl ?_
    cases h
    exact ev_zret dX12_in_18 rfl rfl
  · replace h := am_ifn c1 h
    refine ev_lload_n 0 dX12_in_6 rfl ?_
    refine ev_lload 2 dX12_in_7 rfl ?_
    refine ev_lcmp dX12_in_9 ?_
    refine ev_if_gt 17 dX12_in_10 (by decide) (fun c2 => ?_) (fun c2 => ?_)
    · replace h := am_ifp c2 h
      refine ev_iconst dX12_in_17 rfl ?_
      cases h
      exact ev_zret dX12_in_18 rfl rfl
    · replace h := am_ifn c2 h
      refine ev_iconst dX12_in_13 rfl ?_
      refine ev_goto 18 dX12_in_14 (by decide) ?_
      cases h
      exact ev_zret dX12_in_18 rfl rfl
theorem tX12_in {a0 : Int64} {a2 : Int64} {a4 : Int64} {g : am_G} {r : Int32 × am_G} (h : fX12_in a0 a2 a4 g = some r) : am_Mt zr MX12_in 0 [.long a0, .long a2, .long a4] g (am_ri r) := am_Mt.of rfl (Nat.le_of_ble_eq_true rfl) (eX12_in _ _ _ _ _ h)
def fX12_within (a0 : Int64) (a2 : Int32) (a3 : Int32) (g : am_G) : Option (Int32 × am_G) :=
  if 0 ≤ (lg_cmp a0 a2.toInt64) then (
    if (lg_cmp a0 a3.toInt64) ≤ 0 then (
      some (a0.toInt32, g))
    else (
      some (a3, g)))
  else (
    some (a2, g))
set_option maxRecDepth 100000 in
set_option maxHeartbeats 4000000 in
theorem eX12_within (a0 : Int64) (a2 : Int32) (a3 : Int32) (g : am_G) (r : Int32 × am_G) (h : fX12_within a0 a2 a3 g = some r) : am_Ev zr MX12_within 0 0 [(0, .long a0), (2, .int a2), (3, .int a3)] [] g (am_ri r) := by
  unfold fX12_within at h
  refine ev_lload_n 0 dX12_within_0 rfl ?_
  refine ev_iload_n 1 dX12_within_1 rfl ?_
  refine ev_i2l dX12_within_2 ?_
  refine ev_lcmp dX12_within_3 ?_
  refine ev_if_ge 11 dX12_within_4 (by decide) (fun c1 => ?_) (fun c1 => ?_)
  · replace h := am_ifp c1 h
    refine ev_lload_n 0 dX12_within_11 rfl ?_
    refine ev_iload_n 2 dX12_within_12 rfl ?_
    refine ev_i2l dX12_within_13 ?_
    refine ev_lcmp dX12_within_14 ?_
    refine ev_if_le 22 dX12_within_15 (by decide) (fun c2 => ?_) (fun c2 => ?_)
    · replace h := am_ifp c2 h
      refine ev_lload_n 0 dX12_within_22 rfl ?_
      refine ev_l2i dX12_within_23 ?_
      cases h
      exact ev_iret dX12_within_24 rfl
    · replace h := am_ifn c2 h
      refine ev_iload_n 2 dX12_within_18 rfl ?_
      refine ev_goto 24 dX12_within_19 (by decide) ?_
      cases h
      exact ev_iret dX12_within_24 rfl
  · replace h := am_ifn c1 h
    refine ev_iload_n 1 dX12_within_7 rfl ?_
    refine ev_goto 24 dX12_within_8 (by decide) ?_
    cases h
    exact ev_iret dX12_within_24 rfl
theorem tX12_within {a0 : Int64} {a2 : Int32} {a3 : Int32} {g : am_G} {r : Int32 × am_G} (h : fX12_within a0 a2 a3 g = some r) : am_Mt zr MX12_within 0 [.long a0, .int a2, .int a3] g (am_ri r) := am_Mt.of rfl (Nat.le_of_ble_eq_true rfl) (eX12_within _ _ _ _ _ h)
def fX12_tell (a1 : Int32) (g : am_G) : Option (Int32 × am_G) :=
  am_jn (fun (x2 : Int32) (g3 : am_G) =>
    am_let (am_si g3 0 1 x2) fun g5 =>
    if 0 ≤ a1 then (
      some (a1, g5))
    else (
      am_gd (am_in (-a1) 7) <|
      am_gd (am_in (-a1) 7) <|
      am_let (am_si g5 1 (-a1).toNatClampNeg ((am_I g5 1 (-a1).toNatClampNeg) + (1 : Int32))) fun g9 =>
      some (a1, g9))) fun j4 =>
  if 0 ≤ a1 then (
    j4 (0 : Int32) g)
  else (
    j4 a1 g)
set_option maxRecDepth 100000 in
set_option maxHeartbeats 4000000 in
theorem eX12_tell (a1 : Int32) (g : am_G) (r : Int32 × am_G) (h : fX12_tell a1 g = some r) : am_Ev zr MX12_tell 0 0 [(0, .ref 0), (1, .int a1)] [] g (am_ri r) := by
  unfold fX12_tell at h
  refine ev_aload_n 0 dX12_tell_0 rfl ?_
  refine ev_iload_n 1 dX12_tell_1 rfl ?_
  refine am_jn_elim (fun q9 => ∀ (x2 : Int32) (g3 : am_G) (r : Int32 × am_G), q9 x2 g3 = some r → am_Ev zr MX12_tell 0 10 [(0, .ref 0), (1, .int a1)] [.int x2, .ref 0] g3 (am_ri r)) h ?_ (fun j4 hj4 h => ?_)
  · intro x2 g3 r h
    try dsimp only at h
    refine ev_pfi dX12_tell_10 (fun h9 => (h9.2.1 0 _ rfl).2) 1 (by decide) (by decide) kF_X12_166 rfl rfl rfl (fun _ => rfl) ?_
    refine am_let_elim (P := fun g5 => am_Ev zr MX12_tell 0 13 [(0, .ref 0), (1, .int a1)] [] g5 (am_ri r)) h fun g5 h => ?_
    refine ev_iload_n 1 dX12_tell_13 rfl ?_
    refine ev_if_ge 28 dX12_tell_14 (by decide) (fun c6 => ?_) (fun c6 => ?_)
    · replace h := am_ifp c6 h
      refine ev_iload_n 1 dX12_tell_28 rfl ?_
      cases h
      exact ev_iret dX12_tell_29 rfl
    · replace h := am_ifn c6 h
      refine ev_aload_n 0 dX12_tell_17 rfl ?_
      refine ev_gf (v := .ref 1) dX12_tell_18 (fun h9 => (h9.2.1 0 _ rfl).2) 2 (by decide) (by decide) kF_X12_7 (fun h9 => congrArg va_rf (h9.2.2 0 2 1 rfl)) ?_
      refine ev_iload_n 1 dX12_tell_21 rfl ?_
      refine ev_ineg dX12_tell_22 ?_
      refine ev_dup2 dX12_tell_23 rfl rfl ?_
      obtain ⟨c7, h⟩ := am_gd_elim h
      refine ev_iald dX12_tell_24 (fun h9 => (h9.2.1 1 _ rfl).2) (am_in_vp c7) ?_
      refine ev_iconst dX12_tell_25 rfl ?_
      refine ev_iadd dX12_tell_26 ?_
      obtain ⟨c8, h⟩ := am_gd_elim h
      refine ev_iast dX12_tell_27 (fun h9 => (h9.2.1 1 _ rfl).2) (am_in_vp c8) ?_
      refine am_let_elim (P := fun g9 => am_Ev zr MX12_tell 0 28 [(0, .ref 0), (1, .int a1)] [] g9 (am_ri r)) h fun g9 h => ?_
      refine ev_iload_n 1 dX12_tell_28 rfl ?_
      cases h
      exact ev_iret dX12_tell_29 rfl
  · refine ev_if_ge 9 dX12_tell_2 (by decide) (fun c1 => ?_) (fun c1 => ?_)
    · replace h := am_ifp c1 h
      refine ev_iconst dX12_tell_9 rfl ?_
      refine ev_sub [0, 1] rfl ?_
      exact hj4 _ _ _ h
    · replace h := am_ifn c1 h
      refine ev_iload_n 1 dX12_tell_5 rfl ?_
      refine ev_goto 10 dX12_tell_6 (by decide) ?_
      refine ev_sub [0, 1] rfl ?_
      exact hj4 _ _ _ h
theorem tX12_tell {a1 : Int32} {g : am_G} {r : Int32 × am_G} (h : fX12_tell a1 g = some r) : am_Mt zr MX12_tell 0 [.ref 0, .int a1] g (am_ri r) := am_Mt.of rfl (Nat.le_of_ble_eq_true rfl) (eX12_tell _ _ _ h)
def fX12_change (a1 : Int32) (a2 : Int32) (g : am_G) : Option (Int32 × am_G) :=
  am_gd (am_in a1 5660) <|
  am_let (am_I g 2 a1.toNatClampNeg) fun x2 =>
  am_gd (am_in a1 5660) <|
  am_let (am_si g 2 a1.toNatClampNeg a2) fun g4 =>
  am_let (am_si g4 0 1 (0 : Int32)) fun g5 =>
  some (x2, g5)
set_option maxRecDepth 100000 in
set_option maxHeartbeats 4000000 in
theorem eX12_change (a1 : Int32) (a2 : Int32) (g : am_G) (r : Int32 × am_G) (h : fX12_change a1 a2 g = some r) : am_Ev zr MX12_change 0 0 [(0, .ref 0), (1, .int a1), (2, .int a2)] [] g (am_ri r) := by
  unfold fX12_change at h
  refine ev_aload_n 0 dX12_change_0 rfl ?_
  refine ev_gf (v := .ref 2) dX12_change_1 (fun h9 => (h9.2.1 0 _ rfl).2) 3 (by decide) (by decide) kF_X12_13 (fun h9 => congrArg va_rf (h9.2.2 0 3 2 rfl)) ?_
  refine ev_iload_n 1 dX12_change_4 rfl ?_
  obtain ⟨c1, h⟩ := am_gd_elim h
  refine ev_iald dX12_change_5 (fun h9 => (h9.2.1 2 _ rfl).2) (am_in_vp c1) ?_
  refine am_let_elim (P := fun x2 => am_Ev zr MX12_change 0 6 [(0, .ref 0), (1, .int a1), (2, .int a2)] [.int x2] g (am_ri r)) h fun x2 h => ?_
  refine ev_istore_n (ls' := [(3, .int x2), (0, .ref 0), (1, .int a1), (2, .int a2)]) dX12_change_6 rfl (by decide) rfl ?_
  refine ev_aload_n 1 dX12_change_7 rfl ?_
  refine ev_gf (v := .ref 2) dX12_change_8 (fun h9 => (h9.2.1 0 _ rfl).2) 3 (by decide) (by decide) kF_X12_13 (fun h9 => congrArg va_rf (h9.2.2 0 3 2 rfl)) ?_
  refine ev_iload_n 2 dX12_change_11 rfl ?_
  refine ev_iload_n 3 dX12_change_12 rfl ?_
  obtain ⟨c3, h⟩ := am_gd_elim h
  refine ev_iast dX12_change_13 (fun h9 => (h9.2.1 2 _ rfl).2) (am_in_vp c3) ?_
  refine am_let_elim (P := fun g4 => am_Ev zr MX12_change 0 14 [(3, .int x2), (0, .ref 0), (1, .int a1), (2, .int a2)] [] g4 (am_ri r)) h fun g4 h => ?_
  refine ev_aload_n 1 dX12_change_14 rfl ?_
  refine ev_iconst dX12_change_15 rfl ?_
  refine ev_pfi dX12_change_16 (fun h9 => (h9.2.1 0 _ rfl).2) 1 (by decide) (by decide) kF_X12_166 rfl rfl rfl (fun _ => rfl) ?_
  refine am_let_elim (P := fun g5 => am_Ev zr MX12_change 0 19 [(3, .int x2), (0, .ref 0), (1, .int a1), (2, .int a2)] [] g5 (am_ri r)) h fun g5 h => ?_
  refine ev_iload_n 0 dX12_change_19 rfl ?_
  cases h
  exact ev_iret dX12_change_20 rfl
theorem tX12_change {a1 : Int32} {a2 : Int32} {g : am_G} {r : Int32 × am_G} (h : fX12_change a1 a2 g = some r) : am_Mt zr MX12_change 0 [.ref 0, .int a1, .int a2] g (am_ri r) := am_Mt.of rfl (Nat.le_of_ble_eq_true rfl) (eX12_change _ _ _ _ h)
def fX12_ofSlope (a1 : Int32) (a2 : Int32) (g : am_G) : Option (Int32 × am_G) :=
  am_bd (fX12_slopeAt a1 a2 g) fun v1 g2 =>
  am_gd (am_in v1 5660) <|
  some (am_I g2 2 v1.toNatClampNeg, g2)
set_option maxRecDepth 100000 in
set_option maxHeartbeats 4000000 in
theorem eX12_ofSlope (a1 : Int32) (a2 : Int32) (g : am_G) (r : Int32 × am_G) (h : fX12_ofSlope a1 a2 g = some r) : am_Ev zr MX12_ofSlope 1 0 [(0, .ref 0), (1, .int a1), (2, .int a2)] [] g (am_ri r) := by
  unfold fX12_ofSlope at h
  refine ev_aload_n 0 dX12_ofSlope_0 rfl ?_
  refine ev_gf (v := .ref 2) dX12_ofSlope_1 (fun h9 => (h9.2.1 0 _ rfl).2) 3 (by decide) (by decide) kF_X12_13 (fun h9 => congrArg va_rf (h9.2.2 0 3 2 rfl)) ?_
  refine ev_iload_n 1 dX12_ofSlope_4 rfl ?_
  refine ev_iload_n 2 dX12_ofSlope_5 rfl ?_
  obtain ⟨v1, g2, e3, h⟩ := am_bd_elim h
  refine ev_callSi (v := v1) [.int a1, .int a2] [.ref 2] dX12_ofSlope_6 (tX12_slopeAt e3) (by decide) mo_X12_slopeAt kM_X12_159 ks_X12_slopeAt (Nat.le_of_ble_eq_true rfl) ?_
  obtain ⟨c4, h⟩ := am_gd_elim h
  refine ev_iald dX12_ofSlope_9 (fun h9 => (h9.2.1 2 _ rfl).2) (am_in_vp c4) ?_
  cases h
  exact ev_iret dX12_ofSlope_10 rfl
theorem tX12_ofSlope {a1 : Int32} {a2 : Int32} {g : am_G} {r : Int32 × am_G} (h : fX12_ofSlope a1 a2 g = some r) : am_Mt zr MX12_ofSlope 1 [.ref 0, .int a1, .int a2] g (am_ri r) := am_Mt.of rfl (Nat.le_of_ble_eq_true rfl) (eX12_ofSlope _ _ _ _ h)
def fX12_keepAll_L2 (a1 : Int32) : Nat → Int32 → am_G → Option (Unit × am_G)
  | 0, _, _ => none
  | n + 1, x1, g2 =>
    if (136 : Int32) ≤ x1 then (
      some ((), g2))
    else (
      am_gd (am_in ((6 : Int32) + x1) 5660) <|
      am_gd (am_in (((136 : Int32) * a1) + x1) 2856) <|
      am_let (am_si g2 5 (((136 : Int32) * a1) + x1).toNatClampNeg (am_I g2 2 ((6 : Int32) + x1).toNatClampNeg)) fun g6 =>
      am_let (x1 + (1 : Int32)) fun x7 =>
      fX12_keepAll_L2 a1 n x7 g6)
def fX12_keepAll (a1 : Int32) (g : am_G) : Option (Unit × am_G) :=
  fX12_keepAll_L2 a1 am_fu (0 : Int32) g
set_option maxRecDepth 100000 in
set_option maxHeartbeats 4000000 in
theorem tfX12_keepAll_L2  (a1 : Int32) : ∀ (n : Nat) (x1 : Int32) (g2 : am_G) (r : Unit × am_G), fX12_keepAll_L2 a1 n x1 g2 = some r → am_Ev zr MX12_keepAll 0 2 [(0, .ref 0), (1, .int a1), (2, .int x1)] [] g2 (am_rv r) := by
  intro n
  induction n with
  | zero => intro x1 g2 r h; exact nomatch (show (none : Option (Unit × am_G)) = some r from h)
  | succ n ih =>
    intro x1 g2 r h
    rw [fX12_keepAll_L2] at h
    refine ev_iload_n 2 dX12_keepAll_2 rfl ?_
    refine ev_sipush dX12_keepAll_3 rfl ?_
    refine ev_icmp_ge 36 dX12_keepAll_6 (by decide) (fun c3 => ?_) (fun c3 => ?_)
    · replace h := am_ifp c3 h
      cases h
      exact ev_ret dX12_keepAll_36 rfl
    · replace h := am_ifn c3 h
      refine ev_aload_n 0 dX12_keepAll_9 rfl ?_
      refine ev_gf (v := .ref 5) dX12_keepAll_10 (fun h9 => (h9.2.1 0 _ rfl).2) 6 (by decide) (by decide) kF_X12_23 (fun h9 => congrArg va_rf (h9.2.2 0 6 5 rfl)) ?_
      refine ev_sipush dX12_keepAll_13 rfl ?_
      refine ev_iload_n 1 dX12_keepAll_16 rfl ?_
      refine ev_imul dX12_keepAll_17 ?_
      refine ev_iload_n 2 dX12_keepAll_18 rfl ?_
      refine ev_iadd dX12_keepAll_19 ?_
      refine ev_aload_n 0 dX12_keepAll_20 rfl ?_
      refine ev_gf (v := .ref 2) dX12_keepAll_21 (fun h9 => (h9.2.1 0 _ rfl).2) 3 (by decide) (by decide) kF_X12_13 (fun h9 => congrArg va_rf (h9.2.2 0 3 2 rfl)) ?_
      refine ev_bipush dX12_keepAll_24 rfl ?_
      refine ev_iload_n 2 dX12_keepAll_26 rfl ?_
      refine ev_iadd dX12_keepAll_27 ?_
      obtain ⟨c4, h⟩ := am_gd_elim h
      refine ev_iald dX12_keepAll_28 (fun h9 => (h9.2.1 2 _ rfl).2) (am_in_vp c4) ?_
      obtain ⟨c5, h⟩ := am_gd_elim h
      refine ev_iast dX12_keepAll_29 (fun h9 => (h9.2.1 5 _ rfl).2) (am_in_vp c5) ?_
      refine am_let_elim (P := fun g6 => am_Ev zr MX12_keepAll 0 30 [(0, .ref 0), (1, .int a1), (2, .int x1)] [] g6 (am_rv r)) h fun g6 h => ?_
      obtain ⟨x7, ex7, h⟩ := am_let_ex h
      refine ev_iinc (ls' := [(2, .int x7), (0, .ref 0), (1, .int a1)]) 2 dX12_keepAll_30 rfl ex7 (by decide) rfl ?_
      refine ev_goto 2 dX12_keepAll_33 (by decide) ?_
      refine ev_sub [1, 2, 0] rfl ?_
      exact ih _ _ _ h
set_option maxRecDepth 100000 in
set_option maxHeartbeats 4000000 in
theorem eX12_keepAll (a1 : Int32) (g : am_G) (r : Unit × am_G) (h : fX12_keepAll a1 g = some r) : am_Ev zr MX12_keepAll 0 0 [(0, .ref 0), (1, .int a1)] [] g (am_rv r) := by
  unfold fX12_keepAll at h
  refine ev_iconst dX12_keepAll_0 rfl ?_
  refine ev_istore_n (ls' := [(2, .int (0 : Int32)), (0, .ref 0), (1, .int a1)]) dX12_keepAll_1 rfl (by decide) rfl ?_
  refine ev_sub [1, 2, 0] rfl ?_
  exact tfX12_keepAll_L2 a1 _ _ _ _ h
theorem tX12_keepAll {a1 : Int32} {g : am_G} {r : Unit × am_G} (h : fX12_keepAll a1 g = some r) : am_Mt zr MX12_keepAll 0 [.ref 0, .int a1] g (am_rv r) := am_Mt.of rfl (Nat.le_of_ble_eq_true rfl) (eX12_keepAll _ _ _ h)
def fX12_putBack_L2 (a1 : Int32) : Nat → Int32 → am_G → Option (Unit × am_G)
  | 0, _, _ => none
  | n + 1, x1, g2 =>
    if (136 : Int32) ≤ x1 then (
      some ((), g2))
    else (
      am_gd (am_in (((136 : Int32) * a1) + x1) 2856) <|
      am_gd (am_in ((6 : Int32) + x1) 5660) <|
      am_let (am_si g2 2 ((6 : Int32) + x1).toNatClampNeg (am_I g2 5 (((136 : Int32) * a1) + x1).toNatClampNeg)) fun g6 =>
      am_let (x1 + (1 : Int32)) fun x7 =>
      fX12_putBack_L2 a1 n x7 g6)
def fX12_putBack (a1 : Int32) (g : am_G) : Option (Unit × am_G) :=
  fX12_putBack_L2 a1 am_fu (0 : Int32) g
set_option maxRecDepth 100000 in
set_option maxHeartbeats 4000000 in
theorem tfX12_putBack_L2  (a1 : Int32) : ∀ (n : Nat) (x1 : Int32) (g2 : am_G) (r : Unit × am_G), fX12_putBack_L2 a1 n x1 g2 = some r → am_Ev zr MX12_putBack 0 2 [(0, .ref 0), (1, .int a1), (2, .int x1)] [] g2 (am_rv r) := by
  intro n
  induction n with
  | zero => intro x1 g2 r h; exact nomatch (show (none : Option (Unit × am_G)) = some r from h)
  | succ n ih =>
    intro x1 g2 r h
    rw [fX12_putBack_L2] at h
    refine ev_iload_n 2 dX12_putBack_2 rfl ?_
    refine ev_sipush dX12_putBack_3 rfl ?_
    refine ev_icmp_ge 36 dX12_putBack_6 (by decide) (fun c3 => ?_) (fun c3 => ?_)
    · replace h := am_ifp c3 h
      cases h
      exact ev_ret dX12_putBack_36 rfl
    · replace h := am_ifn c3 h
      refine ev_aload_n 0 dX12_putBack_9 rfl ?_
      refine ev_gf (v := .ref 2) dX12_putBack_10 (fun h9 => (h9.2.1 0 _ rfl).2) 3 (by decide) (by decide) kF_X12_13 (fun h9 => congrArg va_rf (h9.2.2 0 3 2 rfl)) ?_
      refine ev_bipush dX12_putBack_13 rfl ?_
      refine ev_iload_n 2 dX12_putBack_15 rfl ?_
      refine ev_iadd dX12_putBack_16 ?_
      refine ev_aload_n 0 dX12_putBack_17 rfl ?_
      refine ev_gf (v := .ref 5) dX12_putBack_18 (fun h9 => (h9.2.1 0 _ rfl).2) 6 (by decide) (by decide) kF_X12_23 (fun h9 => congrArg va_rf (h9.2.2 0 6 5 rfl)) ?_
      refine ev_sipush dX12_putBack_21 rfl ?_
      refine ev_iload_n 1 dX12_putBack_24 rfl ?_
      refine ev_imul dX12_putBack_25 ?_
      refine ev_iload_n 2 dX12_putBack_26 rfl ?_
      refine ev_iadd dX12_putBack_27 ?_
      obtain ⟨c4, h⟩ := am_gd_elim h
      refine ev_iald dX12_putBack_28 (fun h9 => (h9.2.1 5 _ rfl).2) (am_in_vp c4) ?_
      obtain ⟨c5, h⟩ := am_gd_elim h
      refine ev_iast dX12_putBack_29 (fun h9 => (h9.2.1 2 _ rfl).2) (am_in_vp c5) ?_
      refine am_let_elim (P := fun g6 => am_Ev zr MX12_putBack 0 30 [(0, .ref 0), (1, .int a1), (2, .int x1)] [] g6 (am_rv r)) h fun g6 h => ?_
      obtain ⟨x7, ex7, h⟩ := am_let_ex h
      refine ev_iinc (ls' := [(2, .int x7), (0, .ref 0), (1, .int a1)]) 2 dX12_putBack_30 rfl ex7 (by decide) rfl ?_
      refine ev_goto 2 dX12_putBack_33 (by decide) ?_
      refine ev_sub [1, 2, 0] rfl ?_
      exact ih _ _ _ h
set_option maxRecDepth 100000 in
set_option maxHeartbeats 4000000 in
theorem eX12_putBack (a1 : Int32) (g : am_G) (r : Unit × am_G) (h : fX12_putBack a1 g = some r) : am_Ev zr MX12_putBack 0 0 [(0, .ref 0), (1, .int a1)] [] g (am_rv r) := by
  unfold fX12_putBack at h
  refine ev_iconst dX12_putBack_0 rfl ?_
  refine ev_istore_n (ls' := [(2, .int (0 : Int32)), (0, .ref 0), (1, .int a1)]) dX12_putBack_1 rfl (by decide) rfl ?_
  refine ev_sub [1, 2, 0] rfl ?_
  exact tfX12_putBack_L2 a1 _ _ _ _ h
theorem tX12_putBack {a1 : Int32} {g : am_G} {r : Unit × am_G} (h : fX12_putBack a1 g = some r) : am_Mt zr MX12_putBack 0 [.ref 0, .int a1] g (am_rv r) := am_Mt.of rfl (Nat.le_of_ble_eq_true rfl) (eX12_putBack _ _ _ h)
def fX12_remember_L11 (k : am_G → Option (Unit × am_G)) (a1 : Int32) : Nat → Int32 → am_G → Option (Unit × am_G)
  | 0, _, _ => none
  | n + 1, x10, g11 =>
    if (2040 : Int32) ≤ x10 then (
      k g11)
    else (
      am_gd (am_in (x10 + (136 : Int32)) 2856) <|
      am_gd (am_in x10 2856) <|
      am_let (am_si g11 5 x10.toNatClampNeg (am_I g11 5 (x10 + (136 : Int32)).toNatClampNeg)) fun g16 =>
      am_let (x10 + (1 : Int32)) fun x17 =>
      fX12_remember_L11 k a1 n x17 g16)
def fX12_remember_L42 (k : am_G → Option (Unit × am_G)) (a1 : Int32) : Nat → Int32 → am_G → Option (Unit × am_G)
  | 0, _, _ => none
  | n + 1, x19, g20 =>
    if (15 : Int32) ≤ x19 then (
      k g20)
    else (
      am_gd (am_in (x19 + (1 : Int32)) 16) <|
      am_gd (am_in x19 16) <|
      am_let (am_si g20 6 x19.toNatClampNeg (am_I g20 6 (x19 + (1 : Int32)).toNatClampNeg)) fun g25 =>
      am_let (x19 + (1 : Int32)) fun x26 =>
      fX12_remember_L42 k a1 n x26 g25)
def fX12_remember (a1 : Int32) (g : am_G) : Option (Unit × am_G) :=
  am_jn (fun  (g2 : am_G) =>
    am_bd (fX12_keepAll (am_I g2 0 8) g2) fun u4 g5 =>
    am_gd (am_in (am_I g5 0 8) 16) <|
    am_let (am_si g5 6 (am_I g5 0 8).toNatClampNeg a1) fun g8 =>
    am_let (am_si g8 0 8 ((am_I g8 0 8) + (1 : Int32))) fun g9 =>
    some ((), g9)) fun j3 =>
  if (am_I g 0 8) = (16 : Int32) then (
    fX12_remember_L11 (fun  (g18 : am_G) =>
      fX12_remember_L42 (fun  (g27 : am_G) =>
        am_let (am_si g27 0 8 ((am_I g27 0 8) - (1 : Int32))) fun g28 =>
        j3 g28) a1 am_fu (0 : Int32) g18) a1 am_fu (0 : Int32) g)
  else (
    j3 g)
set_option maxRecDepth 100000 in
set_option maxHeartbeats 4000000 in
theorem tfX12_remember_L11  {k : am_G → Option (Unit × am_G)} (a1 : Int32) (hk : ∀  (g12 : am_G) (r : Unit × am_G), k  g12 = some r → am_Ev zr MX12_remember 1 40 [(0, .ref 0), (1, .int a1)] [] g12 (am_rv r)) : ∀ (n : Nat) (x10 : Int32) (g11 : am_G) (r : Unit × am_G), fX12_remember_L11 k a1 n x10 g11 = some r → am_Ev zr MX12_remember 1 11 [(0, .ref 0), (1, .int a1), (2, .int x10)] [] g11 (am_rv r) := by
  intro n
  induction n with
  | zero => intro x10 g11 r h; exact nomatch (show (none : Option (Unit × am_G)) = some r from h)
  | succ n ih =>
    intro x10 g11 r h
    rw [fX12_remember_L11] at h
    refine ev_iload_n 2 dX12_remember_11 rfl ?_
    refine ev_sipush dX12_remember_12 rfl ?_
    refine ev_icmp_ge 40 dX12_remember_15 (by decide) (fun c13 => ?_) (fun c13 => ?_)
    · replace h := am_ifp c13 h
      refine ev_sub [0, 1] rfl ?_
      exact hk  _ _ h
    · replace h := am_ifn c13 h
      refine ev_aload_n 0 dX12_remember_18 rfl ?_
      refine ev_gf (v := .ref 5) dX12_remember_19 (fun h9 => (h9.2.1 0 _ rfl).2) 6 (by decide) (by decide) kF_X12_23 (fun h9 => congrArg va_rf (h9.2.2 0 6 5 rfl)) ?_
      refine ev_iload_n 2 dX12_remember_22 rfl ?_
      refine ev_aload_n 0 dX12_remember_23 rfl ?_
      refine ev_gf (v := .ref 5) dX12_remember_24 (fun h9 => (h9.2.1 0 _ rfl).2) 6 (by decide) (by decide) kF_X12_23 (fun h9 => congrArg va_rf (h9.2.2 0 6 5 rfl)) ?_
      refine ev_iload_n 2 dX12_remember_27 rfl ?_
      refine ev_sipush dX12_remember_28 rfl ?_
      refine ev_iadd dX12_remember_31 ?_
      obtain ⟨c14, h⟩ := am_gd_elim h
      refine ev_iald dX12_remember_32 (fun h9 => (h9.2.1 5 _ rfl).2) (am_in_vp c14) ?_
      obtain ⟨c15, h⟩ := am_gd_elim h
      refine ev_iast dX12_remember_33 (fun h9 => (h9.2.1 5 _ rfl).2) (am_in_vp c15) ?_
      refine am_let_elim (P := fun g16 => am_Ev zr MX12_remember 1 34 [(0, .ref 0), (1, .int a1), (2, .int x10)] [] g16 (am_rv r)) h fun g16 h => ?_
      obtain ⟨x17, ex17, h⟩ := am_let_ex h
      refine ev_iinc (ls' := [(2, .int x17), (0, .ref 0), (1, .int a1)]) 2 dX12_remember_34 rfl ex17 (by decide) rfl ?_
      refine ev_goto 11 dX12_remember_37 (by decide) ?_
      refine ev_sub [1, 2, 0] rfl ?_
      exact ih _ _ _ h
set_option maxRecDepth 100000 in
set_option maxHeartbeats 4000000 in
theorem tfX12_remember_L42  {k : am_G → Option (Unit × am_G)} (a1 : Int32) (hk : ∀  (g21 : am_G) (r : Unit × am_G), k  g21 = some r → am_Ev zr MX12_remember 1 68 [(0, .ref 0), (1, .int a1)] [] g21 (am_rv r)) : ∀ (n : Nat) (x19 : Int32) (g20 : am_G) (r : Unit × am_G), fX12_remember_L42 k a1 n x19 g20 = some r → am_Ev zr MX12_remember 1 42 [(0, .ref 0), (1, .int a1), (2, .int x19)] [] g20 (am_rv r) := by
  intro n
  induction n with
  | zero => intro x19 g20 r h; exact nomatch (show (none : Option (Unit × am_G)) = some r from h)
  | succ n ih =>
    intro x19 g20 r h
    rw [fX12_remember_L42] at h
    refine ev_iload_n 2 dX12_remember_42 rfl ?_
    refine ev_bipush dX12_remember_43 rfl ?_
    refine ev_icmp_ge 68 dX12_remember_45 (by decide) (fun c22 => ?_) (fun c22 => ?_)
    · replace h := am_ifp c22 h
      refine ev_sub [0, 1] rfl ?_
      exact hk  _ _ h
    · replace h := am_ifn c22 h
      refine ev_aload_n 0 dX12_remember_48 rfl ?_
      refine ev_gf (v := .ref 6) dX12_remember_49 (fun h9 => (h9.2.1 0 _ rfl).2) 7 (by decide) (by decide) kF_X12_26 (fun h9 => congrArg va_rf (h9.2.2 0 7 6 rfl)) ?_
      refine ev_iload_n 2 dX12_remember_52 rfl ?_
      refine ev_aload_n 0 dX12_remember_53 rfl ?_
      refine ev_gf (v := .ref 6) dX12_remember_54 (fun h9 => (h9.2.1 0 _ rfl).2) 7 (by decide) (by decide) kF_X12_26 (fun h9 => congrArg va_rf (h9.2.2 0 7 6 rfl)) ?_
      refine ev_iload_n 2 dX12_remember_57 rfl ?_
      refine ev_iconst dX12_remember_58 rfl ?_
      refine ev_iadd dX12_remember_59 ?_
      obtain ⟨c23, h⟩ := am_gd_elim h
      refine ev_iald dX12_remember_60 (fun h9 => (h9.2.1 6 _ rfl).2) (am_in_vp c23) ?_
      obtain ⟨c24, h⟩ := am_gd_elim h
      refine ev_iast dX12_remember_61 (fun h9 => (h9.2.1 6 _ rfl).2) (am_in_vp c24) ?_
      refine am_let_elim (P := fun g25 => am_Ev zr MX12_remember 1 62 [(0, .ref 0), (1, .int a1), (2, .int x19)] [] g25 (am_rv r)) h fun g25 h => ?_
      obtain ⟨x26, ex26, h⟩ := am_let_ex h
      refine ev_iinc (ls' := [(2, .int x26), (0, .ref 0), (1, .int a1)]) 2 dX12_remember_62 rfl ex26 (by decide) rfl ?_
      refine ev_goto 42 dX12_remember_65 (by decide) ?_
      refine ev_sub [1, 2, 0] rfl ?_
      exact ih _ _ _ h
set_option maxRecDepth 100000 in
set_option maxHeartbeats 4000000 in
theorem eX12_remember (a1 : Int32) (g : am_G) (r : Unit × am_G) (h : fX12_remember a1 g = some r) : am_Ev zr MX12_remember 1 0 [(0, .ref 0), (1, .int a1)] [] g (am_rv r) := by
  unfold fX12_remember at h
  refine ev_aload_n 0 dX12_remember_0 rfl ?_
  refine ev_gf (v := .int (am_I g 0 8)) dX12_remember_1 (fun h9 => (h9.2.1 0 _ rfl).2) 8 (by decide) (by decide) kF_X12_169 (fun _ => rfl) ?_
  refine ev_bipush dX12_remember_4 rfl ?_
  refine am_jn_elim (fun q9 => ∀  (g2 : am_G) (r : Unit × am_G), q9  g2 = some r → am_Ev zr MX12_remember 1 78 [(0, .ref 0), (1, .int a1)] [] g2 (am_rv r)) h ?_ (fun j3 hj3 h => ?_)
  · intro  g2 r h
    try dsimp only at h
    refine ev_aload_n 0 dX12_remember_78 rfl ?_
    refine ev_aload_n 0 dX12_remember_79 rfl ?_
    refine ev_gf (v := .int (am_I g2 0 8)) dX12_remember_80 (fun h9 => (h9.2.1 0 _ rfl).2) 8 (by decide) (by decide) kF_X12_169 (fun _ => rfl) ?_
    obtain ⟨u4, g5, e6, h⟩ := am_bd_elim h
    refine ev_callVv [.int (am_I g2 0 8)] [] dX12_remember_83 (tX12_keepAll e6) (by decide) mo_X12_keepAll kM_X12_172 ki_X12_keepAll kv_X12_keepAll (fun h9 => (h9.2.1 0 _ rfl).2) (by decide) rfl (Nat.le_of_ble_eq_true rfl) ?_
    refine ev_aload_n 0 dX12_remember_86 rfl ?_
    refine ev_gf (v := .ref 6) dX12_remember_87 (fun h9 => (h9.2.1 0 _ rfl).2) 7 (by decide) (by decide) kF_X12_26 (fun h9 => congrArg va_rf (h9.2.2 0 7 6 rfl)) ?_
    refine ev_aload_n 0 dX12_remember_90 rfl ?_
    refine ev_gf (v := .int (am_I g5 0 8)) dX12_remember_91 (fun h9 => (h9.2.1 0 _ rfl).2) 8 (by decide) (by decide) kF_X12_169 (fun _ => rfl) ?_
    refine ev_iload_n 1 dX12_remember_94 rfl ?_
    obtain ⟨c7, h⟩ := am_gd_elim h
    refine ev_iast dX12_remember_95 (fun h9 => (h9.2.1 6 _ rfl).2) (am_in_vp c7) ?_
    refine am_let_elim (P := fun g8 => am_Ev zr MX12_remember 1 96 [(0, .ref 0), (1, .int a1)] [] g8 (am_rv r)) h fun g8 h => ?_
    refine ev_aload_n 0 dX12_remember_96 rfl ?_
    refine ev_dup dX12_remember_97 rfl ?_
    refine ev_gf (v := .int (am_I g8 0 8)) dX12_remember_98 (fun h9 => (h9.2.1 0 _ rfl).2) 8 (by decide) (by decide) kF_X12_169 (fun _ => rfl) ?_
    refine ev_iconst dX12_remember_101 rfl ?_
    refine ev_iadd dX12_remember_102 ?_
    refine ev_pfi dX12_remember_103 (fun h9 => (h9.2.1 0 _ rfl).2) 8 (by decide) (by decide) kF_X12_169 rfl rfl rfl (fun _ => rfl) ?_
    refine am_let_elim (P := fun g9 => am_Ev zr MX12_remember 1 106 [(0, .ref 0), (1, .int a1)] [] g9 (am_rv r)) h fun g9 h => ?_
    cases h
    exact ev_ret dX12_remember_106 rfl
  · refine ev_icmp_ne 78 dX12_remember_6 (by decide) (fun c1 => ?_) (fun c1 => ?_)
    · replace h := am_ifn c1 h
      refine ev_sub [0, 1] rfl ?_
      exact hj3  _ _ h
    · replace h := am_ifp c1 h
      refine ev_iconst dX12_remember_9 rfl ?_
      refine ev_istore_n (ls' := [(2, .int (0 : Int32)), (0, .ref 0), (1, .int a1)]) dX12_remember_10 rfl (by decide) rfl ?_
      refine ev_sub [1, 2, 0] rfl ?_
      refine tfX12_remember_L11 a1 ?_ _ _ _ _ h
      intro  g18 r h
      try dsimp only at h
      refine ev_iconst dX12_remember_40 rfl ?_
      refine ev_istore_n (ls' := [(2, .int (0 : Int32)), (0, .ref 0), (1, .int a1)]) dX12_remember_41 rfl (by decide) rfl ?_
      refine ev_sub [1, 2, 0] rfl ?_
      refine tfX12_remember_L42 a1 ?_ _ _ _ _ h
      intro  g27 r h
      try dsimp only at h
      refine ev_aload_n 0 dX12_remember_68 rfl ?_
      refine ev_dup dX12_remember_69 rfl ?_
      refine ev_gf (v := .int (am_I g27 0 8)) dX12_remember_70 (fun h9 => (h9.2.1 0 _ rfl).2) 8 (by decide) (by decide) kF_X12_169 (fun _ => rfl) ?_
      refine ev_iconst dX12_remember_73 rfl ?_
      refine ev_isub dX12_remember_74 ?_
      refine ev_pfi dX12_remember_75 (fun h9 => (h9.2.1 0 _ rfl).2) 8 (by decide) (by decide) kF_X12_169 rfl rfl rfl (fun _ => rfl) ?_
      refine am_let_elim (P := fun g28 => am_Ev zr MX12_remember 1 78 [(0, .ref 0), (1, .int a1)] [] g28 (am_rv r)) h fun g28 h => ?_
      refine ev_sub [0, 1] rfl ?_
      exact hj3  _ _ h
theorem tX12_remember {a1 : Int32} {g : am_G} {r : Unit × am_G} (h : fX12_remember a1 g = some r) : am_Mt zr MX12_remember 1 [.ref 0, .int a1] g (am_rv r) := am_Mt.of rfl (Nat.le_of_ble_eq_true rfl) (eX12_remember _ _ _ h)
def fX12_undo (g : am_G) : Option (Int32 × am_G) :=
  am_let (am_si g 0 0 (0 : Int32)) fun g1 =>
  if (am_I g1 0 8) = 0 then (
    am_bd (fX12_tell (-3 : Int32) g1) fun v11 g12 =>
    some (v11, g12))
  else (
    am_let (am_si g1 0 8 ((am_I g1 0 8) - (1 : Int32))) fun g3 =>
    am_bd (fX12_putBack (am_I g3 0 8) g3) fun u4 g5 =>
    am_gd (am_in (am_I g5 0 8) 16) <|
    am_bd (fX12_tell (am_I g5 6 (am_I g5 0 8).toNatClampNeg) g5) fun v8 g9 =>
    some (v8, g9))
set_option maxRecDepth 100000 in
set_option maxHeartbeats 4000000 in
theorem eX12_undo (g : am_G) (r : Int32 × am_G) (h : fX12_undo g = some r) : am_Ev zr MX12_undo 1 0 [(0, .ref 0)] [] g (am_ri r) := by
  unfold fX12_undo at h
  refine ev_aload_n 0 dX12_undo_0 rfl ?_
  refine ev_iconst dX12_undo_1 rfl ?_
  refine ev_pfi dX12_undo_2 (fun h9 => (h9.2.1 0 _ rfl).2) 0 (by decide) (by decide) kF_X12_163 rfl rfl rfl (fun _ => rfl) ?_
  refine am_let_elim (P := fun g1 => am_Ev zr MX12_undo 1 5 [(0, .ref 0)] [] g1 (am_ri r)) h fun g1 h => ?_
  refine ev_aload_n 0 dX12_undo_5 rfl ?_
  refine ev_gf (v := .int (am_I g1 0 8)) dX12_undo_6 (fun h9 => (h9.2.1 0 _ rfl).2) 8 (by decide) (by decide) kF_X12_169 (fun _ => rfl) ?_
  refine ev_if_ne 19 dX12_undo_9 (by decide) (fun c2 => ?_) (fun c2 => ?_)
  · replace h := am_ifn c2 h
    refine ev_aload_n 0 dX12_undo_19 rfl ?_
    refine ev_dup dX12_undo_20 rfl ?_
    refine ev_gf (v := .int (am_I g1 0 8)) dX12_undo_21 (fun h9 => (h9.2.1 0 _ rfl).2) 8 (by decide) (by decide) kF_X12_169 (fun _ => rfl) ?_
    refine ev_iconst dX12_undo_24 rfl ?_
    refine ev_isub dX12_undo_25 ?_
    refine ev_pfi dX12_undo_26 (fun h9 => (h9.2.1 0 _ rfl).2) 8 (by decide) (by decide) kF_X12_169 rfl rfl rfl (fun _ => rfl) ?_
    refine am_let_elim (P := fun g3 => am_Ev zr MX12_undo 1 29 [(0, .ref 0)] [] g3 (am_ri r)) h fun g3 h => ?_
    refine ev_aload_n 0 dX12_undo_29 rfl ?_
    refine ev_aload_n 0 dX12_undo_30 rfl ?_
    refine ev_gf (v := .int (am_I g3 0 8)) dX12_undo_31 (fun h9 => (h9.2.1 0 _ rfl).2) 8 (by decide) (by decide) kF_X12_169 (fun _ => rfl) ?_
    obtain ⟨u4, g5, e6, h⟩ := am_bd_elim h
    refine ev_callVv [.int (am_I g3 0 8)] [] dX12_undo_34 (tX12_putBack e6) (by decide) mo_X12_putBack kM_X12_180 ki_X12_putBack kv_X12_putBack (fun h9 => (h9.2.1 0 _ rfl).2) (by decide) rfl (Nat.le_of_ble_eq_true rfl) ?_
    refine ev_aload_n 0 dX12_undo_37 rfl ?_
    refine ev_aload_n 0 dX12_undo_38 rfl ?_
    refine ev_gf (v := .ref 6) dX12_undo_39 (fun h9 => (h9.2.1 0 _ rfl).2) 7 (by decide) (by decide) kF_X12_26 (fun h9 => congrArg va_rf (h9.2.2 0 7 6 rfl)) ?_
    refine ev_aload_n 0 dX12_undo_42 rfl ?_
    refine ev_gf (v := .int (am_I g5 0 8)) dX12_undo_43 (fun h9 => (h9.2.1 0 _ rfl).2) 8 (by decide) (by decide) kF_X12_169 (fun _ => rfl) ?_
    obtain ⟨c7, h⟩ := am_gd_elim h
    refine ev_iald dX12_undo_46 (fun h9 => (h9.2.1 6 _ rfl).2) (am_in_vp c7) ?_
    obtain ⟨v8, g9, e10, h⟩ := am_bd_elim h
    refine ev_callVi (v := v8) [.int (am_I g5 6 (am_I g5 0 8).toNatClampNeg)] [] dX12_undo_47 (tX12_tell e10) (by decide) mo_X12_tell kM_X12_176 ki_X12_tell kv_X12_tell (fun h9 => (h9.2.1 0 _ rfl).2) (by decide) rfl (Nat.le_of_ble_eq_true rfl) ?_
    cases h
    exact ev_iret dX12_undo_50 rfl
  · replace h := am_ifp c2 h
    refine ev_aload_n 0 dX12_undo_12 rfl ?_
    refine ev_bipush dX12_undo_13 rfl ?_
    obtain ⟨v11, g12, e13, h⟩ := am_bd_elim h
    refine ev_callVi (v := v11) [.int (-3 : Int32)] [] dX12_undo_15 (tX12_tell e13) (by decide) mo_X12_tell kM_X12_176 ki_X12_tell kv_X12_tell (fun h9 => (h9.2.1 0 _ rfl).2) (by decide) rfl (Nat.le_of_ble_eq_true rfl) ?_
    cases h
    exact ev_iret dX12_undo_18 rfl
theorem tX12_undo {g : am_G} {r : Int32 × am_G} (h : fX12_undo g = some r) : am_Mt zr MX12_undo 1 [.ref 0] g (am_ri r) := am_Mt.of rfl (Nat.le_of_ble_eq_true rfl) (eX12_undo _ _ h)
def fX12_image_L23 (a1 : Int32) : Nat → Int32 → am_G → Option (Int32 × am_G)
  | 0, _, _ => none
  | n + 1, x6, g7 =>
    if (5660 : Int32) ≤ x6 then (
      am_gd (am_in a1 2) <|
      am_let (am_si g7 4 a1.toNatClampNeg (1 : Int32)) fun g10 =>
      am_bd (fX12_tell (0 : Int32) g10) fun v11 g12 =>
      some (v11, g12))
    else (
      am_gd (am_in x6 5660) <|
      am_gd (am_in (((5660 : Int32) * a1) + x6) 11320) <|
      am_let (am_si g7 3 (((5660 : Int32) * a1) + x6).toNatClampNeg (am_I g7 2 x6.toNatClampNeg)) fun g16 =>
      am_let (x6 + (1 : Int32)) fun x17 =>
      fX12_image_L23 a1 n x17 g16)
def fX12_image (a1 : Int32) (g : am_G) : Option (Int32 × am_G) :=
  am_let (am_si g 0 0 (0 : Int32)) fun g1 =>
  am_bd (fX12_in a1.toInt64 (0 : Int64) (1 : Int64) g1) fun v2 g3 =>
  if v2 = 0 then (
    am_bd (fX12_tell (-1 : Int32) g3) fun v18 g19 =>
    some (v18, g19))
  else (
    fX12_image_L23 a1 am_fu (0 : Int32) g3)
set_option maxRecDepth 100000 in
set_option maxHeartbeats 4000000 in
theorem tfX12_image_L23  (a1 : Int32) : ∀ (n : Nat) (x6 : Int32) (g7 : am_G) (r : Int32 × am_G), fX12_image_L23 a1 n x6 g7 = some r → am_Ev zr MX12_image 1 23 [(0, .ref 0), (1, .int a1), (2, .int x6)] [] g7 (am_ri r) := by
  intro n
  induction n with
  | zero => intro x6 g7 r h; exact nomatch (show (none : Option (Int32 × am_G)) = some r from h)
  | succ n ih =>
    intro x6 g7 r h
    rw [fX12_image_L23] at h
    refine ev_iload_n 2 dX12_image_23 rfl ?_
    refine ev_sipush dX12_image_24 rfl ?_
    refine ev_icmp_ge 54 dX12_image_27 (by decide) (fun c8 => ?_) (fun c8 => ?_)
    · replace h := am_ifp c8 h
      refine ev_aload_n 0 dX12_image_54 rfl ?_
      refine ev_gf (v := .ref 4) dX12_image_55 (fun h9 => (h9.2.1 0 _ rfl).2) 5 (by decide) (by decide) kF_X12_19 (fun h9 => congrArg va_rf (h9.2.2 0 5 4 rfl)) ?_
      refine ev_iload_n 1 dX12_image_58 rfl ?_
      refine ev_iconst dX12_image_59 rfl ?_
      obtain ⟨c9, h⟩ := am_gd_elim h
      refine ev_zast' dX12_image_60 (fun h9 => (h9.2.1 4 _ rfl).2) rfl (am_in_vp c9) ?_
      refine am_let_elim (P := fun g10 => am_Ev zr MX12_image 1 61 [(0, .ref 0), (1, .int a1), (2, .int x6)] [] g10 (am_ri r)) h fun g10 h => ?_
      refine ev_aload_n 0 dX12_image_61 rfl ?_
      refine ev_iconst dX12_image_62 rfl ?_
      obtain ⟨v11, g12, e13, h⟩ := am_bd_elim h
      refine ev_callVi (v := v11) [.int (0 : Int32)] [] dX12_image_63 (tX12_tell e13) (by decide) mo_X12_tell kM_X12_176 ki_X12_tell kv_X12_tell (fun h9 => (h9.2.1 0 _ rfl).2) (by decide) rfl (Nat.le_of_ble_eq_true rfl) ?_
      cases h
      exact ev_iret dX12_image_66 rfl
    · replace h := am_ifn c8 h
      refine ev_aload_n 0 dX12_image_30 rfl ?_
      refine ev_gf (v := .ref 3) dX12_image_31 (fun h9 => (h9.2.1 0 _ rfl).2) 4 (by decide) (by decide) kF_X12_16 (fun h9 => congrArg va_rf (h9.2.2 0 4 3 rfl)) ?_
      refine ev_sipush dX12_image_34 rfl ?_
      refine ev_iload_n 1 dX12_image_37 rfl ?_
      refine ev_imul dX12_image_38 ?_
      refine ev_iload_n 2 dX12_image_39 rfl ?_
      refine ev_iadd dX12_image_40 ?_
      refine ev_aload_n 0 dX12_image_41 rfl ?_
      refine ev_gf (v := .ref 2) dX12_image_42 (fun h9 => (h9.2.1 0 _ rfl).2) 3 (by decide) (by decide) kF_X12_13 (fun h9 => congrArg va_rf (h9.2.2 0 3 2 rfl)) ?_
      refine ev_iload_n 2 dX12_image_45 rfl ?_
      obtain ⟨c14, h⟩ := am_gd_elim h
      refine ev_iald dX12_image_46 (fun h9 => (h9.2.1 2 _ rfl).2) (am_in_vp c14) ?_
      obtain ⟨c15, h⟩ := am_gd_elim h
      refine ev_iast dX12_image_47 (fun h9 => (h9.2.1 3 _ rfl).2) (am_in_vp c15) ?_
      refine am_let_elim (P := fun g16 => am_Ev zr MX12_image 1 48 [(0, .ref 0), (1, .int a1), (2, .int x6)] [] g16 (am_ri r)) h fun g16 h => ?_
      obtain ⟨x17, ex17, h⟩ := am_let_ex h
      refine ev_iinc (ls' := [(2, .int x17), (0, .ref 0), (1, .int a1)]) 2 dX12_image_48 rfl ex17 (by decide) rfl ?_
      refine ev_goto 23 dX12_image_51 (by decide) ?_
      refine ev_sub [1, 2, 0] rfl ?_
      exact ih _ _ _ h
set_option maxRecDepth 100000 in
set_option maxHeartbeats 4000000 in
theorem eX12_image (a1 : Int32) (g : am_G) (r : Int32 × am_G) (h : fX12_image a1 g = some r) : am_Ev zr MX12_image 1 0 [(0, .ref 0), (1, .int a1)] [] g (am_ri r) := by
  unfold fX12_image at h
  refine ev_aload_n 0 dX12_image_0 rfl ?_
  refine ev_iconst dX12_image_1 rfl ?_
  refine ev_pfi dX12_image_2 (fun h9 => (h9.2.1 0 _ rfl).2) 0 (by decide) (by decide) kF_X12_163 rfl rfl rfl (fun _ => rfl) ?_
  refine am_let_elim (P := fun g1 => am_Ev zr MX12_image 1 5 [(0, .ref 0), (1, .int a1)] [] g1 (am_ri r)) h fun g1 h => ?_
  refine ev_iload_n 1 dX12_image_5 rfl ?_
  refine ev_i2l dX12_image_6 ?_
  refine ev_lconst dX12_image_7 rfl ?_
  refine ev_lconst dX12_image_8 rfl ?_
  obtain ⟨v2, g3, e4, h⟩ := am_bd_elim h
  refine ev_callSi (v := v2) [.long a1.toInt64, .long (0 : Int64), .long (1 : Int64)] [] dX12_image_9 (tX12_in e4) (by decide) mo_X12_in kM_X12_183 ks_X12_in (Nat.le_of_ble_eq_true rfl) ?_
  refine ev_if_ne 21 dX12_image_12 (by decide) (fun c5 => ?_) (fun c5 => ?_)
  · replace h := am_ifn c5 h
    refine ev_iconst dX12_image_21 rfl ?_
    refine ev_istore_n (ls' := [(2, .int (0 : Int32)), (0, .ref 0), (1, .int a1)]) dX12_image_22 rfl (by decide) rfl ?_
    refine ev_sub [1, 2, 0] rfl ?_
    exact tfX12_image_L23 a1 _ _ _ _ h
  · replace h := am_ifp c5 h
    refine ev_aload_n 0 dX12_image_15 rfl ?_
    refine ev_iconst dX12_image_16 rfl ?_
    obtain ⟨v18, g19, e20, h⟩ := am_bd_elim h
    refine ev_callVi (v := v18) [.int (-1 : Int32)] [] dX12_image_17 (tX12_tell e20) (by decide) mo_X12_tell kM_X12_176 ki_X12_tell kv_X12_tell (fun h9 => (h9.2.1 0 _ rfl).2) (by decide) rfl (Nat.le_of_ble_eq_true rfl) ?_
    cases h
    exact ev_iret dX12_image_20 rfl
theorem tX12_image {a1 : Int32} {g : am_G} {r : Int32 × am_G} (h : fX12_image a1 g = some r) : am_Mt zr MX12_image 1 [.ref 0, .int a1] g (am_ri r) := am_Mt.of rfl (Nat.le_of_ble_eq_true rfl) (eX12_image _ _ _ h)
def fX12_back_L39 (a1 : Int32) : Nat → Int32 → am_G → Option (Int32 × am_G)
  | 0, _, _ => none
  | n + 1, x8, g9 =>
    if (5660 : Int32) ≤ x8 then (
      am_let (am_si g9 0 8 (0 : Int32)) fun g11 =>
      am_bd (fX12_tell (0 : Int32) g11) fun v12 g13 =>
      some (v12, g13))
    else (
      am_gd (am_in (((5660 : Int32) * a1) + x8) 11320) <|
      am_gd (am_in x8 5660) <|
      am_let (am_si g9 2 x8.toNatClampNeg (am_I g9 3 (((5660 : Int32) * a1) + x8).toNatClampNeg)) fun g17 =>
      am_let (x8 + (1 : Int32)) fun x18 =>
      fX12_back_L39 a1 n x18 g17)
def fX12_back (a1 : Int32) (g : am_G) : Option (Int32 × am_G) :=
  am_let (am_si g 0 0 (0 : Int32)) fun g1 =>
  am_bd (fX12_in a1.toInt64 (0 : Int64) (1 : Int64) g1) fun v2 g3 =>
  if v2 = 0 then (
    am_bd (fX12_tell (-1 : Int32) g3) fun v22 g23 =>
    some (v22, g23))
  else (
    am_gd (am_in a1 2) <|
    if (am_I g3 4 a1.toNatClampNeg) = 0 then (
      am_bd (fX12_tell (-2 : Int32) g3) fun v19 g20 =>
      some (v19, g20))
    else (
      fX12_back_L39 a1 am_fu (0 : Int32) g3))
set_option maxRecDepth 100000 in
set_option maxHeartbeats 4000000 in
theorem tfX12_back_L39  (a1 : Int32) : ∀ (n : Nat) (x8 : Int32) (g9 : am_G) (r : Int32 × am_G), fX12_back_L39 a1 n x8 g9 = some r → am_Ev zr MX12_back 1 39 [(0, .ref 0), (1, .int a1), (2, .int x8)] [] g9 (am_ri r) := by
  intro n
  induction n with
  | zero => intro x8 g9 r h; exact nomatch (show (none : Option (Int32 × am_G)) = some r from h)
  | succ n ih =>
    intro x8 g9 r h
    rw [fX12_back_L39] at h
    refine ev_iload_n 2 dX12_back_39 rfl ?_
    refine ev_sipush dX12_back_40 rfl ?_
    refine ev_icmp_ge 70 dX12_back_43 (by decide) (fun c10 => ?_) (fun c10 => ?_)
    · replace h := am_ifp c10 h
      refine ev_aload_n 0 dX12_back_70 rfl ?_
      refine ev_iconst dX12_back_71 rfl ?_
      refine ev_pfi dX12_back_72 (fun h9 => (h9.2.1 0 _ rfl).2) 8 (by decide) (by decide) kF_X12_169 rfl rfl rfl (fun _ => rfl) ?_
      refine am_let_elim (P := fun g11 => am_Ev zr MX12_back 1 75 [(0, .ref 0), (1, .int a1), (2, .int x8)] [] g11 (am_ri r)) h fun g11 h => ?_
      refine ev_aload_n 0 dX12_back_75 rfl ?_
      refine ev_iconst dX12_back_76 rfl ?_
      obtain ⟨v12, g13, e14, h⟩ := am_bd_elim h
      refine ev_callVi (v := v12) [.int (0 : Int32)] [] dX12_back_77 (tX12_tell e14) (by decide) mo_X12_tell kM_X12_176 ki_X12_tell kv_X12_tell (fun h9 => (h9.2.1 0 _ rfl).2) (by decide) rfl (Nat.le_of_ble_eq_true rfl) ?_
      cases h
      exact ev_iret dX12_back_80 rfl
    · replace h := am_ifn c10 h
      refine ev_aload_n 0 dX12_back_46 rfl ?_
      refine ev_gf (v := .ref 2) dX12_back_47 (fun h9 => (h9.2.1 0 _ rfl).2) 3 (by decide) (by decide) kF_X12_13 (fun h9 => congrArg va_rf (h9.2.2 0 3 2 rfl)) ?_
      refine ev_iload_n 2 dX12_back_50 rfl ?_
      refine ev_aload_n 0 dX12_back_51 rfl ?_
      refine ev_gf (v := .ref 3) dX12_back_52 (fun h9 => (h9.2.1 0 _ rfl).2) 4 (by decide) (by decide) kF_X12_16 (fun h9 => congrArg va_rf (h9.2.2 0 4 3 rfl)) ?_
      refine ev_sipush dX12_back_55 rfl ?_
      refine ev_iload_n 1 dX12_back_58 rfl ?_
      refine ev_imul dX12_back_59 ?_
      refine ev_iload_n 2 dX12_back_60 rfl ?_
      refine ev_iadd dX12_back_61 ?_
      obtain ⟨c15, h⟩ := am_gd_elim h
      refine ev_iald dX12_back_62 (fun h9 => (h9.2.1 3 _ rfl).2) (am_in_vp c15) ?_
      obtain ⟨c16, h⟩ := am_gd_elim h
      refine ev_iast dX12_back_63 (fun h9 => (h9.2.1 2 _ rfl).2) (am_in_vp c16) ?_
      refine am_let_elim (P := fun g17 => am_Ev zr MX12_back 1 64 [(0, .ref 0), (1, .int a1), (2, .int x8)] [] g17 (am_ri r)) h fun g17 h => ?_
      obtain ⟨x18, ex18, h⟩ := am_let_ex h
      refine ev_iinc (ls' := [(2, .int x18), (0, .ref 0), (1, .int a1)]) 2 dX12_back_64 rfl ex18 (by decide) rfl ?_
      refine ev_goto 39 dX12_back_67 (by decide) ?_
      refine ev_sub [1, 2, 0] rfl ?_
      exact ih _ _ _ h
set_option maxRecDepth 100000 in
set_option maxHeartbeats 4000000 in
theorem eX12_back (a1 : Int32) (g : am_G) (r : Int32 × am_G) (h : fX12_back a1 g = some r) : am_Ev zr MX12_back 1 0 [(0, .ref 0), (1, .int a1)] [] g (am_ri r) := by
  unfold fX12_back at h
  refine ev_aload_n 0 dX12_back_0 rfl ?_
  refine ev_iconst dX12_back_1 rfl ?_
  refine ev_pfi dX12_back_2 (fun h9 => (h9.2.1 0 _ rfl).2) 0 (by decide) (by decide) kF_X12_163 rfl rfl rfl (fun _ => rfl) ?_
  refine am_let_elim (P := fun g1 => am_Ev zr MX12_back 1 5 [(0, .ref 0), (1, .int a1)] [] g1 (am_ri r)) h fun g1 h => ?_
  refine ev_iload_n 1 dX12_back_5 rfl ?_
  refine ev_i2l dX12_back_6 ?_
  refine ev_lconst dX12_back_7 rfl ?_
  refine ev_lconst dX12_back_8 rfl ?_
  obtain ⟨v2, g3, e4, h⟩ := am_bd_elim h
  refine ev_callSi (v := v2) [.long a1.toInt64, .long (0 : Int64), .long (1 : Int64)] [] dX12_back_9 (tX12_in e4) (by decide) mo_X12_in kM_X12_183 ks_X12_in (Nat.le_of_ble_eq_true rfl) ?_
  refine ev_if_ne 21 dX12_back_12 (by decide) (fun c5 => ?_) (fun c5 => ?_)
  · replace h := am_ifn c5 h
    refine ev_aload_n 0 dX12_back_21 rfl ?_
    refine ev_gf (v := .ref 4) dX12_back_22 (fun h9 => (h9.2.1 0 _ rfl).2) 5 (by decide) (by decide) kF_X12_19 (fun h9 => congrArg va_rf (h9.2.2 0 5 4 rfl)) ?_
    refine ev_iload_n 1 dX12_back_25 rfl ?_
    obtain ⟨c6, h⟩ := am_gd_elim h
    refine ev_zald dX12_back_26 (fun h9 => (h9.2.1 4 _ rfl).2) (am_in_vp c6) ?_
    refine ev_if_ne 37 dX12_back_27 (by decide) (fun c7 => ?_) (fun c7 => ?_)
    · replace h := am_ifn c7 h
      refine ev_iconst dX12_back_37 rfl ?_
      refine ev_istore_n (ls' := [(2, .int (0 : Int32)), (0, .ref 0), (1, .int a1)]) dX12_back_38 rfl (by decide) rfl ?_
      refine ev_sub [1, 2, 0] rfl ?_
      exact tfX12_back_L39 a1 _ _ _ _ h
    · replace h := am_ifp c7 h
      refine ev_aload_n 0 dX12_back_30 rfl ?_
      refine ev_bipush dX12_back_31 rfl ?_
      obtain ⟨v19, g20, e21, h⟩ := am_bd_elim h
      refine ev_callVi (v := v19) [.int (-2 : Int32)] [] dX12_back_33 (tX12_tell e21) (by decide) mo_X12_tell kM_X12_176 ki_X12_tell kv_X12_tell (fun h9 => (h9.2.1 0 _ rfl).2) (by decide) rfl (Nat.le_of_ble_eq_true rfl) ?_
      cases h
      exact ev_iret dX12_back_36 rfl
  · replace h := am_ifp c5 h
    refine ev_aload_n 0 dX12_back_15 rfl ?_
    refine ev_iconst dX12_back_16 rfl ?_
    obtain ⟨v22, g23, e24, h⟩ := am_bd_elim h
    refine ev_callVi (v := v22) [.int (-1 : Int32)] [] dX12_back_17 (tX12_tell e24) (by decide) mo_X12_tell kM_X12_176 ki_X12_tell kv_X12_tell (fun h9 => (h9.2.1 0 _ rfl).2) (by decide) rfl (Nat.le_of_ble_eq_true rfl) ?_
    cases h
    exact ev_iret dX12_back_20 rfl
theorem tX12_back {a1 : Int32} {g : am_G} {r : Int32 × am_G} (h : fX12_back a1 g = some r) : am_Mt zr MX12_back 1 [.ref 0, .int a1] g (am_ri r) := am_Mt.of rfl (Nat.le_of_ble_eq_true rfl) (eX12_back _ _ _ h)
def fX12_isSlope (a0 : Int32) (g : am_G) : Option (Int32 × am_G) :=
  am_bd (fX12_in a0.toInt64 (0 : Int64) (5 : Int64) g) fun v1 g2 =>
  am_gd (am_zb v1) <|
  some (v1, g2)
set_option maxRecDepth 100000 in
set_option maxHeartbeats 4000000 in
theorem eX12_isSlope (a0 : Int32) (g : am_G) (r : Int32 × am_G) (h : fX12_isSlope a0 g = some r) : am_Ev zr MX12_isSlope 1 0 [(0, .int a0)] [] g (am_ri r) := by
  unfold fX12_isSlope at h
  refine ev_iload_n 0 dX12_isSlope_0 rfl ?_
  refine ev_i2l dX12_isSlope_1 ?_
  refine ev_lconst dX12_isSlope_2 rfl ?_
  refine ev_ldc2 dX12_isSlope_3 kL_X12_187 ?_
  obtain ⟨v1, g2, e3, h⟩ := am_bd_elim h
  refine ev_callSi (v := v1) [.long a0.toInt64, .long (0 : Int64), .long (5 : Int64)] [] dX12_isSlope_6 (tX12_in e3) (by decide) mo_X12_in kM_X12_183 ks_X12_in (Nat.le_of_ble_eq_true rfl) ?_
  obtain ⟨c4, h⟩ := am_gd_elim h
  cases h
  exact ev_zret dX12_isSlope_9 rfl (am_zb_n c4)
theorem tX12_isSlope {a0 : Int32} {g : am_G} {r : Int32 × am_G} (h : fX12_isSlope a0 g = some r) : am_Mt zr MX12_isSlope 1 [.int a0] g (am_ri r) := am_Mt.of rfl (Nat.le_of_ble_eq_true rfl) (eX12_isSlope _ _ _ h)
def fX12_isPlace (a0 : Int32) (g : am_G) : Option (Int32 × am_G) :=
  am_bd (fX12_in a0.toInt64 (0 : Int64) (3 : Int64) g) fun v1 g2 =>
  am_gd (am_zb v1) <|
  some (v1, g2)
set_option maxRecDepth 100000 in
set_option maxHeartbeats 4000000 in
theorem eX12_isPlace (a0 : Int32) (g : am_G) (r : Int32 × am_G) (h : fX12_isPlace a0 g = some r) : am_Ev zr MX12_isPlace 1 0 [(0, .int a0)] [] g (am_ri r) := by
  unfold fX12_isPlace at h
  refine ev_iload_n 0 dX12_isPlace_0 rfl ?_
  refine ev_i2l dX12_isPlace_1 ?_
  refine ev_lconst dX12_isPlace_2 rfl ?_
  refine ev_ldc2 dX12_isPlace_3 kL_X12_189 ?_
  obtain ⟨v1, g2, e3, h⟩ := am_bd_elim h
  refine ev_callSi (v := v1) [.long a0.toInt64, .long (0 : Int64), .long (3 : Int64)] [] dX12_isPlace_6 (tX12_in e3) (by decide) mo_X12_in kM_X12_183 ks_X12_in (Nat.le_of_ble_eq_true rfl) ?_
  obtain ⟨c4, h⟩ := am_gd_elim h
  cases h
  exact ev_zret dX12_isPlace_9 rfl (am_zb_n c4)
theorem tX12_isPlace {a0 : Int32} {g : am_G} {r : Int32 × am_G} (h : fX12_isPlace a0 g = some r) : am_Mt zr MX12_isPlace 1 [.int a0] g (am_ri r) := am_Mt.of rfl (Nat.le_of_ble_eq_true rfl) (eX12_isPlace _ _ _ h)
def fX12_isLoud (a0 : Int32) (g : am_G) : Option (Int32 × am_G) :=
  am_bd (fX12_in a0.toInt64 (1 : Int64) (3 : Int64) g) fun v1 g2 =>
  am_gd (am_zb v1) <|
  some (v1, g2)
set_option maxRecDepth 100000 in
set_option maxHeartbeats 4000000 in
theorem eX12_isLoud (a0 : Int32) (g : am_G) (r : Int32 × am_G) (h : fX12_isLoud a0 g = some r) : am_Ev zr MX12_isLoud 1 0 [(0, .int a0)] [] g (am_ri r) := by
  unfold fX12_isLoud at h
  refine ev_iload_n 0 dX12_isLoud_0 rfl ?_
  refine ev_i2l dX12_isLoud_1 ?_
  refine ev_lconst dX12_isLoud_2 rfl ?_
  refine ev_ldc2 dX12_isLoud_3 kL_X12_189 ?_
  obtain ⟨v1, g2, e3, h⟩ := am_bd_elim h
  refine ev_callSi (v := v1) [.long a0.toInt64, .long (1 : Int64), .long (3 : Int64)] [] dX12_isLoud_6 (tX12_in e3) (by decide) mo_X12_in kM_X12_183 ks_X12_in (Nat.le_of_ble_eq_true rfl) ?_
  obtain ⟨c4, h⟩ := am_gd_elim h
  cases h
  exact ev_zret dX12_isLoud_9 rfl (am_zb_n c4)
theorem tX12_isLoud {a0 : Int32} {g : am_G} {r : Int32 × am_G} (h : fX12_isLoud a0 g = some r) : am_Mt zr MX12_isLoud 1 [.int a0] g (am_ri r) := am_Mt.of rfl (Nat.le_of_ble_eq_true rfl) (eX12_isLoud _ _ _ h)
def fX12_isWord1 (a1 : Int32) (g : am_G) : Option (Int32 × am_G) :=
  am_gd (am_in (0 : Int32) 5660) <|
  am_bd (fX12_in a1.toInt64 (0 : Int64) (((am_I g 2 (0 : Int32).toNatClampNeg).toInt64) - (1 : Int64)) g) fun v2 g3 =>
  am_gd (am_zb v2) <|
  some (v2, g3)
set_option maxRecDepth 100000 in
set_option maxHeartbeats 4000000 in
theorem eX12_isWord1 (a1 : Int32) (g : am_G) (r : Int32 × am_G) (h : fX12_isWord1 a1 g = some r) : am_Ev zr MX12_isWord1 1 0 [(0, .ref 0), (1, .int a1)] [] g (am_ri r) := by
  unfold fX12_isWord1 at h
  refine ev_iload_n 1 dX12_isWord1_0 rfl ?_
  refine ev_i2l dX12_isWord1_1 ?_
  refine ev_lconst dX12_isWord1_2 rfl ?_
  refine ev_aload_n 0 dX12_isWord1_3 rfl ?_
  refine ev_gf (v := .ref 2) dX12_isWord1_4 (fun h9 => (h9.2.1 0 _ rfl).2) 3 (by decide) (by decide) kF_X12_13 (fun h9 => congrArg va_rf (h9.2.2 0 3 2 rfl)) ?_
  refine ev_iconst dX12_isWord1_7 rfl ?_
  obtain ⟨c1, h⟩ := am_gd_elim h
  refine ev_iald dX12_isWord1_8 (fun h9 => (h9.2.1 2 _ rfl).2) (am_in_vp c1) ?_
  refine ev_i2l dX12_isWord1_9 ?_
  refine ev_lconst dX12_isWord1_10 rfl ?_
  refine ev_lsub dX12_isWord1_11 ?_
  obtain ⟨v2, g3, e4, h⟩ := am_bd_elim h
  refine ev_callSi (v := v2) [.long a1.toInt64, .long (0 : Int64), .long (((am_I g 2 (0 : Int32).toNatClampNeg).toInt64) - (1 : Int64))] [] dX12_isWord1_12 (tX12_in e4) (by decide) mo_X12_in kM_X12_183 ks_X12_in (Nat.le_of_ble_eq_true rfl) ?_
  obtain ⟨c5, h⟩ := am_gd_elim h
  cases h
  exact ev_zret dX12_isWord1_15 rfl (am_zb_n c5)
theorem tX12_isWord1 {a1 : Int32} {g : am_G} {r : Int32 × am_G} (h : fX12_isWord1 a1 g = some r) : am_Mt zr MX12_isWord1 1 [.ref 0, .int a1] g (am_ri r) := am_Mt.of rfl (Nat.le_of_ble_eq_true rfl) (eX12_isWord1 _ _ _ h)
def fX12_ofWord (a1 : Int32) (a2 : Int32) (g : am_G) : Option (Int32 × am_G) :=
  am_gd (am_in (((142 : Int32) + ((4 : Int32) * a1)) + a2) 5660) <|
  some (am_I g 2 (((142 : Int32) + ((4 : Int32) * a1)) + a2).toNatClampNeg, g)
set_option maxRecDepth 100000 in
set_option maxHeartbeats 4000000 in
theorem eX12_ofWord (a1 : Int32) (a2 : Int32) (g : am_G) (r : Int32 × am_G) (h : fX12_ofWord a1 a2 g = some r) : am_Ev zr MX12_ofWord 0 0 [(0, .ref 0), (1, .int a1), (2, .int a2)] [] g (am_ri r) := by
  unfold fX12_ofWord at h
  refine ev_aload_n 0 dX12_ofWord_0 rfl ?_
  refine ev_gf (v := .ref 2) dX12_ofWord_1 (fun h9 => (h9.2.1 0 _ rfl).2) 3 (by decide) (by decide) kF_X12_13 (fun h9 => congrArg va_rf (h9.2.2 0 3 2 rfl)) ?_
  refine ev_sipush dX12_ofWord_4 rfl ?_
  refine ev_iconst dX12_ofWord_7 rfl ?_
  refine ev_iload_n 1 dX12_ofWord_8 rfl ?_
  refine ev_imul dX12_ofWord_9 ?_
  refine ev_iadd dX12_ofWord_10 ?_
  refine ev_iload_n 2 dX12_ofWord_11 rfl ?_
  refine ev_iadd dX12_ofWord_12 ?_
  obtain ⟨c1, h⟩ := am_gd_elim h
  refine ev_iald dX12_ofWord_13 (fun h9 => (h9.2.1 2 _ rfl).2) (am_in_vp c1) ?_
  cases h
  exact ev_iret dX12_ofWord_14 rfl
theorem tX12_ofWord {a1 : Int32} {a2 : Int32} {g : am_G} {r : Int32 × am_G} (h : fX12_ofWord a1 a2 g = some r) : am_Mt zr MX12_ofWord 0 [.ref 0, .int a1, .int a2] g (am_ri r) := am_Mt.of rfl (Nat.le_of_ble_eq_true rfl) (eX12_ofWord _ _ _ _ h)
def fX12_day (g : am_G) : Option (Int32 × am_G) :=
  am_gd (am_in (6 : Int32) 5660) <|
  some (am_I g 2 (6 : Int32).toNatClampNeg, g)
set_option maxRecDepth 100000 in
set_option maxHeartbeats 4000000 in
theorem eX12_day (g : am_G) (r : Int32 × am_G) (h : fX12_day g = some r) : am_Ev zr MX12_day 0 0 [(0, .ref 0)] [] g (am_ri r) := by
  unfold fX12_day at h
  refine ev_aload_n 0 dX12_day_0 rfl ?_
  refine ev_gf (v := .ref 2) dX12_day_1 (fun h9 => (h9.2.1 0 _ rfl).2) 3 (by decide) (by decide) kF_X12_13 (fun h9 => congrArg va_rf (h9.2.2 0 3 2 rfl)) ?_
  refine ev_bipush dX12_day_4 rfl ?_
  obtain ⟨c1, h⟩ := am_gd_elim h
  refine ev_iald dX12_day_6 (fun h9 => (h9.2.1 2 _ rfl).2) (am_in_vp c1) ?_
  cases h
  exact ev_iret dX12_day_7 rfl
theorem tX12_day {g : am_G} {r : Int32 × am_G} (h : fX12_day g = some r) : am_Mt zr MX12_day 0 [.ref 0] g (am_ri r) := am_Mt.of rfl (Nat.le_of_ble_eq_true rfl) (eX12_day _ _ h)
def fX12_canBe (a0 : Int32) (a1 : Int32) (a2 : Int32) (g : am_G) : Option (Int32 × am_G) :=
  if a1 = (0 : Int32) then (
    am_bd (fX12_in a2.toInt64 (0 : Int64) (9999 : Int64) g) fun v1 g2 =>
    am_gd (am_zb v1) <|
    some (v1, g2))
  else
  if a1 = (1 : Int32) then (
    am_bd (fX12_in a2.toInt64 (1 : Int64) (9999 : Int64) g) fun v5 g6 =>
    am_gd (am_zb v5) <|
    some (v5, g6))
  else
  if a1 = (2 : Int32) then (
    if a2 = (-1 : Int32) then (
      some ((1 : Int32), g))
    else (
      am_bd (fX12_in a2.toInt64 (a0.toInt64 + (1 : Int64)) (5 : Int64) g) fun v10 g11 =>
      if v10 = 0 then (
        some ((0 : Int32), g11))
      else (
        some ((1 : Int32), g11))))
  else
  if a1 = (3 : Int32) then (
    am_bd (fX12_in a2.toInt64 (0 : Int64) (1 : Int64) g) fun v14 g15 =>
    am_gd (am_zb v14) <|
    some (v14, g15))
  else (
    am_bd (fX12_in a1.toInt64 (4 : Int64) (7 : Int64) g) fun v18 g19 =>
    if v18 = 0 then (
      some ((0 : Int32), g19))
    else (
      am_bd (fX12_in a2.toInt64 (0 : Int64) (9 : Int64) g19) fun v22 g23 =>
      if v22 = 0 then (
        some ((0 : Int32), g23))
      else (
        some ((1 : Int32), g23))))
set_option maxRecDepth 100000 in
set_option maxHeartbeats 4000000 in
theorem eX12_canBe (a0 : Int32) (a1 : Int32) (a2 : Int32) (g : am_G) (r : Int32 × am_G) (h : fX12_canBe a0 a1 a2 g = some r) : am_Ev zr MX12_canBe 1 0 [(0, .int a0), (1, .int a1), (2, .int a2)] [] g (am_ri r) := by
  unfold fX12_canBe at h
  refine ev_iload_n 1 dX12_canBe_0 rfl ?_
  by_cases c26 : a1 = (0 : Int32)
  · replace h := am_ifp c26 h
    refine ev_tableIn 32 dX12_canBe_1 (by rw [c26]; decide) (by rw [c26]; decide) (by rw [c26]; rfl) (by decide) ?_
    refine ev_iload_n 2 dX12_canBe_32 rfl ?_
    refine ev_i2l dX12_canBe_33 ?_
    refine ev_lconst dX12_canBe_34 rfl ?_
    refine ev_ldc2 dX12_canBe_35 kL_X12_191 ?_
    obtain ⟨v1, g2, e3, h⟩ := am_bd_elim h
    refine ev_callSi (v := v1) [.long a2.toInt64, .long (0 : Int64), .long (9999 : Int64)] [] dX12_canBe_38 (tX12_in e3) (by decide) mo_X12_in kM_X12_183 ks_X12_in (Nat.le_of_ble_eq_true rfl) ?_
    obtain ⟨c4, h⟩ := am_gd_elim h
    cases h
    exact ev_zret dX12_canBe_41 rfl (am_zb_n c4)
  replace h := am_ifn c26 h
  by_cases c27 : a1 = (1 : Int32)
  · replace h := am_ifp c27 h
    refine ev_tableIn 42 dX12_canBe_1 (by rw [c27]; decide) (by rw [c27]; decide) (by rw [c27]; rfl) (by decide) ?_
    refine ev_iload_n 2 dX12_canBe_42 rfl ?_
    refine ev_i2l dX12_canBe_43 ?_
    refine ev_lconst dX12_canBe_44 rfl ?_
    refine ev_ldc2 dX12_canBe_45 kL_X12_191 ?_
    obtain ⟨v5, g6, e7, h⟩ := am_bd_elim h
    refine ev_callSi (v := v5) [.long a2.toInt64, .long (1 : Int64), .long (9999 : Int64)] [] dX12_canBe_48 (tX12_in e7) (by decide) mo_X12_in kM_X12_183 ks_X12_in (Nat.le_of_ble_eq_true rfl) ?_
    obtain ⟨c8, h⟩ := am_gd_elim h
    cases h
    exact ev_zret dX12_canBe_51 rfl (am_zb_n c8)
  replace h := am_ifn c27 h
  by_cases c28 : a1 = (2 : Int32)
  · replace h := am_ifp c28 h
    refine ev_tableIn 52 dX12_canBe_1 (by rw [c28]; decide) (by rw [c28]; decide) (by rw [c28]; rfl) (by decide) ?_
    refine ev_iload_n 2 dX12_canBe_52 rfl ?_
    refine ev_iconst dX12_canBe_53 rfl ?_
    refine ev_icmp_eq 72 dX12_canBe_54 (by decide) (fun c9 => ?_) (fun c9 => ?_)
    · replace h := am_ifp c9 h
      refine ev_iconst dX12_canBe_72 rfl ?_
      refine ev_goto 77 dX12_canBe_73 (by decide) ?_
      cases h
      exact ev_zret dX12_canBe_77 rfl rfl
    · replace h := am_ifn c9 h
      refine ev_iload_n 2 dX12_canBe_57 rfl ?_
      refine ev_i2l dX12_canBe_58 ?_
      refine ev_iload_n 0 dX12_canBe_59 rfl ?_
      refine ev_i2l dX12_canBe_60 ?_
      refine ev_lconst dX12_canBe_61 rfl ?_
      refine ev_ladd dX12_canBe_62 ?_
      refine ev_ldc2 dX12_canBe_63 kL_X12_187 ?_
      obtain ⟨v10, g11, e12, h⟩ := am_bd_elim h
      refine ev_callSi (v := v10) [.long a2.toInt64, .long (a0.toInt64 + (1 : Int64)), .long (5 : Int64)] [] dX12_canBe_66 (tX12_in e12) (by decide) mo_X12_in kM_X12_183 ks_X12_in (Nat.le_of_ble_eq_true rfl) ?_
      refine ev_if_eq 76 dX12_canBe_69 (by decide) (fun c13 => ?_) (fun c13 => ?_)
      · replace h := am_ifp c13 h
        refine ev_iconst dX12_canBe_76 rfl ?_
        cases h
        exact ev_zret dX12_canBe_77 rfl rfl
      · replace h := am_ifn c13 h
        refine ev_iconst dX12_canBe_72 rfl ?_
        refine ev_goto 77 dX12_canBe_73 (by decide) ?_
        cases h
        exact ev_zret dX12_canBe_77 rfl rfl
  replace h := am_ifn c28 h
  by_cases c29 : a1 = (3 : Int32)
  · replace h := am_ifp c29 h
    refine ev_tableIn 78 dX12_canBe_1 (by rw [c29]; decide) (by rw [c29]; decide) (by rw [c29]; rfl) (by decide) ?_
    refine ev_iload_n 2 dX12_canBe_78 rfl ?_
    refine ev_i2l dX12_canBe_79 ?_
    refine ev_lconst dX12_canBe_80 rfl ?_
    refine ev_lconst dX12_canBe_81 rfl ?_
    obtain ⟨v14, g15, e16, h⟩ := am_bd_elim h
    refine ev_callSi (v := v14) [.long a2.toInt64, .long (0 : Int64), .long (1 : Int64)] [] dX12_canBe_82 (tX12_in e16) (by decide) mo_X12_in kM_X12_183 ks_X12_in (Nat.le_of_ble_eq_true rfl) ?_
    obtain ⟨c17, h⟩ := am_gd_elim h
    cases h
    exact ev_zret dX12_canBe_85 rfl (am_zb_n c17)
  replace h := am_ifn c29 h
  refine ev_tableOut 86 dX12_canBe_1 (by have z0 := am_ti c26 (k := 0) (by decide); have z1 := am_ti c27 (k := 1) (by decide); have z2 := am_ti c28 (k := 2) (by decide); have z3 := am_ti c29 (k := 3) (by decide); omega) (by decide) ?_
  refine ev_iload_n 1 dX12_canBe_86 rfl ?_
  refine ev_i2l dX12_canBe_87 ?_
  refine ev_ldc2 dX12_canBe_88 kL_X12_193 ?_
  refine ev_ldc2 dX12_canBe_91 kL_X12_195 ?_
  obtain ⟨v18, g19, e20, h⟩ := am_bd_elim h
  refine ev_callSi (v := v18) [.long a1.toInt64, .long (4 : Int64), .long (7 : Int64)] [] dX12_canBe_94 (tX12_in e20) (by decide) mo_X12_in kM_X12_183 ks_X12_in (Nat.le_of_ble_eq_true rfl) ?_
  refine ev_if_eq 116 dX12_canBe_97 (by decide) (fun c21 => ?_) (fun c21 => ?_)
  · replace h := am_ifp c21 h
    refine ev_iconst dX12_canBe_116 rfl ?_
    cases h
    exact ev_zret dX12_canBe_117 rfl rfl
  · replace h := am_ifn c21 h
    refine ev_iload_n 2 dX12_canBe_100 rfl ?_
    refine ev_i2l dX12_canBe_101 ?_
    refine ev_lconst dX12_canBe_102 rfl ?_
    refine ev_ldc2 dX12_canBe_103 kL_X12_197 ?_
    obtain ⟨v22, g23, e24, h⟩ := am_bd_elim h
    refine ev_callSi (v := v22) [.long a2.toInt64, .long (0 : Int64), .long (9 : Int64)] [] dX12_canBe_106 (tX12_in e24) (by decide) mo_X12_in kM_X12_183 ks_X12_in (Nat.le_of_ble_eq_true rfl) ?_
    refine ev_if_eq 116 dX12_canBe_109 (by decide) (fun c25 => ?_) (fun c25 => ?_)
    · replace h := am_ifp c25 h
      refine ev_iconst dX12_canBe_116 rfl ?_
      cases h
      exact ev_zret dX12_canBe_117 rfl rfl
    · replace h := am_ifn c25 h
      refine ev_iconst dX12_canBe_112 rfl ?_
      refine ev_goto 117 dX12_canBe_113 (by decide) ?_
      cases h
      exact ev_zret dX12_canBe_117 rfl rfl
theorem tX12_canBe {a0 : Int32} {a1 : Int32} {a2 : Int32} {g : am_G} {r : Int32 × am_G} (h : fX12_canBe a0 a1 a2 g = some r) : am_Mt zr MX12_canBe 1 [.int a0, .int a1, .int a2] g (am_ri r) := am_Mt.of rfl (Nat.le_of_ble_eq_true rfl) (eX12_canBe _ _ _ _ _ h)
def fX12_put (a1 : Int32) (a2 : Int32) (a3 : Int32) (g : am_G) : Option (Int32 × am_G) :=
  am_let (am_si g 0 0 (0 : Int32)) fun g1 =>
  am_bd (fX12_isSlope a1 g1) fun v2 g3 =>
  if v2 = 0 then (
    am_bd (fX12_tell (-1 : Int32) g3) fun v6 g7 =>
    some (v6, g7))
  else (
    am_bd (fX12_canBe a1 a2 a3 g3) fun v9 g10 =>
    if v9 = 0 then (
      am_bd (fX12_tell (-1 : Int32) g10) fun v20 g21 =>
      some (v20, g21))
    else (
      am_let (am_si g10 0 8 (0 : Int32)) fun g13 =>
      am_bd (fX12_slopeAt a1 a2 g13) fun v14 g15 =>
      am_bd (fX12_change v14 a3 g15) fun v17 g18 =>
      some (v17, g18)))
set_option maxRecDepth 100000 in
set_option maxHeartbeats 4000000 in
theorem eX12_put (a1 : Int32) (a2 : Int32) (a3 : Int32) (g : am_G) (r : Int32 × am_G) (h : fX12_put a1 a2 a3 g = some r) : am_Ev zr MX12_put 2 0 [(0, .ref 0), (1, .int a1), (2, .int a2), (3, .int a3)] [] g (am_ri r) := by
  unfold fX12_put at h
  refine ev_aload_n 0 dX12_put_0 rfl ?_
  refine ev_iconst dX12_put_1 rfl ?_
  refine ev_pfi dX12_put_2 (fun h9 => (h9.2.1 0 _ rfl).2) 0 (by decide) (by decide) kF_X12_163 rfl rfl rfl (fun _ => rfl) ?_
  refine am_let_elim (P := fun g1 => am_Ev zr MX12_put 2 5 [(0, .ref 0), (1, .int a1), (2, .int a2), (3, .int a3)] [] g1 (am_ri r)) h fun g1 h => ?_
  refine ev_iload_n 1 dX12_put_5 rfl ?_
  obtain ⟨v2, g3, e4, h⟩ := am_bd_elim h
  refine ev_callSi (v := v2) [.int a1] [] dX12_put_6 (tX12_isSlope e4) (by decide) mo_X12_isSlope kM_X12_199 ks_X12_isSlope (Nat.le_of_ble_eq_true rfl) ?_
  refine ev_if_eq 21 dX12_put_9 (by decide) (fun c5 => ?_) (fun c5 => ?_)
  · replace h := am_ifp c5 h
    refine ev_aload_n 0 dX12_put_21 rfl ?_
    refine ev_iconst dX12_put_22 rfl ?_
    obtain ⟨v6, g7, e8, h⟩ := am_bd_elim h
    refine ev_callVi (v := v6) [.int (-1 : Int32)] [] dX12_put_23 (tX12_tell e8) (by decide) mo_X12_tell kM_X12_176 ki_X12_tell kv_X12_tell (fun h9 => (h9.2.1 0 _ rfl).2) (by decide) rfl (Nat.le_of_ble_eq_true rfl) ?_
    cases h
    exact ev_iret dX12_put_26 rfl
  · replace h := am_ifn c5 h
    refine ev_iload_n 1 dX12_put_12 rfl ?_
    refine ev_iload_n 2 dX12_put_13 rfl ?_
    refine ev_iload_n 3 dX12_put_14 rfl ?_
    obtain ⟨v9, g10, e11, h⟩ := am_bd_elim h
    refine ev_callSi (v := v9) [.int a1, .int a2, .int a3] [] dX12_put_15 (tX12_canBe e11) (by decide) mo_X12_canBe kM_X12_203 ks_X12_canBe (Nat.le_of_ble_eq_true rfl) ?_
    refine ev_if_ne 27 dX12_put_18 (by decide) (fun c12 => ?_) (fun c12 => ?_)
    · replace h := am_ifn c12 h
      refine ev_aload_n 0 dX12_put_27 rfl ?_
      refine ev_iconst dX12_put_28 rfl ?_
      refine ev_pfi dX12_put_29 (fun h9 => (h9.2.1 0 _ rfl).2) 8 (by decide) (by decide) kF_X12_169 rfl rfl rfl (fun _ => rfl) ?_
      refine am_let_elim (P := fun g13 => am_Ev zr MX12_put 2 32 [(0, .ref 0), (1, .int a1), (2, .int a2), (3, .int a3)] [] g13 (am_ri r)) h fun g13 h => ?_
      refine ev_aload_n 0 dX12_put_32 rfl ?_
      refine ev_iload_n 1 dX12_put_33 rfl ?_
      refine ev_iload_n 2 dX12_put_34 rfl ?_
      obtain ⟨v14, g15, e16, h⟩ := am_bd_elim h
      refine ev_callSi (v := v14) [.int a1, .int a2] [.ref 0] dX12_put_35 (tX12_slopeAt e16) (by decide) mo_X12_slopeAt kM_X12_159 ks_X12_slopeAt (Nat.le_of_ble_eq_true rfl) ?_
      refine ev_iload_n 3 dX12_put_38 rfl ?_
      obtain ⟨v17, g18, e19, h⟩ := am_bd_elim h
      refine ev_callVi (v := v17) [.int v14, .int a3] [] dX12_put_39 (tX12_change e19) (by decide) mo_X12_change kM_X12_207 ki_X12_change kv_X12_change (fun h9 => (h9.2.1 0 _ rfl).2) (by decide) rfl (Nat.le_of_ble_eq_true rfl) ?_
      cases h
      exact ev_iret dX12_put_42 rfl
    · replace h := am_ifp c12 h
      refine ev_aload_n 0 dX12_put_21 rfl ?_
      refine ev_iconst dX12_put_22 rfl ?_
      obtain ⟨v20, g21, e22, h⟩ := am_bd_elim h
      refine ev_callVi (v := v20) [.int (-1 : Int32)] [] dX12_put_23 (tX12_tell e22) (by decide) mo_X12_tell kM_X12_176 ki_X12_tell kv_X12_tell (fun h9 => (h9.2.1 0 _ rfl).2) (by decide) rfl (Nat.le_of_ble_eq_true rfl) ?_
      cases h
      exact ev_iret dX12_put_26 rfl
theorem tX12_put {a1 : Int32} {a2 : Int32} {a3 : Int32} {g : am_G} {r : Int32 × am_G} (h : fX12_put a1 a2 a3 g = some r) : am_Mt zr MX12_put 2 [.ref 0, .int a1, .int a2, .int a3] g (am_ri r) := am_Mt.of rfl (Nat.le_of_ble_eq_true rfl) (eX12_put _ _ _ _ _ h)
def fX12_of (a1 : Int32) (a2 : Int32) (g : am_G) : Option (Int32 × am_G) :=
  am_let (am_si g 0 0 (0 : Int32)) fun g1 =>
  am_bd (fX12_isSlope a1 g1) fun v2 g3 =>
  if v2 = 0 then (
    some ((-1 : Int32), g3))
  else (
    am_bd (fX12_in a2.toInt64 (0 : Int64) (9 : Int64) g3) fun v6 g7 =>
    if v6 = 0 then (
      some ((-1 : Int32), g7))
    else (
      am_bd (fX12_ofSlope a1 a2 g7) fun v10 g11 =>
      some (v10, g11)))
set_option maxRecDepth 100000 in
set_option maxHeartbeats 4000000 in
theorem eX12_of (a1 : Int32) (a2 : Int32) (g : am_G) (r : Int32 × am_G) (h : fX12_of a1 a2 g = some r) : am_Ev zr MX12_of 2 0 [(0, .ref 0), (1, .int a1), (2, .int a2)] [] g (am_ri r) := by
  unfold fX12_of at h
  refine ev_aload_n 0 dX12_of_0 rfl ?_
  refine ev_iconst dX12_of_1 rfl ?_
  refine ev_pfi dX12_of_2 (fun h9 => (h9.2.1 0 _ rfl).2) 0 (by decide) (by decide) kF_X12_163 rfl rfl rfl (fun _ => rfl) ?_
  refine am_let_elim (P := fun g1 => am_Ev zr MX12_of 2 5 [(0, .ref 0), (1, .int a1), (2, .int a2)] [] g1 (am_ri r)) h fun g1 h => ?_
  refine ev_iload_n 1 dX12_of_5 rfl ?_
  obtain ⟨v2, g3, e4, h⟩ := am_bd_elim h
  refine ev_callSi (v := v2) [.int a1] [] dX12_of_6 (tX12_isSlope e4) (by decide) mo_X12_isSlope kM_X12_199 ks_X12_isSlope (Nat.le_of_ble_eq_true rfl) ?_
  refine ev_if_eq 33 dX12_of_9 (by decide) (fun c5 => ?_) (fun c5 => ?_)
  · replace h := am_ifp c5 h
    refine ev_iconst dX12_of_33 rfl ?_
    cases h
    exact ev_iret dX12_of_34 rfl
  · replace h := am_ifn c5 h
    refine ev_iload_n 2 dX12_of_12 rfl ?_
    refine ev_i2l dX12_of_13 ?_
    refine ev_lconst dX12_of_14 rfl ?_
    refine ev_ldc2 dX12_of_15 kL_X12_197 ?_
    obtain ⟨v6, g7, e8, h⟩ := am_bd_elim h
    refine ev_callSi (v := v6) [.long a2.toInt64, .long (0 : Int64), .long (9 : Int64)] [] dX12_of_18 (tX12_in e8) (by decide) mo_X12_in kM_X12_183 ks_X12_in (Nat.le_of_ble_eq_true rfl) ?_
    refine ev_if_eq 33 dX12_of_21 (by decide) (fun c9 => ?_) (fun c9 => ?_)
    · replace h := am_ifp c9 h
      refine ev_iconst dX12_of_33 rfl ?_
      cases h
      exact ev_iret dX12_of_34 rfl
    · replace h := am_ifn c9 h
      refine ev_aload_n 0 dX12_of_24 rfl ?_
      refine ev_iload_n 1 dX12_of_25 rfl ?_
      refine ev_iload_n 2 dX12_of_26 rfl ?_
      obtain ⟨v10, g11, e12, h⟩ := am_bd_elim h
      refine ev_callVi (v := v10) [.int a1, .int a2] [] dX12_of_27 (tX12_ofSlope e12) (by decide) mo_X12_ofSlope kM_X12_210 ki_X12_ofSlope kv_X12_ofSlope (fun h9 => (h9.2.1 0 _ rfl).2) (by decide) rfl (Nat.le_of_ble_eq_true rfl) ?_
      refine ev_goto 34 dX12_of_30 (by decide) ?_
      cases h
      exact ev_iret dX12_of_34 rfl
theorem tX12_of {a1 : Int32} {a2 : Int32} {g : am_G} {r : Int32 × am_G} (h : fX12_of a1 a2 g = some r) : am_Mt zr MX12_of 2 [.ref 0, .int a1, .int a2] g (am_ri r) := am_Mt.of rfl (Nat.le_of_ble_eq_true rfl) (eX12_of _ _ _ _ h)
def fX12_word1 (a1 : Int32) (a2 : Int32) (a3 : Int32) (g : am_G) : Option (Int32 × am_G) :=
  am_bd (fX12_in a1.toInt64 (1 : Int64) (9 : Int64) g) fun v1 g2 =>
  if v1 = 0 then (
    some ((-1 : Int32), g2))
  else (
    am_bd (fX12_in a2.toInt64 (0 : Int64) (9 : Int64) g2) fun v5 g6 =>
    if v5 = 0 then (
      some ((-1 : Int32), g6))
    else (
      am_bd (fX12_in a3.toInt64 (0 : Int64) (7 : Int64) g6) fun v9 g10 =>
      if v9 = 0 then (
        some ((-1 : Int32), g10))
      else (
        am_gd (am_in (0 : Int32) 5660) <|
        am_let (am_I g10 2 (0 : Int32).toNatClampNeg) fun x14 =>
        if x14 = (16 : Int32) then (
          some ((-5 : Int32), g10))
        else (
          am_let ((142 : Int32) + ((4 : Int32) * x14)) fun x16 =>
          am_gd (am_in x16 5660) <|
          am_let (am_si g10 2 x16.toNatClampNeg a1) fun g18 =>
          am_gd (am_in (x16 + (1 : Int32)) 5660) <|
          am_let (am_si g18 2 (x16 + (1 : Int32)).toNatClampNeg a2) fun g20 =>
          am_gd (am_in (x16 + (2 : Int32)) 5660) <|
          am_let (am_si g20 2 (x16 + (2 : Int32)).toNatClampNeg a3) fun g22 =>
          am_gd (am_in (x16 + (3 : Int32)) 5660) <|
          am_let (am_si g22 2 (x16 + (3 : Int32)).toNatClampNeg (0 : Int32)) fun g24 =>
          am_gd (am_in (0 : Int32) 5660) <|
          am_gd (am_in (0 : Int32) 5660) <|
          am_let (am_si g24 2 (0 : Int32).toNatClampNeg ((am_I g24 2 (0 : Int32).toNatClampNeg) + (1 : Int32))) fun g27 =>
          some (x14, g27)))))
set_option maxRecDepth 100000 in
set_option maxHeartbeats 4000000 in
theorem eX12_word1 (a1 : Int32) (a2 : Int32) (a3 : Int32) (g : am_G) (r : Int32 × am_G) (h : fX12_word1 a1 a2 a3 g = some r) : am_Ev zr MX12_word1 1 0 [(0, .ref 0), (1, .int a1), (2, .int a2), (3, .int a3)] [] g (am_ri r) := by
  unfold fX12_word1 at h
  refine ev_iload_n 1 dX12_word1_0 rfl ?_
  refine ev_i2l dX12_word1_1 ?_
  refine ev_lconst dX12_word1_2 rfl ?_
  refine ev_ldc2 dX12_word1_3 kL_X12_197 ?_
  obtain ⟨v1, g2, e3, h⟩ := am_bd_elim h
  refine ev_callSi (v := v1) [.long a1.toInt64, .long (1 : Int64), .long (9 : Int64)] [] dX12_word1_6 (tX12_in e3) (by decide) mo_X12_in kM_X12_183 ks_X12_in (Nat.le_of_ble_eq_true rfl) ?_
  refine ev_if_eq 36 dX12_word1_9 (by decide) (fun c4 => ?_) (fun c4 => ?_)
  · replace h := am_ifp c4 h
    refine ev_iconst dX12_word1_36 rfl ?_
    cases h
    exact ev_iret dX12_word1_37 rfl
  · replace h := am_ifn c4 h
    refine ev_iload_n 2 dX12_word1_12 rfl ?_
    refine ev_i2l dX12_word1_13 ?_
    refine ev_lconst dX12_word1_14 rfl ?_
    refine ev_ldc2 dX12_word1_15 kL_X12_197 ?_
    obtain ⟨v5, g6, e7, h⟩ := am_bd_elim h
    refine ev_callSi (v := v5) [.long a2.toInt64, .long (0 : Int64), .long (9 : Int64)] [] dX12_word1_18 (tX12_in e7) (by decide) mo_X12_in kM_X12_183 ks_X12_in (Nat.le_of_ble_eq_true rfl) ?_
    refine ev_if_eq 36 dX12_word1_21 (by decide) (fun c8 => ?_) (fun c8 => ?_)
    · replace h := am_ifp c8 h
      refine ev_iconst dX12_word1_36 rfl ?_
      cases h
      exact ev_iret dX12_word1_37 rfl
    · replace h := am_ifn c8 h
      refine ev_iload_n 3 dX12_word1_24 rfl ?_
      refine ev_i2l dX12_word1_25 ?_
      refine ev_lconst dX12_word1_26 rfl ?_
      refine ev_ldc2 dX12_word1_27 kL_X12_195 ?_
      obtain ⟨v9, g10, e11, h⟩ := am_bd_elim h
      refine ev_callSi (v := v9) [.long a3.toInt64, .long (0 : Int64), .long (7 : Int64)] [] dX12_word1_30 (tX12_in e11) (by decide) mo_X12_in kM_X12_183 ks_X12_in (Nat.le_of_ble_eq_true rfl) ?_
      refine ev_if_ne 38 dX12_word1_33 (by decide) (fun c12 => ?_) (fun c12 => ?_)
      · replace h := am_ifn c12 h
        refine ev_aload_n 0 dX12_word1_38 rfl ?_
        refine ev_gf (v := .ref 2) dX12_word1_39 (fun h9 => (h9.2.1 0 _ rfl).2) 3 (by decide) (by decide) kF_X12_13 (fun h9 => congrArg va_rf (h9.2.2 0 3 2 rfl)) ?_
        refine ev_iconst dX12_word1_42 rfl ?_
        obtain ⟨c13, h⟩ := am_gd_elim h
        refine ev_iald dX12_word1_43 (fun h9 => (h9.2.1 2 _ rfl).2) (am_in_vp c13) ?_
        refine am_let_elim (P := fun x14 => am_Ev zr MX12_word1 1 44 [(0, .ref 0), (1, .int a1), (2, .int a2), (3, .int a3)] [.int x14] g10 (am_ri r)) h fun x14 h => ?_
        refine ev_istore (ls' := [(4, .int x14), (0, .ref 0), (1, .int a1), (2, .int a2), (3, .int a3)]) dX12_word1_44 (by decide) rfl ?_
        refine ev_iload 0 dX12_word1_46 rfl ?_
        refine ev_bipush dX12_word1_48 rfl ?_
        refine ev_icmp_ne 56 dX12_word1_50 (by decide) (fun c15 => ?_) (fun c15 => ?_)
        · replace h := am_ifn c15 h
          refine ev_sipush dX12_word1_56 rfl ?_
          refine ev_iconst dX12_word1_59 rfl ?_
          refine ev_iload 0 dX12_word1_60 rfl ?_
          refine ev_imul dX12_word1_62 ?_
          refine ev_iadd dX12_word1_63 ?_
          refine am_let_elim (P := fun x16 => am_Ev zr MX12_word1 1 64 [(4, .int x14), (0, .ref 0), (1, .int a1), (2, .int a2), (3, .int a3)] [.int x16] g10 (am_ri r)) h fun x16 h => ?_
          refine ev_istore (ls' := [(5, .int x16), (4, .int x14), (0, .ref 0), (1, .int a1), (2, .int a2), (3, .int a3)]) dX12_word1_64 (by decide) rfl ?_
          refine ev_aload_n 2 dX12_word1_66 rfl ?_
          refine ev_gf (v := .ref 2) dX12_word1_67 (fun h9 => (h9.2.1 0 _ rfl).2) 3 (by decide) (by decide) kF_X12_13 (fun h9 => congrArg va_rf (h9.2.2 0 3 2 rfl)) ?_
          refine ev_iload 0 dX12_word1_70 rfl ?_
          refine ev_iload_n 3 dX12_word1_72 rfl ?_
          obtain ⟨c17, h⟩ := am_gd_elim h
          refine ev_iast dX12_word1_73 (fun h9 => (h9.2.1 2 _ rfl).2) (am_in_vp c17) ?_
          refine am_let_elim (P := fun g18 => am_Ev zr MX12_word1 1 74 [(5, .int x16), (4, .int x14), (0, .ref 0), (1, .int a1), (2, .int a2), (3, .int a3)] [] g18 (am_ri r)) h fun g18 h => ?_
          refine ev_aload_n 2 dX12_word1_74 rfl ?_
          refine ev_gf (v := .ref 2) dX12_word1_75 (fun h9 => (h9.2.1 0 _ rfl).2) 3 (by decide) (by decide) kF_X12_13 (fun h9 => congrArg va_rf (h9.2.2 0 3 2 rfl)) ?_
          refine ev_iload 0 dX12_word1_78 rfl ?_
          refine ev_iconst dX12_word1_80 rfl ?_
          refine ev_iadd dX12_word1_81 ?_
          refine ev_iload_n 4 dX12_word1_82 rfl ?_
          obtain ⟨c19, h⟩ := am_gd_elim h
          refine ev_iast dX12_word1_83 (fun h9 => (h9.2.1 2 _ rfl).2) (am_in_vp c19) ?_
          refine am_let_elim (P := fun g20 => am_Ev zr MX12_word1 1 84 [(5, .int x16), (4, .int x14), (0, .ref 0), (1, .int a1), (2, .int a2), (3, .int a3)] [] g20 (am_ri r)) h fun g20 h => ?_
          refine ev_aload_n 2 dX12_word1_84 rfl ?_
          refine ev_gf (v := .ref 2) dX12_word1_85 (fun h9 => (h9.2.1 0 _ rfl).2) 3 (by decide) (by decide) kF_X12_13 (fun h9 => congrArg va_rf (h9.2.2 0 3 2 rfl)) ?_
          refine ev_iload 0 dX12_word1_88 rfl ?_
          refine ev_iconst dX12_word1_90 rfl ?_
          refine ev_iadd dX12_word1_91 ?_
          refine ev_iload_n 5 dX12_word1_92 rfl ?_
          obtain ⟨c21, h⟩ := am_gd_elim h
          refine ev_iast dX12_word1_93 (fun h9 => (h9.2.1 2 _ rfl).2) (am_in_vp c21) ?_
          refine am_let_elim (P := fun g22 => am_Ev zr MX12_word1 1 94 [(5, .int x16), (4, .int x14), (0, .ref 0), (1, .int a1), (2, .int a2), (3, .int a3)] [] g22 (am_ri r)) h fun g22 h => ?_
          refine ev_aload_n 2 dX12_word1_94 rfl ?_
          refine ev_gf (v := .ref 2) dX12_word1_95 (fun h9 => (h9.2.1 0 _ rfl).2) 3 (by decide) (by decide) kF_X12_13 (fun h9 => congrArg va_rf (h9.2.2 0 3 2 rfl)) ?_
          refine ev_iload 0 dX12_word1_98 rfl ?_
          refine ev_iconst dX12_word1_100 rfl ?_
          refine ev_iadd dX12_word1_101 ?_
          refine ev_iconst dX12_word1_102 rfl ?_
          obtain ⟨c23, h⟩ := am_gd_elim h
          refine ev_iast dX12_word1_103 (fun h9 => (h9.2.1 2 _ rfl).2) (am_in_vp c23) ?_
          refine am_let_elim (P := fun g24 => am_Ev zr MX12_word1 1 104 [(5, .int x16), (4, .int x14), (0, .ref 0), (1, .int a1), (2, .int a2), (3, .int a3)] [] g24 (am_ri r)) h fun g24 h => ?_
          refine ev_aload_n 2 dX12_word1_104 rfl ?_
          refine ev_gf (v := .ref 2) dX12_word1_105 (fun h9 => (h9.2.1 0 _ rfl).2) 3 (by decide) (by decide) kF_X12_13 (fun h9 => congrArg va_rf (h9.2.2 0 3 2 rfl)) ?_
          refine ev_iconst dX12_word1_108 rfl ?_
          refine ev_dup2 dX12_word1_109 rfl rfl ?_
          obtain ⟨c25, h⟩ := am_gd_elim h
          refine ev_iald dX12_word1_110 (fun h9 => (h9.2.1 2 _ rfl).2) (am_in_vp c25) ?_
          refine ev_iconst dX12_word1_111 rfl ?_
          refine ev_iadd dX12_word1_112 ?_
          obtain ⟨c26, h⟩ := am_gd_elim h
          refine ev_iast dX12_word1_113 (fun h9 => (h9.2.1 2 _ rfl).2) (am_in_vp c26) ?_
          refine am_let_elim (P := fun g27 => am_Ev zr MX12_word1 1 114 [(5, .int x16), (4, .int x14), (0, .ref 0), (1, .int a1), (2, .int a2), (3, .int a3)] [] g27 (am_ri r)) h fun g27 h => ?_
          refine ev_iload 1 dX12_word1_114 rfl ?_
          cases h
          exact ev_iret dX12_word1_116 rfl
        · replace h := am_ifp c15 h
          refine ev_bipush dX12_word1_53 rfl ?_
          cases h
          exact ev_iret dX12_word1_55 rfl
      · replace h := am_ifp c12 h
        refine ev_iconst dX12_word1_36 rfl ?_
        cases h
        exact ev_iret dX12_word1_37 rfl
theorem tX12_word1 {a1 : Int32} {a2 : Int32} {a3 : Int32} {g : am_G} {r : Int32 × am_G} (h : fX12_word1 a1 a2 a3 g = some r) : am_Mt zr MX12_word1 1 [.ref 0, .int a1, .int a2, .int a3] g (am_ri r) := am_Mt.of rfl (Nat.le_of_ble_eq_true rfl) (eX12_word1 _ _ _ _ _ h)
def fX12_word (a1 : Int32) (a2 : Int32) (a3 : Int32) (g : am_G) : Option (Int32 × am_G) :=
  am_let (am_si g 0 0 (0 : Int32)) fun g1 =>
  am_bd (fX12_word1 a1 a2 a3 g1) fun v2 g3 =>
  am_bd (fX12_tell v2 g3) fun v5 g6 =>
  some (v5, g6)
set_option maxRecDepth 100000 in
set_option maxHeartbeats 4000000 in
theorem eX12_word (a1 : Int32) (a2 : Int32) (a3 : Int32) (g : am_G) (r : Int32 × am_G) (h : fX12_word a1 a2 a3 g = some r) : am_Ev zr MX12_word 2 0 [(0, .ref 0), (1, .int a1), (2, .int a2), (3, .int a3)] [] g (am_ri r) := by
  unfold fX12_word at h
  refine ev_aload_n 0 dX12_word_0 rfl ?_
  refine ev_iconst dX12_word_1 rfl ?_
  refine ev_pfi dX12_word_2 (fun h9 => (h9.2.1 0 _ rfl).2) 0 (by decide) (by decide) kF_X12_163 rfl rfl rfl (fun _ => rfl) ?_
  refine am_let_elim (P := fun g1 => am_Ev zr MX12_word 2 5 [(0, .ref 0), (1, .int a1), (2, .int a2), (3, .int a3)] [] g1 (am_ri r)) h fun g1 h => ?_
  refine ev_aload_n 0 dX12_word_5 rfl ?_
  refine ev_aload_n 0 dX12_word_6 rfl ?_
  refine ev_iload_n 1 dX12_word_7 rfl ?_
  refine ev_iload_n 2 dX12_word_8 rfl ?_
  refine ev_iload_n 3 dX12_word_9 rfl ?_
  obtain ⟨v2, g3, e4, h⟩ := am_bd_elim h
  refine ev_callVi (v := v2) [.int a1, .int a2, .int a3] [.ref 0] dX12_word_10 (tX12_word1 e4) (by decide) mo_X12_word1 kM_X12_213 ki_X12_word1 kv_X12_word1 (fun h9 => (h9.2.1 0 _ rfl).2) (by decide) rfl (Nat.le_of_ble_eq_true rfl) ?_
  obtain ⟨v5, g6, e7, h⟩ := am_bd_elim h
  refine ev_callVi (v := v5) [.int v2] [] dX12_word_13 (tX12_tell e7) (by decide) mo_X12_tell kM_X12_176 ki_X12_tell kv_X12_tell (fun h9 => (h9.2.1 0 _ rfl).2) (by decide) rfl (Nat.le_of_ble_eq_true rfl) ?_
  cases h
  exact ev_iret dX12_word_16 rfl
theorem tX12_word {a1 : Int32} {a2 : Int32} {a3 : Int32} {g : am_G} {r : Int32 × am_G} (h : fX12_word a1 a2 a3 g = some r) : am_Mt zr MX12_word 2 [.ref 0, .int a1, .int a2, .int a3] g (am_ri r) := am_Mt.of rfl (Nat.le_of_ble_eq_true rfl) (eX12_word _ _ _ _ _ h)
def fX12_at (a1 : Int32) (a2 : Int32) (g : am_G) : Option (Int32 × am_G) :=
  am_let (am_si g 0 0 (0 : Int32)) fun g1 =>
  am_bd (fX12_isWord1 a1 g1) fun v2 g3 =>
  if v2 = 0 then (
    some ((-1 : Int32), g3))
  else (
    am_bd (fX12_in a2.toInt64 (0 : Int64) (3 : Int64) g3) fun v6 g7 =>
    if v6 = 0 then (
      some ((-1 : Int32), g7))
    else (
      am_bd (fX12_ofWord a1 a2 g7) fun v10 g11 =>
      some (v10, g11)))
set_option maxRecDepth 100000 in
set_option maxHeartbeats 4000000 in
theorem eX12_at (a1 : Int32) (a2 : Int32) (g : am_G) (r : Int32 × am_G) (h : fX12_at a1 a2 g = some r) : am_Ev zr MX12_at 2 0 [(0, .ref 0), (1, .int a1), (2, .int a2)] [] g (am_ri r) := by
  unfold fX12_at at h
  refine ev_aload_n 0 dX12_at_0 rfl ?_
  refine ev_iconst dX12_at_1 rfl ?_
  refine ev_pfi dX12_at_2 (fun h9 => (h9.2.1 0 _ rfl).2) 0 (by decide) (by decide) kF_X12_163 rfl rfl rfl (fun _ => rfl) ?_
  refine am_let_elim (P := fun g1 => am_Ev zr MX12_at 2 5 [(0, .ref 0), (1, .int a1), (2, .int a2)] [] g1 (am_ri r)) h fun g1 h => ?_
  refine ev_aload_n 0 dX12_at_5 rfl ?_
  refine ev_iload_n 1 dX12_at_6 rfl ?_
  obtain ⟨v2, g3, e4, h⟩ := am_bd_elim h
  refine ev_callVi (v := v2) [.int a1] [] dX12_at_7 (tX12_isWord1 e4) (by decide) mo_X12_isWord1 kM_X12_217 ki_X12_isWord1 kv_X12_isWord1 (fun h9 => (h9.2.1 0 _ rfl).2) (by decide) rfl (Nat.le_of_ble_eq_true rfl) ?_
  refine ev_if_eq 34 dX12_at_10 (by decide) (fun c5 => ?_) (fun c5 => ?_)
  · replace h := am_ifp c5 h
    refine ev_iconst dX12_at_34 rfl ?_
    cases h
    exact ev_iret dX12_at_35 rfl
  · replace h := am_ifn c5 h
    refine ev_iload_n 2 dX12_at_13 rfl ?_
    refine ev_i2l dX12_at_14 ?_
    refine ev_lconst dX12_at_15 rfl ?_
    refine ev_ldc2 dX12_at_16 kL_X12_189 ?_
    obtain ⟨v6, g7, e8, h⟩ := am_bd_elim h
    refine ev_callSi (v := v6) [.long a2.toInt64, .long (0 : Int64), .long (3 : Int64)] [] dX12_at_19 (tX12_in e8) (by decide) mo_X12_in kM_X12_183 ks_X12_in (Nat.le_of_ble_eq_true rfl) ?_
    refine ev_if_eq 34 dX12_at_22 (by decide) (fun c9 => ?_) (fun c9 => ?_)
    · replace h := am_ifp c9 h
      refine ev_iconst dX12_at_34 rfl ?_
      cases h
      exact ev_iret dX12_at_35 rfl
    · replace h := am_ifn c9 h
      refine ev_aload_n 0 dX12_at_25 rfl ?_
      refine ev_iload_n 1 dX12_at_26 rfl ?_
      refine ev_iload_n 2 dX12_at_27 rfl ?_
      obtain ⟨v10, g11, e12, h⟩ := am_bd_elim h
      refine ev_callVi (v := v10) [.int a1, .int a2] [] dX12_at_28 (tX12_ofWord e12) (by decide) mo_X12_ofWord kM_X12_220 ki_X12_ofWord kv_X12_ofWord (fun h9 => (h9.2.1 0 _ rfl).2) (by decide) rfl (Nat.le_of_ble_eq_true rfl) ?_
      refine ev_goto 35 dX12_at_31 (by decide) ?_
      cases h
      exact ev_iret dX12_at_35 rfl
theorem tX12_at {a1 : Int32} {a2 : Int32} {g : am_G} {r : Int32 × am_G} (h : fX12_at a1 a2 g = some r) : am_Mt zr MX12_at 2 [.ref 0, .int a1, .int a2] g (am_ri r) := am_Mt.of rfl (Nat.le_of_ble_eq_true rfl) (eX12_at _ _ _ _ h)
def fX12_often (a1 : Int32) (a2 : Int32) (g : am_G) : Option (Int32 × am_G) :=
  am_let (am_si g 0 0 (0 : Int32)) fun g1 =>
  am_bd (fX12_in a2.toInt64 (0 : Int64) (99 : Int64) g1) fun v2 g3 =>
  if v2 = 0 then (
    am_bd (fX12_tell (-1 : Int32) g3) fun v16 g17 =>
    some (v16, g17))
  else (
    am_bd (fX12_isWord1 a1 g3) fun v6 g7 =>
    if v6 = 0 then (
      am_bd (fX12_tell (-2 : Int32) g7) fun v10 g11 =>
      some (v10, g11))
    else (
      am_bd (fX12_change (((142 : Int32) + ((4 : Int32) * a1)) + (3 : Int32)) a2 g7) fun v13 g14 =>
      some (v13, g14)))
set_option maxRecDepth 100000 in
set_option maxHeartbeats 4000000 in
theorem eX12_often (a1 : Int32) (a2 : Int32) (g : am_G) (r : Int32 × am_G) (h : fX12_often a1 a2 g = some r) : am_Ev zr MX12_often 2 0 [(0, .ref 0), (1, .int a1), (2, .int a2)] [] g (am_ri r) := by
  unfold fX12_often at h
  refine ev_aload_n 0 dX12_often_0 rfl ?_
  refine ev_iconst dX12_often_1 rfl ?_
  refine ev_pfi dX12_often_2 (fun h9 => (h9.2.1 0 _ rfl).2) 0 (by decide) (by decide) kF_X12_163 rfl rfl rfl (fun _ => rfl) ?_
  refine am_let_elim (P := fun g1 => am_Ev zr MX12_often 2 5 [(0, .ref 0), (1, .int a1), (2, .int a2)] [] g1 (am_ri r)) h fun g1 h => ?_
  refine ev_iload_n 2 dX12_often_5 rfl ?_
  refine ev_i2l dX12_often_6 ?_
  refine ev_lconst dX12_often_7 rfl ?_
  refine ev_ldc2 dX12_often_8 kL_X12_223 ?_
  obtain ⟨v2, g3, e4, h⟩ := am_bd_elim h
  refine ev_callSi (v := v2) [.long a2.toInt64, .long (0 : Int64), .long (99 : Int64)] [] dX12_often_11 (tX12_in e4) (by decide) mo_X12_in kM_X12_183 ks_X12_in (Nat.le_of_ble_eq_true rfl) ?_
  refine ev_if_ne 23 dX12_often_14 (by decide) (fun c5 => ?_) (fun c5 => ?_)
  · replace h := am_ifn c5 h
    refine ev_aload_n 0 dX12_often_23 rfl ?_
    refine ev_iload_n 1 dX12_often_24 rfl ?_
    obtain ⟨v6, g7, e8, h⟩ := am_bd_elim h
    refine ev_callVi (v := v6) [.int a1] [] dX12_often_25 (tX12_isWord1 e8) (by decide) mo_X12_isWord1 kM_X12_217 ki_X12_isWord1 kv_X12_isWord1 (fun h9 => (h9.2.1 0 _ rfl).2) (by decide) rfl (Nat.le_of_ble_eq_true rfl) ?_
    refine ev_if_eq 48 dX12_often_28 (by decide) (fun c9 => ?_) (fun c9 => ?_)
    · replace h := am_ifp c9 h
      refine ev_aload_n 0 dX12_often_48 rfl ?_
      refine ev_bipush dX12_often_49 rfl ?_
      obtain ⟨v10, g11, e12, h⟩ := am_bd_elim h
      refine ev_callVi (v := v10) [.int (-2 : Int32)] [] dX12_often_51 (tX12_tell e12) (by decide) mo_X12_tell kM_X12_176 ki_X12_tell kv_X12_tell (fun h9 => (h9.2.1 0 _ rfl).2) (by decide) rfl (Nat.le_of_ble_eq_true rfl) ?_
      cases h
      exact ev_iret dX12_often_54 rfl
    · replace h := am_ifn c9 h
      refine ev_aload_n 0 dX12_often_31 rfl ?_
      refine ev_sipush dX12_often_32 rfl ?_
      refine ev_iconst dX12_often_35 rfl ?_
      refine ev_iload_n 1 dX12_often_36 rfl ?_
      refine ev_imul dX12_often_37 ?_
      refine ev_iadd dX12_often_38 ?_
      refine ev_iconst dX12_often_39 rfl ?_
      refine ev_iadd dX12_often_40 ?_
      refine ev_iload_n 2 dX12_often_41 rfl ?_
      obtain ⟨v13, g14, e15, h⟩ := am_bd_elim h
      refine ev_callVi (v := v13) [.int (((142 : Int32) + ((4 : Int32) * a1)) + (3 : Int32)), .int a2] [] dX12_often_42 (tX12_change e15) (by decide) mo_X12_change kM_X12_207 ki_X12_change kv_X12_change (fun h9 => (h9.2.1 0 _ rfl).2) (by decide) rfl (Nat.le_of_ble_eq_true rfl) ?_
      refine ev_goto 54 dX12_often_45 (by decide) ?_
      cases h
      exact ev_iret dX12_often_54 rfl
  · replace h := am_ifp c5 h
    refine ev_aload_n 0 dX12_often_17 rfl ?_
    refine ev_iconst dX12_often_18 rfl ?_
    obtain ⟨v16, g17, e18, h⟩ := am_bd_elim h
    refine ev_callVi (v := v16) [.int (-1 : Int32)] [] dX12_often_19 (tX12_tell e18) (by decide) mo_X12_tell kM_X12_176 ki_X12_tell kv_X12_tell (fun h9 => (h9.2.1 0 _ rfl).2) (by decide) rfl (Nat.le_of_ble_eq_true rfl) ?_
    cases h
    exact ev_iret dX12_often_22 rfl
theorem tX12_often {a1 : Int32} {a2 : Int32} {g : am_G} {r : Int32 × am_G} (h : fX12_often a1 a2 g = some r) : am_Mt zr MX12_often 2 [.ref 0, .int a1, .int a2] g (am_ri r) := am_Mt.of rfl (Nat.le_of_ble_eq_true rfl) (eX12_often _ _ _ _ h)
def fX12_terms (a1 : Int32) (a2 : Int32) (g : am_G) : Option (Int32 × am_G) :=
  am_let (am_si g 0 0 (0 : Int32)) fun g1 =>
  am_jn (fun (x3 : Int32) (g4 : am_G) =>
    if x3 = 0 then (
      am_bd (fX12_tell (-1 : Int32) g4) fun v11 g12 =>
      some (v11, g12))
    else (
      am_let (am_si g4 0 8 (0 : Int32)) fun g7 =>
      am_bd (fX12_change ((6 : Int32) + a1) a2 g7) fun v8 g9 =>
      some (v8, g9))) fun j5 =>
  if a1 = 0 then (
    am_bd (fX12_in a2.toInt64 (0 : Int64) (999 : Int64) g1) fun v21 g22 =>
    j5 v21 g22)
  else (
    am_jn (fun  (g15 : am_G) =>
      j5 (0 : Int32) g15) fun j16 =>
    if a1 = (1 : Int32) then (
      am_bd (fX12_in a2.toInt64 (0 : Int64) (9 : Int64) g1) fun v17 g18 =>
      if v17 = 0 then (
        j16 g18)
      else (
        j5 (1 : Int32) g18))
    else (
      j16 g1))
set_option maxRecDepth 100000 in
set_option maxHeartbeats 4000000 in
theorem eX12_terms (a1 : Int32) (a2 : Int32) (g : am_G) (r : Int32 × am_G) (h : fX12_terms a1 a2 g = some r) : am_Ev zr MX12_terms 1 0 [(0, .ref 0), (1, .int a1), (2, .int a2)] [] g (am_ri r) := by
  unfold fX12_terms at h
  refine ev_aload_n 0 dX12_terms_0 rfl ?_
  refine ev_iconst dX12_terms_1 rfl ?_
  refine ev_pfi dX12_terms_2 (fun h9 => (h9.2.1 0 _ rfl).2) 0 (by decide) (by decide) kF_X12_163 rfl rfl rfl (fun _ => rfl) ?_
  refine am_let_elim (P := fun g1 => am_Ev zr MX12_terms 1 5 [(0, .ref 0), (1, .int a1), (2, .int a2)] [] g1 (am_ri r)) h fun g1 h => ?_
  refine ev_iload_n 1 dX12_terms_5 rfl ?_
  refine am_jn_elim (fun q9 => ∀ (x3 : Int32) (g4 : am_G) (r : Int32 × am_G), q9 x3 g4 = some r → am_Ev zr MX12_terms 1 43 [(0, .ref 0), (1, .int a1), (2, .int a2)] [.int x3] g4 (am_ri r)) h ?_ (fun j5 hj5 h => ?_)
  · intro x3 g4 r h
    try dsimp only at h
    refine ev_istore_n (ls' := [(3, .int x3), (0, .ref 0), (1, .int a1), (2, .int a2)]) dX12_terms_43 rfl (by decide) rfl ?_
    refine ev_iload_n 0 dX12_terms_44 rfl ?_
    refine ev_if_ne 54 dX12_terms_45 (by decide) (fun c6 => ?_) (fun c6 => ?_)
    · replace h := am_ifn c6 h
      refine ev_aload_n 1 dX12_terms_54 rfl ?_
      refine ev_iconst dX12_terms_55 rfl ?_
      refine ev_pfi dX12_terms_56 (fun h9 => (h9.2.1 0 _ rfl).2) 8 (by decide) (by decide) kF_X12_169 rfl rfl rfl (fun _ => rfl) ?_
      refine am_let_elim (P := fun g7 => am_Ev zr MX12_terms 1 59 [(3, .int x3), (0, .ref 0), (1, .int a1), (2, .int a2)] [] g7 (am_ri r)) h fun g7 h => ?_
      refine ev_aload_n 1 dX12_terms_59 rfl ?_
      refine ev_bipush dX12_terms_60 rfl ?_
      refine ev_iload_n 2 dX12_terms_62 rfl ?_
      refine ev_iadd dX12_terms_63 ?_
      refine ev_iload_n 3 dX12_terms_64 rfl ?_
      obtain ⟨v8, g9, e10, h⟩ := am_bd_elim h
      refine ev_callVi (v := v8) [.int ((6 : Int32) + a1), .int a2] [] dX12_terms_65 (tX12_change e10) (by decide) mo_X12_change kM_X12_207 ki_X12_change kv_X12_change (fun h9 => (h9.2.1 0 _ rfl).2) (by decide) rfl (Nat.le_of_ble_eq_true rfl) ?_
      cases h
      exact ev_iret dX12_terms_68 rfl
    · replace h := am_ifp c6 h
      refine ev_aload_n 1 dX12_terms_48 rfl ?_
      refine ev_iconst dX12_terms_49 rfl ?_
      obtain ⟨v11, g12, e13, h⟩ := am_bd_elim h
      refine ev_callVi (v := v11) [.int (-1 : Int32)] [] dX12_terms_50 (tX12_tell e13) (by decide) mo_X12_tell kM_X12_176 ki_X12_tell kv_X12_tell (fun h9 => (h9.2.1 0 _ rfl).2) (by decide) rfl (Nat.le_of_ble_eq_true rfl) ?_
      cases h
      exact ev_iret dX12_terms_53 rfl
  · refine ev_if_ne 21 dX12_terms_6 (by decide) (fun c2 => ?_) (fun c2 => ?_)
    · replace h := am_ifn c2 h
      refine ev_iload_n 1 dX12_terms_21 rfl ?_
      refine ev_iconst dX12_terms_22 rfl ?_
      refine am_jn_elim (fun q9 => ∀  (g15 : am_G) (r : Int32 × am_G), q9  g15 = some r → am_Ev zr MX12_terms 1 42 [(0, .ref 0), (1, .int a1), (2, .int a2)] [] g15 (am_ri r)) h ?_ (fun j16 hj16 h => ?_)
      · intro  g15 r h
        try dsimp only at h
        refine ev_iconst dX12_terms_42 rfl ?_
        refine ev_sub [0, 1, 2] rfl ?_
        exact hj5 _ _ _ h
      · refine ev_icmp_ne 42 dX12_terms_23 (by decide) (fun c14 => ?_) (fun c14 => ?_)
        · replace h := am_ifn c14 h
          refine ev_sub [0, 1, 2] rfl ?_
          exact hj16  _ _ h
        · replace h := am_ifp c14 h
          refine ev_iload_n 2 dX12_terms_26 rfl ?_
          refine ev_i2l dX12_terms_27 ?_
          refine ev_lconst dX12_terms_28 rfl ?_
          refine ev_ldc2 dX12_terms_29 kL_X12_197 ?_
          obtain ⟨v17, g18, e19, h⟩ := am_bd_elim h
          refine ev_callSi (v := v17) [.long a2.toInt64, .long (0 : Int64), .long (9 : Int64)] [] dX12_terms_32 (tX12_in e19) (by decide) mo_X12_in kM_X12_183 ks_X12_in (Nat.le_of_ble_eq_true rfl) ?_
          refine ev_if_eq 42 dX12_terms_35 (by decide) (fun c20 => ?_) (fun c20 => ?_)
          · replace h := am_ifp c20 h
            refine ev_sub [0, 1, 2] rfl ?_
            exact hj16  _ _ h
          · replace h := am_ifn c20 h
            refine ev_iconst dX12_terms_38 rfl ?_
            refine ev_goto 43 dX12_terms_39 (by decide) ?_
            refine ev_sub [0, 1, 2] rfl ?_
            exact hj5 _ _ _ h
    · replace h := am_ifp c2 h
      refine ev_iload_n 2 dX12_terms_9 rfl ?_
      refine ev_i2l dX12_terms_10 ?_
      refine ev_lconst dX12_terms_11 rfl ?_
      refine ev_ldc2 dX12_terms_12 kL_X12_225 ?_
      obtain ⟨v21, g22, e23, h⟩ := am_bd_elim h
      refine ev_callSi (v := v21) [.long a2.toInt64, .long (0 : Int64), .long (999 : Int64)] [] dX12_terms_15 (tX12_in e23) (by decide) mo_X12_in kM_X12_183 ks_X12_in (Nat.le_of_ble_eq_true rfl) ?_
      refine ev_goto 43 dX12_terms_18 (by decide) ?_
      refine ev_sub [0, 1, 2] rfl ?_
      exact hj5 _ _ _ h
theorem tX12_terms {a1 : Int32} {a2 : Int32} {g : am_G} {r : Int32 × am_G} (h : fX12_terms a1 a2 g = some r) : am_Mt zr MX12_terms 1 [.ref 0, .int a1, .int a2] g (am_ri r) := am_Mt.of rfl (Nat.le_of_ble_eq_true rfl) (eX12_terms _ _ _ _ h)
def fX12_row_L35 (x2 : Int32) : Nat → Int32 → Int32 → am_G → Option (Int32 × am_G)
  | 0, _, _, _ => none
  | n + 1, x6, x7, g8 =>
    if x2 ≤ x7 then (
      am_bd (fX12_tell x6 g8) fun v10 g11 =>
      some (v10, g11))
    else (
      am_jn (fun (x14 : Int32) (g15 : am_G) =>
        am_let (x7 + (3 : Int32)) fun x17 =>
        fX12_row_L35 x2 n x14 x17 g15) fun j16 =>
      am_jn (fun  (g18 : am_G) =>
        am_let (am_si g18 0 11 ((am_I g18 0 11) + (1 : Int32))) fun g20 =>
        j16 x6 g20) fun j19 =>
      if x2 ≤ (x7 + (2 : Int32)) then (
        j19 g8)
      else (
        am_gd (am_in x7 400) <|
        am_gd (am_in (x7 + (1 : Int32)) 400) <|
        am_gd (am_in (x7 + (2 : Int32)) 400) <|
        am_bd (fX12_word1 (am_I g8 9 x7.toNatClampNeg) (am_I g8 9 (x7 + (1 : Int32)).toNatClampNeg) (am_I g8 9 (x7 + (2 : Int32)).toNatClampNeg) g8) fun v24 g25 =>
        if v24 < 0 then (
          j19 g25)
        else (
          am_let (x6 + (1 : Int32)) fun x28 =>
          j16 x28 g25)))
def fX12_row (g : am_G) : Option (Int32 × am_G) :=
  am_let (am_si g 0 0 (0 : Int32)) fun g1 =>
  am_let (am_I g1 0 13) fun x2 =>
  am_let (am_si g1 0 13 (0 : Int32)) fun g3 =>
  if x2 = 0 then (
    am_bd (fX12_tell (-6 : Int32) g3) fun v29 g30 =>
    some (v29, g30))
  else (
    am_let (am_si g3 0 11 (0 : Int32)) fun g5 =>
    fX12_row_L35 x2 am_fu (0 : Int32) (0 : Int32) g5)
set_option maxRecDepth 100000 in
set_option maxHeartbeats 4000000 in
theorem tfX12_row_L35  (x2 : Int32) : ∀ (n : Nat) (x6 : Int32) (x7 : Int32) (g8 : am_G) (r : Int32 × am_G), fX12_row_L35 x2 n x6 x7 g8 = some r → am_Ev zr MX12_row 2 35 [(0, .ref 0), (1, .int x2), (2, .int x6), (3, .int x7)] [] g8 (am_ri r) := by
  intro n
  induction n with
  | zero => intro x6 x7 g8 r h; exact nomatch (show (none : Option (Int32 × am_G)) = some r from h)
  | succ n ih =>
    intro x6 x7 g8 r h
    rw [fX12_row_L35] at h
    refine ev_iload_n 3 dX12_row_35 rfl ?_
    refine ev_iload_n 1 dX12_row_36 rfl ?_
    refine ev_icmp_ge 98 dX12_row_37 (by decide) (fun c9 => ?_) (fun c9 => ?_)
    · replace h := am_ifp c9 h
      refine ev_aload_n 0 dX12_row_98 rfl ?_
      refine ev_iload_n 2 dX12_row_99 rfl ?_
      obtain ⟨v10, g11, e12, h⟩ := am_bd_elim h
      refine ev_callVi (v := v10) [.int x6] [] dX12_row_100 (tX12_tell e12) (by decide) mo_X12_tell kM_X12_176 ki_X12_tell kv_X12_tell (fun h9 => (h9.2.1 0 _ rfl).2) (by decide) rfl (Nat.le_of_ble_eq_true rfl) ?_
      cases h
      exact ev_iret dX12_row_103 rfl
    · replace h := am_ifn c9 h
      refine ev_iload_n 3 dX12_row_40 rfl ?_
      refine ev_iconst dX12_row_41 rfl ?_
      refine ev_iadd dX12_row_42 ?_
      refine ev_iload_n 1 dX12_row_43 rfl ?_
      refine am_jn_elim (fun q9 => ∀ (x14 : Int32) (g15 : am_G) (r : Int32 × am_G), q9 x14 g15 = some r → am_Ev zr MX12_row 2 92 [(0, .ref 0), (1, .int x2), (2, .int x14), (3, .int x7)] [] g15 (am_ri r)) h ?_ (fun j16 hj16 h => ?_)
      · intro x14 g15 r h
        try dsimp only at h
        obtain ⟨x17, ex17, h⟩ := am_let_ex h
        refine ev_iinc (ls' := [(3, .int x17), (0, .ref 0), (1, .int x2), (2, .int x14)]) 3 dX12_row_92 rfl ex17 (by decide) rfl ?_
        refine ev_goto 35 dX12_row_95 (by decide) ?_
        refine ev_sub [1, 2, 3, 0] rfl ?_
        exact ih _ _ _ _ h
      · refine am_jn_elim (fun q9 => ∀  (g18 : am_G) (r : Int32 × am_G), q9  g18 = some r → am_Ev zr MX12_row 2 82 [(0, .ref 0), (1, .int x2), (2, .int x6), (3, .int x7)] [] g18 (am_ri r)) h ?_ (fun j19 hj19 h => ?_)
        · intro  g18 r h
          try dsimp only at h
          refine ev_aload_n 0 dX12_row_82 rfl ?_
          refine ev_dup dX12_row_83 rfl ?_
          refine ev_gf (v := .int (am_I g18 0 11)) dX12_row_84 (fun h9 => (h9.2.1 0 _ rfl).2) 11 (by decide) (by decide) kF_X12_230 (fun _ => rfl) ?_
          refine ev_iconst dX12_row_87 rfl ?_
          refine ev_iadd dX12_row_88 ?_
          refine ev_pfi dX12_row_89 (fun h9 => (h9.2.1 0 _ rfl).2) 11 (by decide) (by decide) kF_X12_230 rfl rfl rfl (fun _ => rfl) ?_
          refine am_let_elim (P := fun g20 => am_Ev zr MX12_row 2 92 [(0, .ref 0), (1, .int x2), (2, .int x6), (3, .int x7)] [] g20 (am_ri r)) h fun g20 h => ?_
          refine ev_sub [0, 1, 2, 3] rfl ?_
          exact hj16 _ _ _ h
        · refine ev_icmp_ge 82 dX12_row_44 (by decide) (fun c13 => ?_) (fun c13 => ?_)
          · replace h := am_ifp c13 h
            refine ev_sub [0, 1, 2, 3] rfl ?_
            exact hj19  _ _ h
          · replace h := am_ifn c13 h
            refine ev_aload_n 0 dX12_row_47 rfl ?_
            refine ev_aload_n 0 dX12_row_48 rfl ?_
            refine ev_gf (v := .ref 9) dX12_row_49 (fun h9 => (h9.2.1 0 _ rfl).2) 12 (by decide) (by decide) kF_X12_35 (fun h9 => congrArg va_rf (h9.2.2 0 12 9 rfl)) ?_
            refine ev_iload_n 3 dX12_row_52 rfl ?_
            obtain ⟨c21, h⟩ := am_gd_elim h
            refine ev_iald dX12_row_53 (fun h9 => (h9.2.1 9 _ rfl).2) (am_in_vp c21) ?_
            refine ev_aload_n 0 dX12_row_54 rfl ?_
            refine ev_gf (v := .ref 9) dX12_row_55 (fun h9 => (h9.2.1 0 _ rfl).2) 12 (by decide) (by decide) kF_X12_35 (fun h9 => congrArg va_rf (h9.2.2 0 12 9 rfl)) ?_
            refine ev_iload_n 3 dX12_row_58 rfl ?_
            refine ev_iconst dX12_row_59 rfl ?_
            refine ev_iadd dX12_row_60 ?_
            obtain ⟨c22, h⟩ := am_gd_elim h
            refine ev_iald dX12_row_61 (fun h9 => (h9.2.1 9 _ rfl).2) (am_in_vp c22) ?_
            refine ev_aload_n 0 dX12_row_62 rfl ?_
            refine ev_gf (v := .ref 9) dX12_row_63 (fun h9 => (h9.2.1 0 _ rfl).2) 12 (by decide) (by decide) kF_X12_35 (fun h9 => congrArg va_rf (h9.2.2 0 12 9 rfl)) ?_
            refine ev_iload_n 3 dX12_row_66 rfl ?_
            refine ev_iconst dX12_row_67 rfl ?_
            refine ev_iadd dX12_row_68 ?_
            obtain ⟨c23, h⟩ := am_gd_elim h
            refine ev_iald dX12_row_69 (fun h9 => (h9.2.1 9 _ rfl).2) (am_in_vp c23) ?_
            obtain ⟨v24, g25, e26, h⟩ := am_bd_elim h
            refine ev_callVi (v := v24) [.int (am_I g8 9 x7.toNatClampNeg), .int (am_I g8 9 (x7 + (1 : Int32)).toNatClampNeg), .int (am_I g8 9 (x7 + (2 : Int32)).toNatClampNeg)] [] dX12_row_70 (tX12_word1 e26) (by decide) mo_X12_word1 kM_X12_213 ki_X12_word1 kv_X12_word1 (fun h9 => (h9.2.1 0 _ rfl).2) (by decide) rfl (Nat.le_of_ble_eq_true rfl) ?_
            refine ev_if_lt 82 dX12_row_73 (by decide) (fun c27 => ?_) (fun c27 => ?_)
            · replace h := am_ifp c27 h
              refine ev_sub [0, 1, 2, 3] rfl ?_
              exact hj19  _ _ h
            · replace h := am_ifn c27 h
              obtain ⟨x28, ex28, h⟩ := am_let_ex h
              refine ev_iinc (ls' := [(2, .int x28), (0, .ref 0), (1, .int x2), (3, .int x7)]) 2 dX12_row_76 rfl ex28 (by decide) rfl ?_
              refine ev_goto 92 dX12_row_79 (by decide) ?_
              refine ev_sub [1, 2, 0, 3] rfl ?_
              exact hj16 _ _ _ h
set_option maxRecDepth 100000 in
set_option maxHeartbeats 4000000 in
theorem eX12_row (g : am_G) (r : Int32 × am_G) (h : fX12_row g = some r) : am_Ev zr MX12_row 2 0 [(0, .ref 0)] [] g (am_ri r) := by
  unfold fX12_row at h
  refine ev_aload_n 0 dX12_row_0 rfl ?_
  refine ev_iconst dX12_row_1 rfl ?_
  refine ev_pfi dX12_row_2 (fun h9 => (h9.2.1 0 _ rfl).2) 0 (by decide) (by decide) kF_X12_163 rfl rfl rfl (fun _ => rfl) ?_
  refine am_let_elim (P := fun g1 => am_Ev zr MX12_row 2 5 [(0, .ref 0)] [] g1 (am_ri r)) h fun g1 h => ?_
  refine ev_aload_n 0 dX12_row_5 rfl ?_
  refine ev_gf (v := .int (am_I g1 0 13)) dX12_row_6 (fun h9 => (h9.2.1 0 _ rfl).2) 13 (by decide) (by decide) kF_X12_227 (fun _ => rfl) ?_
  refine am_let_elim (P := fun x2 => am_Ev zr MX12_row 2 9 [(0, .ref 0)] [.int x2] g1 (am_ri r)) h fun x2 h => ?_
  refine ev_istore_n (ls' := [(1, .int x2), (0, .ref 0)]) dX12_row_9 rfl (by decide) rfl ?_
  refine ev_aload_n 1 dX12_row_10 rfl ?_
  refine ev_iconst dX12_row_11 rfl ?_
  refine ev_pfi dX12_row_12 (fun h9 => (h9.2.1 0 _ rfl).2) 13 (by decide) (by decide) kF_X12_227 rfl rfl rfl (fun _ => rfl) ?_
  refine am_let_elim (P := fun g3 => am_Ev zr MX12_row 2 15 [(1, .int x2), (0, .ref 0)] [] g3 (am_ri r)) h fun g3 h => ?_
  refine ev_iload_n 0 dX12_row_15 rfl ?_
  refine ev_if_ne 26 dX12_row_16 (by decide) (fun c4 => ?_) (fun c4 => ?_)
  · replace h := am_ifn c4 h
    refine ev_aload_n 1 dX12_row_26 rfl ?_
    refine ev_iconst dX12_row_27 rfl ?_
    refine ev_pfi dX12_row_28 (fun h9 => (h9.2.1 0 _ rfl).2) 11 (by decide) (by decide) kF_X12_230 rfl rfl rfl (fun _ => rfl) ?_
    refine am_let_elim (P := fun g5 => am_Ev zr MX12_row 2 31 [(1, .int x2), (0, .ref 0)] [] g5 (am_ri r)) h fun g5 h => ?_
    refine ev_iconst dX12_row_31 rfl ?_
    refine ev_istore_n (ls' := [(2, .int (0 : Int32)), (1, .int x2), (0, .ref 0)]) dX12_row_32 rfl (by decide) rfl ?_
    refine ev_iconst dX12_row_33 rfl ?_
    refine ev_istore_n (ls' := [(3, .int (0 : Int32)), (2, .int (0 : Int32)), (1, .int x2), (0, .ref 0)]) dX12_row_34 rfl (by decide) rfl ?_
    refine ev_sub [3, 2, 1, 0] rfl ?_
    exact tfX12_row_L35 x2 _ _ _ _ _ h
  · replace h := am_ifp c4 h
    refine ev_aload_n 1 dX12_row_19 rfl ?_
    refine ev_bipush dX12_row_20 rfl ?_
    obtain ⟨v29, g30, e31, h⟩ := am_bd_elim h
    refine ev_callVi (v := v29) [.int (-6 : Int32)] [] dX12_row_22 (tX12_tell e31) (by decide) mo_X12_tell kM_X12_176 ki_X12_tell kv_X12_tell (fun h9 => (h9.2.1 0 _ rfl).2) (by decide) rfl (Nat.le_of_ble_eq_true rfl) ?_
    cases h
    exact ev_iret dX12_row_25 rfl
theorem tX12_row {g : am_G} {r : Int32 × am_G} (h : fX12_row g = some r) : am_Mt zr MX12_row 2 [.ref 0] g (am_ri r) := am_Mt.of rfl (Nat.le_of_ble_eq_true rfl) (eX12_row _ _ h)
def fX12_murmur (g : am_G) : Option (Int32 × am_G) :=
  am_let (am_si g 0 0 (0 : Int32)) fun g1 =>
  some (am_I g1 0 11, g1)
set_option maxRecDepth 100000 in
set_option maxHeartbeats 4000000 in
theorem eX12_murmur (g : am_G) (r : Int32 × am_G) (h : fX12_murmur g = some r) : am_Ev zr MX12_murmur 0 0 [(0, .ref 0)] [] g (am_ri r) := by
  unfold fX12_murmur at h
  refine ev_aload_n 0 dX12_murmur_0 rfl ?_
  refine ev_iconst dX12_murmur_1 rfl ?_
  refine ev_pfi dX12_murmur_2 (fun h9 => (h9.2.1 0 _ rfl).2) 0 (by decide) (by decide) kF_X12_163 rfl rfl rfl (fun _ => rfl) ?_
  refine am_let_elim (P := fun g1 => am_Ev zr MX12_murmur 0 5 [(0, .ref 0)] [] g1 (am_ri r)) h fun g1 h => ?_
  refine ev_aload_n 0 dX12_murmur_5 rfl ?_
  refine ev_gf (v := .int (am_I g1 0 11)) dX12_murmur_6 (fun h9 => (h9.2.1 0 _ rfl).2) 11 (by decide) (by decide) kF_X12_230 (fun _ => rfl) ?_
  cases h
  exact ev_iret dX12_murmur_9 rfl
theorem tX12_murmur {g : am_G} {r : Int32 × am_G} (h : fX12_murmur g = some r) : am_Mt zr MX12_murmur 0 [.ref 0] g (am_ri r) := am_Mt.of rfl (Nat.le_of_ble_eq_true rfl) (eX12_murmur _ _ h)
def fX12_four_L3 (a1 : Int32) : Nat → Int32 → am_G → Option (Unit × am_G)
  | 0, _, _ => none
  | n + 1, x1, g2 =>
    if x1 < 0 then (
      some ((), g2))
    else (
      am_gd (am_in (am_I g2 0 13) 400) <|
      am_let (am_si g2 9 (am_I g2 0 13).toNatClampNeg ((a1 >>> (x1 &&& 31)) &&& (255 : Int32))) fun g5 =>
      am_let (am_si g5 0 13 ((am_I g5 0 13) + (1 : Int32))) fun g6 =>
      am_let (x1 + (-8 : Int32)) fun x7 =>
      fX12_four_L3 a1 n x7 g6)
def fX12_four (a1 : Int32) (g : am_G) : Option (Unit × am_G) :=
  fX12_four_L3 a1 am_fu (24 : Int32) g
set_option maxRecDepth 100000 in
set_option maxHeartbeats 4000000 in
theorem tfX12_four_L3  (a1 : Int32) : ∀ (n : Nat) (x1 : Int32) (g2 : am_G) (r : Unit × am_G), fX12_four_L3 a1 n x1 g2 = some r → am_Ev zr MX12_four 0 3 [(0, .ref 0), (1, .int a1), (2, .int x1)] [] g2 (am_rv r) := by
  intro n
  induction n with
  | zero => intro x1 g2 r h; exact nomatch (show (none : Option (Unit × am_G)) = some r from h)
  | succ n ih =>
    intro x1 g2 r h
    rw [fX12_four_L3] at h
    refine ev_iload_n 2 dX12_four_3 rfl ?_
    refine ev_if_lt 39 dX12_four_4 (by decide) (fun c3 => ?_) (fun c3 => ?_)
    · replace h := am_ifp c3 h
      cases h
      exact ev_ret dX12_four_39 rfl
    · replace h := am_ifn c3 h
      refine ev_aload_n 0 dX12_four_7 rfl ?_
      refine ev_gf (v := .ref 9) dX12_four_8 (fun h9 => (h9.2.1 0 _ rfl).2) 12 (by decide) (by decide) kF_X12_35 (fun h9 => congrArg va_rf (h9.2.2 0 12 9 rfl)) ?_
      refine ev_aload_n 0 dX12_four_11 rfl ?_
      refine ev_gf (v := .int (am_I g2 0 13)) dX12_four_12 (fun h9 => (h9.2.1 0 _ rfl).2) 13 (by decide) (by decide) kF_X12_227 (fun _ => rfl) ?_
      refine ev_iload_n 1 dX12_four_15 rfl ?_
      refine ev_iload_n 2 dX12_four_16 rfl ?_
      refine ev_ishr dX12_four_17 ?_
      refine ev_sipush dX12_four_18 rfl ?_
      refine ev_iand dX12_four_21 ?_
      obtain ⟨c4, h⟩ := am_gd_elim h
      refine ev_iast dX12_four_22 (fun h9 => (h9.2.1 9 _ rfl).2) (am_in_vp c4) ?_
      refine am_let_elim (P := fun g5 => am_Ev zr MX12_four 0 23 [(0, .ref 0), (1, .int a1), (2, .int x1)] [] g5 (am_rv r)) h fun g5 h => ?_
      refine ev_aload_n 0 dX12_four_23 rfl ?_
      refine ev_dup dX12_four_24 rfl ?_
      refine ev_gf (v := .int (am_I g5 0 13)) dX12_four_25 (fun h9 => (h9.2.1 0 _ rfl).2) 13 (by decide) (by decide) kF_X12_227 (fun _ => rfl) ?_
      refine ev_iconst dX12_four_28 rfl ?_
      refine ev_iadd dX12_four_29 ?_
      refine ev_pfi dX12_four_30 (fun h9 => (h9.2.1 0 _ rfl).2) 13 (by decide) (by decide) kF_X12_227 rfl rfl rfl (fun _ => rfl) ?_
      refine am_let_elim (P := fun g6 => am_Ev zr MX12_four 0 33 [(0, .ref 0), (1, .int a1), (2, .int x1)] [] g6 (am_rv r)) h fun g6 h => ?_
      obtain ⟨x7, ex7, h⟩ := am_let_ex h
      refine ev_iinc (ls' := [(2, .int x7), (0, .ref 0), (1, .int a1)]) 2 dX12_four_33 rfl ex7 (by decide) rfl ?_
      refine ev_goto 3 dX12_four_36 (by decide) ?_
      refine ev_sub [1, 2, 0] rfl ?_
      exact ih _ _ _ h
set_option maxRecDepth 100000 in
set_option maxHeartbeats 4000000 in
theorem eX12_four (a1 : Int32) (g : am_G) (r : Unit × am_G) (h : fX12_four a1 g = some r) : am_Ev zr MX12_four 0 0 [(0, .ref 0), (1, .int a1)] [] g (am_rv r) := by
  unfold fX12_four at h
  refine ev_bipush dX12_four_0 rfl ?_
  refine ev_istore_n (ls' := [(2, .int (24 : Int32)), (0, .ref 0), (1, .int a1)]) dX12_four_2 rfl (by decide) rfl ?_
  refine ev_sub [1, 2, 0] rfl ?_
  exact tfX12_four_L3 a1 _ _ _ _ h
theorem tX12_four {a1 : Int32} {g : am_G} {r : Unit × am_G} (h : fX12_four a1 g = some r) : am_Mt zr MX12_four 0 [.ref 0, .int a1] g (am_rv r) := am_Mt.of rfl (Nat.le_of_ble_eq_true rfl) (eX12_four _ _ _ h)
def fX12_feed (a1 : Int32) (a2 : Int32) (a3 : Int32) (a4 : Int32) (a5 : Int32) (g : am_G) : Option (Int32 × am_G) :=
  am_let (am_si g 0 0 (0 : Int32)) fun g1 =>
  if ((am_I g1 0 13) + (20 : Int32)) ≤ (400 : Int32) then (
    am_bd (fX12_four a1 g1) fun u3 g4 =>
    am_bd (fX12_four a2 g4) fun u6 g7 =>
    am_bd (fX12_four a3 g7) fun u9 g10 =>
    am_bd (fX12_four a4 g10) fun u12 g13 =>
    am_bd (fX12_four a5 g13) fun u15 g16 =>
    some (am_I g16 0 13, g16))
  else (
    some ((-1 : Int32), g1))
set_option maxRecDepth 100000 in
set_option maxHeartbeats 4000000 in
theorem eX12_feed (a1 : Int32) (a2 : Int32) (a3 : Int32) (a4 : Int32) (a5 : Int32) (g : am_G) (r : Int32 × am_G) (h : fX12_feed a1 a2 a3 a4 a5 g = some r) : am_Ev zr MX12_feed 1 0 [(0, .ref 0), (1, .int a1), (2, .int a2), (3, .int a3), (4, .int a4), (5, .int a5)] [] g (am_ri r) := by
  unfold fX12_feed at h
  refine ev_aload_n 0 dX12_feed_0 rfl ?_
  refine ev_iconst dX12_feed_1 rfl ?_
  refine ev_pfi dX12_feed_2 (fun h9 => (h9.2.1 0 _ rfl).2) 0 (by decide) (by decide) kF_X12_163 rfl rfl rfl (fun _ => rfl) ?_
  refine am_let_elim (P := fun g1 => am_Ev zr MX12_feed 1 5 [(0, .ref 0), (1, .int a1), (2, .int a2), (3, .int a3), (4, .int a4), (5, .int a5)] [] g1 (am_ri r)) h fun g1 h => ?_
  refine ev_aload_n 0 dX12_feed_5 rfl ?_
  refine ev_gf (v := .int (am_I g1 0 13)) dX12_feed_6 (fun h9 => (h9.2.1 0 _ rfl).2) 13 (by decide) (by decide) kF_X12_227 (fun _ => rfl) ?_
  refine ev_bipush dX12_feed_9 rfl ?_
  refine ev_iadd dX12_feed_11 ?_
  refine ev_sipush dX12_feed_12 rfl ?_
  refine ev_icmp_le 20 dX12_feed_15 (by decide) (fun c2 => ?_) (fun c2 => ?_)
  · replace h := am_ifp c2 h
    refine ev_aload_n 0 dX12_feed_20 rfl ?_
    refine ev_iload_n 1 dX12_feed_21 rfl ?_
    obtain ⟨u3, g4, e5, h⟩ := am_bd_elim h
    refine ev_callVv [.int a1] [] dX12_feed_22 (tX12_four e5) (by decide) mo_X12_four kM_X12_233 ki_X12_four kv_X12_four (fun h9 => (h9.2.1 0 _ rfl).2) (by decide) rfl (Nat.le_of_ble_eq_true rfl) ?_
    refine ev_aload_n 0 dX12_feed_25 rfl ?_
    refine ev_iload_n 2 dX12_feed_26 rfl ?_
    obtain ⟨u6, g7, e8, h⟩ := am_bd_elim h
    refine ev_callVv [.int a2] [] dX12_feed_27 (tX12_four e8) (by decide) mo_X12_four kM_X12_233 ki_X12_four kv_X12_four (fun h9 => (h9.2.1 0 _ rfl).2) (by decide) rfl (Nat.le_of_ble_eq_true rfl) ?_
    refine ev_aload_n 0 dX12_feed_30 rfl ?_
    refine ev_iload_n 3 dX12_feed_31 rfl ?_
    obtain ⟨u9, g10, e11, h⟩ := am_bd_elim h
    refine ev_callVv [.int a3] [] dX12_feed_32 (tX12_four e11) (by decide) mo_X12_four kM_X12_233 ki_X12_four kv_X12_four (fun h9 => (h9.2.1 0 _ rfl).2) (by decide) rfl (Nat.le_of_ble_eq_true rfl) ?_
    refine ev_aload_n 0 dX12_feed_35 rfl ?_
    refine ev_iload 4 dX12_feed_36 rfl ?_
    obtain ⟨u12, g13, e14, h⟩ := am_bd_elim h
    refine ev_callVv [.int a4] [] dX12_feed_38 (tX12_four e14) (by decide) mo_X12_four kM_X12_233 ki_X12_four kv_X12_four (fun h9 => (h9.2.1 0 _ rfl).2) (by decide) rfl (Nat.le_of_ble_eq_true rfl) ?_
    refine ev_aload_n 0 dX12_feed_41 rfl ?_
    refine ev_iload 5 dX12_feed_42 rfl ?_
    obtain ⟨u15, g16, e17, h⟩ := am_bd_elim h
    refine ev_callVv [.int a5] [] dX12_feed_44 (tX12_four e17) (by decide) mo_X12_four kM_X12_233 ki_X12_four kv_X12_four (fun h9 => (h9.2.1 0 _ rfl).2) (by decide) rfl (Nat.le_of_ble_eq_true rfl) ?_
    refine ev_aload_n 0 dX12_feed_47 rfl ?_
    refine ev_gf (v := .int (am_I g16 0 13)) dX12_feed_48 (fun h9 => (h9.2.1 0 _ rfl).2) 13 (by decide) (by decide) kF_X12_227 (fun _ => rfl) ?_
    cases h
    exact ev_iret dX12_feed_51 rfl
  · replace h := am_ifn c2 h
    refine ev_iconst dX12_feed_18 rfl ?_
    cases h
    exact ev_iret dX12_feed_19 rfl
theorem tX12_feed {a1 : Int32} {a2 : Int32} {a3 : Int32} {a4 : Int32} {a5 : Int32} {g : am_G} {r : Int32 × am_G} (h : fX12_feed a1 a2 a3 a4 a5 g = some r) : am_Mt zr MX12_feed 1 [.ref 0, .int a1, .int a2, .int a3, .int a4, .int a5] g (am_ri r) := am_Mt.of rfl (Nat.le_of_ble_eq_true rfl) (eX12_feed _ _ _ _ _ _ _ h)
def fX12_end (a1 : Int32) (g : am_G) : Option (Int32 × am_G) :=
  am_let (am_si g 0 0 (0 : Int32)) fun g1 =>
  if a1 < 0 then (
    some ((-1 : Int32), g1))
  else (
    if a1 ≤ (am_I g1 0 13) then (
      am_let (am_si g1 0 13 a1) fun g4 =>
      some (a1, g4))
    else (
      some ((-1 : Int32), g1)))
set_option maxRecDepth 100000 in
set_option maxHeartbeats 4000000 in
theorem eX12_end (a1 : Int32) (g : am_G) (r : Int32 × am_G) (h : fX12_end a1 g = some r) : am_Ev zr MX12_end 0 0 [(0, .ref 0), (1, .int a1)] [] g (am_ri r) := by
  unfold fX12_end at h
  refine ev_aload_n 0 dX12_end_0 rfl ?_
  refine ev_iconst dX12_end_1 rfl ?_
  refine ev_pfi dX12_end_2 (fun h9 => (h9.2.1 0 _ rfl).2) 0 (by decide) (by decide) kF_X12_163 rfl rfl rfl (fun _ => rfl) ?_
  refine am_let_elim (P := fun g1 => am_Ev zr MX12_end 0 5 [(0, .ref 0), (1, .int a1)] [] g1 (am_ri r)) h fun g1 h => ?_
  refine ev_iload_n 1 dX12_end_5 rfl ?_
  refine ev_if_lt 17 dX12_end_6 (by decide) (fun c2 => ?_) (fun c2 => ?_)
  · replace h := am_ifp c2 h
    refine ev_iconst dX12_end_17 rfl ?_
    cases h
    exact ev_iret dX12_end_18 rfl
  · replace h := am_ifn c2 h
    refine ev_iload_n 1 dX12_end_9 rfl ?_
    refine ev_aload_n 0 dX12_end_10 rfl ?_
    refine ev_gf (v := .int (am_I g1 0 13)) dX12_end_11 (fun h9 => (h9.2.1 0 _ rfl).2) 13 (by decide) (by decide) kF_X12_227 (fun _ => rfl) ?_
    refine ev_icmp_le 19 dX12_end_14 (by decide) (fun c3 => ?_) (fun c3 => ?_)
    · replace h := am_ifp c3 h
      refine ev_aload_n 0 dX12_end_19 rfl ?_
      refine ev_iload_n 1 dX12_end_20 rfl ?_
      refine ev_pfi dX12_end_21 (fun h9 => (h9.2.1 0 _ rfl).2) 13 (by decide) (by decide) kF_X12_227 rfl rfl rfl (fun _ => rfl) ?_
      refine am_let_elim (P := fun g4 => am_Ev zr MX12_end 0 24 [(0, .ref 0), (1, .int a1)] [] g4 (am_ri r)) h fun g4 h => ?_
      refine ev_iload_n 1 dX12_end_24 rfl ?_
      cases h
      exact ev_iret dX12_end_25 rfl
    · replace h := am_ifn c3 h
      refine ev_iconst dX12_end_17 rfl ?_
      cases h
      exact ev_iret dX12_end_18 rfl
theorem tX12_end {a1 : Int32} {g : am_G} {r : Int32 × am_G} (h : fX12_end a1 g = some r) : am_Mt zr MX12_end 0 [.ref 0, .int a1] g (am_ri r) := am_Mt.of rfl (Nat.le_of_ble_eq_true rfl) (eX12_end _ _ _ h)
def fX12_isSmall (a0 : Int32) (g : am_G) : Option (Int32 × am_G) :=
  if a0 < (97 : Int32) then (
    some ((0 : Int32), g))
  else (
    if (122 : Int32) < a0 then (
      some ((0 : Int32), g))
    else (
      some ((1 : Int32), g)))
set_option maxRecDepth 100000 in
set_option maxHeartbeats 4000000 in
theorem eX12_isSmall (a0 : Int32) (g : am_G) (r : Int32 × am_G) (h : fX12_isSmall a0 g = some r) : am_Ev zr MX12_isSmall 0 0 [(0, .int a0)] [] g (am_ri r) := by
  unfold fX12_isSmall at h
  refine ev_iload_n 0 dX12_isSmall_0 rfl ?_
  refine ev_bipush dX12_isSmall_1 rfl ?_
  refine ev_icmp_lt 16 dX12_isSmall_3 (by decide) (fun c1 => ?_) (fun c1 => ?_)
  · replace h := am_ifp c1 h
    refine ev_iconst dX12_isSmall_16 rfl ?_
    cases h
    exact ev_zret dX12_isSmall_17 rfl rfl
  · replace h := am_ifn c1 h
    refine ev_iload_n 0 dX12_isSmall_6 rfl ?_
    refine ev_bipush dX12_isSmall_7 rfl ?_
    refine ev_icmp_gt 16 dX12_isSmall_9 (by decide) (fun c2 => ?_) (fun c2 => ?_)
    · replace h := am_ifp c2 h
      refine ev_iconst dX12_isSmall_16 rfl ?_
      cases h
      exact ev_zret dX12_isSmall_17 rfl rfl
    · replace h := am_ifn c2 h
      refine ev_iconst dX12_isSmall_12 rfl ?_
      refine ev_goto 17 dX12_isSmall_13 (by decide) ?_
      cases h
      exact ev_zret dX12_isSmall_17 rfl rfl
theorem tX12_isSmall {a0 : Int32} {g : am_G} {r : Int32 × am_G} (h : fX12_isSmall a0 g = some r) : am_Mt zr MX12_isSmall 0 [.int a0] g (am_ri r) := am_Mt.of rfl (Nat.le_of_ble_eq_true rfl) (eX12_isSmall _ _ _ h)
def fX12_isDigit (a0 : Int32) (g : am_G) : Option (Int32 × am_G) :=
  if a0 < (48 : Int32) then (
    some ((0 : Int32), g))
  else (
    if (57 : Int32) < a0 then (
      some ((0 : Int32), g))
    else (
      some ((1 : Int32), g)))
set_option maxRecDepth 100000 in
set_option maxHeartbeats 4000000 in
theorem eX12_isDigit (a0 : Int32) (g : am_G) (r : Int32 × am_G) (h : fX12_isDigit a0 g = some r) : am_Ev zr MX12_isDigit 0 0 [(0, .int a0)] [] g (am_ri r) := by
  unfold fX12_isDigit at h
  refine ev_iload_n 0 dX12_isDigit_0 rfl ?_
  refine ev_bipush dX12_isDigit_1 rfl ?_
  refine ev_icmp_lt 16 dX12_isDigit_3 (by decide) (fun c1 => ?_) (fun c1 => ?_)
  · replace h := am_ifp c1 h
    refine ev_iconst dX12_isDigit_16 rfl ?_
    cases h
    exact ev_zret dX12_isDigit_17 rfl rfl
  · replace h := am_ifn c1 h
    refine ev_iload_n 0 dX12_isDigit_6 rfl ?_
    refine ev_bipush dX12_isDigit_7 rfl ?_
    refine ev_icmp_gt 16 dX12_isDigit_9 (by decide) (fun c2 => ?_) (fun c2 => ?_)
    · replace h := am_ifp c2 h
      refine ev_iconst dX12_isDigit_16 rfl ?_
      cases h
      exact ev_zret dX12_isDigit_17 rfl rfl
    · replace h := am_ifn c2 h
      refine ev_iconst dX12_isDigit_12 rfl ?_
      refine ev_goto 17 dX12_isDigit_13 (by decide) ?_
      cases h
      exact ev_zret dX12_isDigit_17 rfl rfl
theorem tX12_isDigit {a0 : Int32} {g : am_G} {r : Int32 × am_G} (h : fX12_isDigit a0 g = some r) : am_Mt zr MX12_isDigit 0 [.int a0] g (am_ri r) := am_Mt.of rfl (Nat.le_of_ble_eq_true rfl) (eX12_isDigit _ _ _ h)
def fX12_next_L8 (k : am_G → Option (Unit × am_G)) : Nat → am_G → Option (Unit × am_G)
  | 0, _ => none
  | n + 1, g2 =>
    if (am_I g2 0 13) ≤ (am_I g2 0 14) then (
      k g2)
    else (
      am_gd (am_in (am_I g2 0 14) 400) <|
      if (am_I g2 9 (am_I g2 0 14).toNatClampNeg) = (32 : Int32) then (
        am_let (am_si g2 0 14 ((am_I g2 0 14) + (1 : Int32))) fun g7 =>
        fX12_next_L8 k n g7)
      else (
        k g2))
def fX12_next_L149 (k : am_G → Option (Unit × am_G)) : Nat → am_G → Option (Unit × am_G)
  | 0, _ => none
  | n + 1, g17 =>
    if (am_I g17 0 16) = (1 : Int32) then (
      if (am_I g17 0 13) ≤ (am_I g17 0 15) then (
        k g17)
      else (
        am_gd (am_in (am_I g17 0 15) 400) <|
        am_bd (fX12_isSmall (am_I g17 9 (am_I g17 0 15).toNatClampNeg) g17) fun v22 g23 =>
        if v22 = 0 then (
          k g23)
        else (
          am_jn (fun (y27 : Int64) (g28 : am_G) =>
            am_let (am_sl g28 0 17 y27) fun g30 =>
            am_let (am_si g30 0 15 ((am_I g30 0 15) + (1 : Int32))) fun g31 =>
            fX12_next_L149 k n g31) fun j29 =>
          if (10 : Int32) ≤ ((am_I g23 0 15) - (am_I g23 0 14)) then (
            j29 (-1 : Int64) g23)
          else (
            am_gd (am_in (am_I g23 0 15) 400) <|
            j29 ((((am_L g23 0 17) * (32 : Int64)) + ((am_I g23 9 (am_I g23 0 15).toNatClampNeg).toInt64)) - (96 : Int64)) g23))))
    else (
      k g17)
def fX12_next_L243 : Nat → am_G → Option (Unit × am_G)
  | 0, _ => none
  | n + 1, g34 =>
    if (am_I g34 0 16) = (2 : Int32) then (
      if (am_I g34 0 13) ≤ (am_I g34 0 15) then (
        some ((), g34))
      else (
        am_gd (am_in (am_I g34 0 15) 400) <|
        am_bd (fX12_isDigit (am_I g34 9 (am_I g34 0 15).toNatClampNeg) g34) fun v38 g39 =>
        if v38 = 0 then (
          some ((), g39))
        else (
          am_jn (fun (y43 : Int64) (g44 : am_G) =>
            am_let (am_sl g44 0 17 y43) fun g46 =>
            am_let (am_si g46 0 15 ((am_I g46 0 15) + (1 : Int32))) fun g47 =>
            fX12_next_L243 n g47) fun j45 =>
          if (lg_cmp (am_L g39 0 17) (1000000 : Int64)) ≤ 0 then (
            am_gd (am_in (am_I g39 0 15) 400) <|
            j45 ((((am_L g39 0 17) * (10 : Int64)) + ((am_I g39 9 (am_I g39 0 15).toNatClampNeg).toInt64)) - (48 : Int64)) g39)
          else (
            j45 (am_L g39 0 17) g39))))
    else (
      some ((), g34))
def fX12_next (g : am_G) : Option (Unit × am_G) :=
  am_let (am_si g 0 14 (am_I g 0 15)) fun g1 =>
  fX12_next_L8 (fun  (g8 : am_G) =>
    am_let (am_si g8 0 15 (am_I g8 0 14)) fun g9 =>
    am_let (am_sl g9 0 17 (0 : Int64)) fun g10 =>
    am_jn (fun (x12 : Int32) (g13 : am_G) =>
      am_let (am_si g13 0 16 x12) fun g15 =>
      if (am_I g15 0 16) = (3 : Int32) then (
        am_gd (am_in (am_I g15 0 14) 400) <|
        am_let (am_sl g15 0 17 ((am_I g15 9 (am_I g15 0 14).toNatClampNeg).toInt64)) fun g50 =>
        am_let (am_si g50 0 15 ((am_I g50 0 15) + (1 : Int32))) fun g51 =>
        fX12_next_L149 (fun  (g52 : am_G) =>
          fX12_next_L243 am_fu g52) am_fu g51)
      else (
        fX12_next_L149 (fun  (g33 : am_G) =>
          fX12_next_L243 am_fu g33) am_fu g15)) fun j14 =>
    if (am_I g10 0 14) = (am_I g10 0 13) then (
      j14 (0 : Int32) g10)
    else (
      am_gd (am_in (am_I g10 0 14) 400) <|
      am_bd (fX12_isSmall (am_I g10 9 (am_I g10 0 14).toNatClampNeg) g10) fun v54 g55 =>
      if v54 = 0 then (
        am_gd (am_in (am_I g55 0 14) 400) <|
        am_bd (fX12_isDigit (am_I g55 9 (am_I g55 0 14).toNatClampNeg) g55) fun v59 g60 =>
        if v59 = 0 then (
          j14 (3 : Int32) g60)
        else (
          j14 (2 : Int32) g60))
      else (
        j14 (1 : Int32) g55))) am_fu g1
set_option maxRecDepth 100000 in
set_option maxHeartbeats 4000000 in
theorem tfX12_next_L8  {k : am_G → Option (Unit × am_G)} (hk : ∀  (g3 : am_G) (r : Unit × am_G), k  g3 = some r → am_Ev zr MX12_next 1 46 [(0, .ref 0)] [] g3 (am_rv r)) : ∀ (n : Nat)  (g2 : am_G) (r : Unit × am_G), fX12_next_L8 k n  g2 = some r → am_Ev zr MX12_next 1 8 [(0, .ref 0)] [] g2 (am_rv r) := by
  intro n
  induction n with
  | zero => intro  g2 r h; exact nomatch (show (none : Option (Unit × am_G)) = some r from h)
  | succ n ih =>
    intro  g2 r h
    rw [fX12_next_L8] at h
    refine ev_aload_n 0 dX12_next_8 rfl ?_
    refine ev_gf (v := .int (am_I g2 0 14)) dX12_next_9 (fun h9 => (h9.2.1 0 _ rfl).2) 14 (by decide) (by decide) kF_X12_246 (fun _ => rfl) ?_
    refine ev_aload_n 0 dX12_next_12 rfl ?_
    refine ev_gf (v := .int (am_I g2 0 13)) dX12_next_13 (fun h9 => (h9.2.1 0 _ rfl).2) 13 (by decide) (by decide) kF_X12_227 (fun _ => rfl) ?_
    refine ev_icmp_ge 46 dX12_next_16 (by decide) (fun c4 => ?_) (fun c4 => ?_)
    · replace h := am_ifp c4 h
      refine ev_sub [0] rfl ?_
      exact hk  _ _ h
    · replace h := am_ifn c4 h
      refine ev_aload_n 0 dX12_next_19 rfl ?_
      refine ev_gf (v := .ref 9) dX12_next_20 (fun h9 => (h9.2.1 0 _ rfl).2) 12 (by decide) (by decide) kF_X12_35 (fun h9 => congrArg va_rf (h9.2.2 0 12 9 rfl)) ?_
      refine ev_aload_n 0 dX12_next_23 rfl ?_
      refine ev_gf (v := .int (am_I g2 0 14)) dX12_next_24 (fun h9 => (h9.2.1 0 _ rfl).2) 14 (by decide) (by decide) kF_X12_246 (fun _ => rfl) ?_
      obtain ⟨c5, h⟩ := am_gd_elim h
      refine ev_iald dX12_next_27 (fun h9 => (h9.2.1 9 _ rfl).2) (am_in_vp c5) ?_
      refine ev_bipush dX12_next_28 rfl ?_
      refine ev_icmp_ne 46 dX12_next_30 (by decide) (fun c6 => ?_) (fun c6 => ?_)
      · replace h := am_ifn c6 h
        refine ev_sub [0] rfl ?_
        exact hk  _ _ h
      · replace h := am_ifp c6 h
        refine ev_aload_n 0 dX12_next_33 rfl ?_
        refine ev_dup dX12_next_34 rfl ?_
        refine ev_gf (v := .int (am_I g2 0 14)) dX12_next_35 (fun h9 => (h9.2.1 0 _ rfl).2) 14 (by decide) (by decide) kF_X12_246 (fun _ => rfl) ?_
        refine ev_iconst dX12_next_38 rfl ?_
        refine ev_iadd dX12_next_39 ?_
        refine ev_pfi dX12_next_40 (fun h9 => (h9.2.1 0 _ rfl).2) 14 (by decide) (by decide) kF_X12_246 rfl rfl rfl (fun _ => rfl) ?_
        refine am_let_elim (P := fun g7 => am_Ev zr MX12_next 1 43 [(0, .ref 0)] [] g7 (am_rv r)) h fun g7 h => ?_
        refine ev_goto 8 dX12_next_43 (by decide) ?_
        refine ev_sub [0] rfl ?_
        exact ih  _ _ h
set_option maxRecDepth 100000 in
set_option maxHeartbeats 4000000 in
theorem tfX12_next_L149  {k : am_G → Option (Unit × am_G)} (hk : ∀  (g18 : am_G) (r : Unit × am_G), k  g18 = some r → am_Ev zr MX12_next 1 243 [(0, .ref 0)] [] g18 (am_rv r)) : ∀ (n : Nat)  (g17 : am_G) (r : Unit × am_G), fX12_next_L149 k n  g17 = some r → am_Ev zr MX12_next 1 149 [(0, .ref 0)] [] g17 (am_rv r) := by
  intro n
  induction n with
  | zero => intro  g17 r h; exact nomatch (show (none : Option (Unit × am_G)) = some r from h)
  | succ n ih =>
    intro  g17 r h
    rw [fX12_next_L149] at h
    refine ev_aload_n 0 dX12_next_149 rfl ?_
    refine ev_gf (v := .int (am_I g17 0 16)) dX12_next_150 (fun h9 => (h9.2.1 0 _ rfl).2) 16 (by decide) (by decide) kF_X12_259 (fun _ => rfl) ?_
    refine ev_iconst dX12_next_153 rfl ?_
    refine ev_icmp_ne 243 dX12_next_154 (by decide) (fun c19 => ?_) (fun c19 => ?_)
    · replace h := am_ifn c19 h
      refine ev_sub [0] rfl ?_
      exact hk  _ _ h
    · replace h := am_ifp c19 h
      refine ev_aload_n 0 dX12_next_157 rfl ?_
      refine ev_gf (v := .int (am_I g17 0 15)) dX12_next_158 (fun h9 => (h9.2.1 0 _ rfl).2) 15 (by decide) (by decide) kF_X12_236 (fun _ => rfl) ?_
      refine ev_aload_n 0 dX12_next_161 rfl ?_
      refine ev_gf (v := .int (am_I g17 0 13)) dX12_next_162 (fun h9 => (h9.2.1 0 _ rfl).2) 13 (by decide) (by decide) kF_X12_227 (fun _ => rfl) ?_
      refine ev_icmp_ge 243 dX12_next_165 (by decide) (fun c20 => ?_) (fun c20 => ?_)
      · replace h := am_ifp c20 h
        refine ev_sub [0] rfl ?_
        exact hk  _ _ h
      · replace h := am_ifn c20 h
        refine ev_aload_n 0 dX12_next_168 rfl ?_
        refine ev_gf (v := .ref 9) dX12_next_169 (fun h9 => (h9.2.1 0 _ rfl).2) 12 (by decide) (by decide) kF_X12_35 (fun h9 => congrArg va_rf (h9.2.2 0 12 9 rfl)) ?_
        refine ev_aload_n 0 dX12_next_172 rfl ?_
        refine ev_gf (v := .int (am_I g17 0 15)) dX12_next_173 (fun h9 => (h9.2.1 0 _ rfl).2) 15 (by decide) (by decide) kF_X12_236 (fun _ => rfl) ?_
        obtain ⟨c21, h⟩ := am_gd_elim h
        refine ev_iald dX12_next_176 (fun h9 => (h9.2.1 9 _ rfl).2) (am_in_vp c21) ?_
        obtain ⟨v22, g23, e24, h⟩ := am_bd_elim h
        refine ev_callSi (v := v22) [.int (am_I g17 9 (am_I g17 0 15).toNatClampNeg)] [] dX12_next_177 (tX12_isSmall e24) (by decide) mo_X12_isSmall kM_X12_253 ks_X12_isSmall (Nat.le_of_ble_eq_true rfl) ?_
        refine ev_if_eq 243 dX12_next_180 (by decide) (fun c25 => ?_) (fun c25 => ?_)
        · replace h := am_ifp c25 h
          refine ev_sub [0] rfl ?_
          exact hk  _ _ h
        · replace h := am_ifn c25 h
          refine ev_aload_n 0 dX12_next_183 rfl ?_
          refine ev_aload_n 0 dX12_next_184 rfl ?_
          refine ev_gf (v := .int (am_I g23 0 15)) dX12_next_185 (fun h9 => (h9.2.1 0 _ rfl).2) 15 (by decide) (by decide) kF_X12_236 (fun _ => rfl) ?_
          refine ev_aload_n 0 dX12_next_188 rfl ?_
          refine ev_gf (v := .int (am_I g23 0 14)) dX12_next_189 (fun h9 => (h9.2.1 0 _ rfl).2) 14 (by decide) (by decide) kF_X12_246 (fun _ => rfl) ?_
          refine ev_isub dX12_next_192 ?_
          refine ev_bipush dX12_next_193 rfl ?_
          refine am_jn_elim (fun q9 => ∀ (y27 : Int64) (g28 : am_G) (r : Unit × am_G), q9 y27 g28 = some r → am_Ev zr MX12_next 1 227 [(0, .ref 0)] [.long y27, .ref 0] g28 (am_rv r)) h ?_ (fun j29 hj29 h => ?_)
          · intro y27 g28 r h
            try dsimp only at h
            refine ev_pfl dX12_next_227 (fun h9 => (h9.2.1 0 _ rfl).2) 17 (by decide) (by decide) kF_X12_249 rfl rfl ?_
            refine am_let_elim (P := fun g30 => am_Ev zr MX12_next 1 230 [(0, .ref 0)] [] g30 (am_rv r)) h fun g30 h => ?_
            refine ev_aload_n 0 dX12_next_230 rfl ?_
            refine ev_dup dX12_next_231 rfl ?_
            refine ev_gf (v := .int (am_I g30 0 15)) dX12_next_232 (fun h9 => (h9.2.1 0 _ rfl).2) 15 (by decide) (by decide) kF_X12_236 (fun _ => rfl) ?_
            refine ev_iconst dX12_next_235 rfl ?_
            refine ev_iadd dX12_next_236 ?_
            refine ev_pfi dX12_next_237 (fun h9 => (h9.2.1 0 _ rfl).2) 15 (by decide) (by decide) kF_X12_236 rfl rfl rfl (fun _ => rfl) ?_
            refine am_let_elim (P := fun g31 => am_Ev zr MX12_next 1 240 [(0, .ref 0)] [] g31 (am_rv r)) h fun g31 h => ?_
            refine ev_goto 149 dX12_next_240 (by decide) ?_
            refine ev_sub [0] rfl ?_
            exact ih  _ _ h
          · refine ev_icmp_ge 224 dX12_next_195 (by decide) (fun c26 => ?_) (fun c26 => ?_)
            · replace h := am_ifp c26 h
              refine ev_ldc2 dX12_next_224 kL_X12_266 ?_
              refine ev_sub [0] rfl ?_
              exact hj29 _ _ _ h
            · replace h := am_ifn c26 h
              refine ev_aload_n 0 dX12_next_198 rfl ?_
              refine ev_gf (v := .long (am_L g23 0 17)) dX12_next_199 (fun h9 => (h9.2.1 0 _ rfl).2) 17 (by decide) (by decide) kF_X12_249 (fun _ => rfl) ?_
              refine ev_ldc2 dX12_next_202 kL_X12_262 ?_
              refine ev_lmul dX12_next_205 ?_
              refine ev_aload_n 0 dX12_next_206 rfl ?_
              refine ev_gf (v := .ref 9) dX12_next_207 (fun h9 => (h9.2.1 0 _ rfl).2) 12 (by decide) (by decide) kF_X12_35 (fun h9 => congrArg va_rf (h9.2.2 0 12 9 rfl)) ?_
              refine ev_aload_n 0 dX12_next_210 rfl ?_
              refine ev_gf (v := .int (am_I g23 0 15)) dX12_next_211 (fun h9 => (h9.2.1 0 _ rfl).2) 15 (by decide) (by decide) kF_X12_236 (fun _ => rfl) ?_
              obtain ⟨c32, h⟩ := am_gd_elim h
              refine ev_iald dX12_next_214 (fun h9 => (h9.2.1 9 _ rfl).2) (am_in_vp c32) ?_
              refine ev_i2l dX12_next_215 ?_
              refine ev_ladd dX12_next_216 ?_
              refine ev_ldc2 dX12_next_217 kL_X12_264 ?_
              refine ev_lsub dX12_next_220 ?_
              refine ev_goto 227 dX12_next_221 (by decide) ?_
              refine ev_sub [0] rfl ?_
              exact hj29 _ _ _ h
set_option maxRecDepth 100000 in
set_option maxHeartbeats 4000000 in
theorem tfX12_next_L243  : ∀ (n : Nat)  (g34 : am_G) (r : Unit × am_G), fX12_next_L243 n  g34 = some r → am_Ev zr MX12_next 1 243 [(0, .ref 0)] [] g34 (am_rv r) := by
  intro n
  induction n with
  | zero => intro  g34 r h; exact nomatch (show (none : Option (Unit × am_G)) = some r from h)
  | succ n ih =>
    intro  g34 r h
    rw [fX12_next_L243] at h
    refine ev_aload_n 0 dX12_next_243 rfl ?_
    refine ev_gf (v := .int (am_I g34 0 16)) dX12_next_244 (fun h9 => (h9.2.1 0 _ rfl).2) 16 (by decide) (by decide) kF_X12_259 (fun _ => rfl) ?_
    refine ev_iconst dX12_next_247 rfl ?_
    refine ev_icmp_ne 335 dX12_next_248 (by decide) (fun c35 => ?_) (fun c35 => ?_)
    · replace h := am_ifn c35 h
      cases h
      exact ev_ret dX12_next_335 rfl
    · replace h := am_ifp c35 h
      refine ev_aload_n 0 dX12_next_251 rfl ?_
      refine ev_gf (v := .int (am_I g34 0 15)) dX12_next_252 (fun h9 => (h9.2.1 0 _ rfl).2) 15 (by decide) (by decide) kF_X12_236 (fun _ => rfl) ?_
      refine ev_aload_n 0 dX12_next_255 rfl ?_
      refine ev_gf (v := .int (am_I g34 0 13)) dX12_next_256 (fun h9 => (h9.2.1 0 _ rfl).2) 13 (by decide) (by decide) kF_X12_227 (fun _ => rfl) ?_
      refine ev_icmp_ge 335 dX12_next_259 (by decide) (fun c36 => ?_) (fun c36 => ?_)
      · replace h := am_ifp c36 h
        cases h
        exact ev_ret dX12_next_335 rfl
      · replace h := am_ifn c36 h
        refine ev_aload_n 0 dX12_next_262 rfl ?_
        refine ev_gf (v := .ref 9) dX12_next_263 (fun h9 => (h9.2.1 0 _ rfl).2) 12 (by decide) (by decide) kF_X12_35 (fun h9 => congrArg va_rf (h9.2.2 0 12 9 rfl)) ?_
        refine ev_aload_n 0 dX12_next_266 rfl ?_
        refine ev_gf (v := .int (am_I g34 0 15)) dX12_next_267 (fun h9 => (h9.2.1 0 _ rfl).2) 15 (by decide) (by decide) kF_X12_236 (fun _ => rfl) ?_
        obtain ⟨c37, h⟩ := am_gd_elim h
        refine ev_iald dX12_next_270 (fun h9 => (h9.2.1 9 _ rfl).2) (am_in_vp c37) ?_
        obtain ⟨v38, g39, e40, h⟩ := am_bd_elim h
        refine ev_callSi (v := v38) [.int (am_I g34 9 (am_I g34 0 15).toNatClampNeg)] [] dX12_next_271 (tX12_isDigit e40) (by decide) mo_X12_isDigit kM_X12_256 ks_X12_isDigit (Nat.le_of_ble_eq_true rfl) ?_
        refine ev_if_eq 335 dX12_next_274 (by decide) (fun c41 => ?_) (fun c41 => ?_)
        · replace h := am_ifp c41 h
          cases h
          exact ev_ret dX12_next_335 rfl
        · replace h := am_ifn c41 h
          refine ev_aload_n 0 dX12_next_277 rfl ?_
          refine ev_aload_n 0 dX12_next_278 rfl ?_
          refine ev_gf (v := .long (am_L g39 0 17)) dX12_next_279 (fun h9 => (h9.2.1 0 _ rfl).2) 17 (by decide) (by decide) kF_X12_249 (fun _ => rfl) ?_
          refine ev_ldc2 dX12_next_282 kL_X12_268 ?_
          refine ev_lcmp dX12_next_285 ?_
          refine am_jn_elim (fun q9 => ∀ (y43 : Int64) (g44 : am_G) (r : Unit × am_G), q9 y43 g44 = some r → am_Ev zr MX12_next 1 319 [(0, .ref 0)] [.long y43, .ref 0] g44 (am_rv r)) h ?_ (fun j45 hj45 h => ?_)
          · intro y43 g44 r h
            try dsimp only at h
            refine ev_pfl dX12_next_319 (fun h9 => (h9.2.1 0 _ rfl).2) 17 (by decide) (by decide) kF_X12_249 rfl rfl ?_
            refine am_let_elim (P := fun g46 => am_Ev zr MX12_next 1 322 [(0, .ref 0)] [] g46 (am_rv r)) h fun g46 h => ?_
            refine ev_aload_n 0 dX12_next_322 rfl ?_
            refine ev_dup dX12_next_323 rfl ?_
            refine ev_gf (v := .int (am_I g46 0 15)) dX12_next_324 (fun h9 => (h9.2.1 0 _ rfl).2) 15 (by decide) (by decide) kF_X12_236 (fun _ => rfl) ?_
            refine ev_iconst dX12_next_327 rfl ?_
            refine ev_iadd dX12_next_328 ?_
            refine ev_pfi dX12_next_329 (fun h9 => (h9.2.1 0 _ rfl).2) 15 (by decide) (by decide) kF_X12_236 rfl rfl rfl (fun _ => rfl) ?_
            refine am_let_elim (P := fun g47 => am_Ev zr MX12_next 1 332 [(0, .ref 0)] [] g47 (am_rv r)) h fun g47 h => ?_
            refine ev_goto 243 dX12_next_332 (by decide) ?_
            refine ev_sub [0] rfl ?_
            exact ih  _ _ h
          · refine ev_if_le 296 dX12_next_286 (by decide) (fun c42 => ?_) (fun c42 => ?_)
            · replace h := am_ifp c42 h
              refine ev_aload_n 0 dX12_next_296 rfl ?_
              refine ev_gf (v := .long (am_L g39 0 17)) dX12_next_297 (fun h9 => (h9.2.1 0 _ rfl).2) 17 (by decide) (by decide) kF_X12_249 (fun _ => rfl) ?_
              refine ev_ldc2 dX12_next_300 kL_X12_270 ?_
              refine ev_lmul dX12_next_303 ?_
              refine ev_aload_n 0 dX12_next_304 rfl ?_
              refine ev_gf (v := .ref 9) dX12_next_305 (fun h9 => (h9.2.1 0 _ rfl).2) 12 (by decide) (by decide) kF_X12_35 (fun h9 => congrArg va_rf (h9.2.2 0 12 9 rfl)) ?_
              refine ev_aload_n 0 dX12_next_308 rfl ?_
              refine ev_gf (v := .int (am_I g39 0 15)) dX12_next_309 (fun h9 => (h9.2.1 0 _ rfl).2) 15 (by decide) (by decide) kF_X12_236 (fun _ => rfl) ?_
              obtain ⟨c48, h⟩ := am_gd_elim h
              refine ev_iald dX12_next_312 (fun h9 => (h9.2.1 9 _ rfl).2) (am_in_vp c48) ?_
              refine ev_i2l dX12_next_313 ?_
              refine ev_ladd dX12_next_314 ?_
              refine ev_ldc2 dX12_next_315 kL_X12_272 ?_
              refine ev_lsub dX12_next_318 ?_
              refine ev_sub [0] rfl ?_
              exact hj45 _ _ _ h
            · replace h := am_ifn c42 h
              refine ev_aload_n 0 dX12_next_289 rfl ?_
              refine ev_gf (v := .long (am_L g39 0 17)) dX12_next_290 (fun h9 => (h9.2.1 0 _ rfl).2) 17 (by decide) (by decide) kF_X12_249 (fun _ => rfl) ?_
              refine ev_goto 319 dX12_next_293 (by decide) ?_
              refine ev_sub [0] rfl ?_
              exact hj45 _ _ _ h
set_option maxRecDepth 100000 in
set_option maxHeartbeats 4000000 in
theorem eX12_next (g : am_G) (r : Unit × am_G) (h : fX12_next g = some r) : am_Ev zr MX12_next 1 0 [(0, .ref 0)] [] g (am_rv r) := by
  unfold fX12_next at h
  refine ev_aload_n 0 dX12_next_0 rfl ?_
  refine ev_aload_n 0 dX12_next_1 rfl ?_
  refine ev_gf (v := .int (am_I g 0 15)) dX12_next_2 (fun h9 => (h9.2.1 0 _ rfl).2) 15 (by decide) (by decide) kF_X12_236 (fun _ => rfl) ?_
  refine ev_pfi dX12_next_5 (fun h9 => (h9.2.1 0 _ rfl).2) 14 (by decide) (by decide) kF_X12_246 rfl rfl rfl (fun _ => rfl) ?_
  refine am_let_elim (P := fun g1 => am_Ev zr MX12_next 1 8 [(0, .ref 0)] [] g1 (am_rv r)) h fun g1 h => ?_
  refine ev_sub [0] rfl ?_
  refine tfX12_next_L8 ?_ _  _ _ h
  intro  g8 r h
  try dsimp only at h
  refine ev_aload_n 0 dX12_next_46 rfl ?_
  refine ev_aload_n 0 dX12_next_47 rfl ?_
  refine ev_gf (v := .int (am_I g8 0 14)) dX12_next_48 (fun h9 => (h9.2.1 0 _ rfl).2) 14 (by decide) (by decide) kF_X12_246 (fun _ => rfl) ?_
  refine ev_pfi dX12_next_51 (fun h9 => (h9.2.1 0 _ rfl).2) 15 (by decide) (by decide) kF_X12_236 rfl rfl rfl (fun _ => rfl) ?_
  refine am_let_elim (P := fun g9 => am_Ev zr MX12_next 1 54 [(0, .ref 0)] [] g9 (am_rv r)) h fun g9 h => ?_
  refine ev_aload_n 0 dX12_next_54 rfl ?_
  refine ev_lconst dX12_next_55 rfl ?_
  refine ev_pfl dX12_next_56 (fun h9 => (h9.2.1 0 _ rfl).2) 17 (by decide) (by decide) kF_X12_249 rfl rfl ?_
  refine am_let_elim (P := fun g10 => am_Ev zr MX12_next 1 59 [(0, .ref 0)] [] g10 (am_rv r)) h fun g10 h => ?_
  refine ev_aload_n 0 dX12_next_59 rfl ?_
  refine ev_aload_n 0 dX12_next_60 rfl ?_
  refine ev_gf (v := .int (am_I g10 0 14)) dX12_next_61 (fun h9 => (h9.2.1 0 _ rfl).2) 14 (by decide) (by decide) kF_X12_246 (fun _ => rfl) ?_
  refine ev_aload_n 0 dX12_next_64 rfl ?_
  refine ev_gf (v := .int (am_I g10 0 13)) dX12_next_65 (fun h9 => (h9.2.1 0 _ rfl).2) 13 (by decide) (by decide) kF_X12_227 (fun _ => rfl) ?_
  refine am_jn_elim (fun q9 => ∀ (x12 : Int32) (g13 : am_G) (r : Unit × am_G), q9 x12 g13 = some r → am_Ev zr MX12_next 1 114 [(0, .ref 0)] [.int x12, .ref 0] g13 (am_rv r)) h ?_ (fun j14 hj14 h => ?_)
  · intro x12 g13 r h
    try dsimp only at h
    refine ev_pfi dX12_next_114 (fun h9 => (h9.2.1 0 _ rfl).2) 16 (by decide) (by decide) kF_X12_259 rfl rfl rfl (fun _ => rfl) ?_
    refine am_let_elim (P := fun g15 => am_Ev zr MX12_next 1 117 [(0, .ref 0)] [] g15 (am_rv r)) h fun g15 h => ?_
    refine ev_aload_n 0 dX12_next_117 rfl ?_
    refine ev_gf (v := .int (am_I g15 0 16)) dX12_next_118 (fun h9 => (h9.2.1 0 _ rfl).2) 16 (by decide) (by decide) kF_X12_259 (fun _ => rfl) ?_
    refine ev_iconst dX12_next_121 rfl ?_
    refine ev_icmp_ne 149 dX12_next_122 (by decide) (fun c16 => ?_) (fun c16 => ?_)
    · replace h := am_ifn c16 h
      refine ev_sub [0] rfl ?_
      refine tfX12_next_L149 ?_ _  _ _ h
      intro  g33 r h
      try dsimp only at h
      refine ev_sub [0] rfl ?_
      exact tfX12_next_L243 _  _ _ h
    · replace h := am_ifp c16 h
      refine ev_aload_n 0 dX12_next_125 rfl ?_
      refine ev_aload_n 0 dX12_next_126 rfl ?_
      refine ev_gf (v := .ref 9) dX12_next_127 (fun h9 => (h9.2.1 0 _ rfl).2) 12 (by decide) (by decide) kF_X12_35 (fun h9 => congrArg va_rf (h9.2.2 0 12 9 rfl)) ?_
      refine ev_aload_n 0 dX12_next_130 rfl ?_
      refine ev_gf (v := .int (am_I g15 0 14)) dX12_next_131 (fun h9 => (h9.2.1 0 _ rfl).2) 14 (by decide) (by decide) kF_X12_246 (fun _ => rfl) ?_
      obtain ⟨c49, h⟩ := am_gd_elim h
      refine ev_iald dX12_next_134 (fun h9 => (h9.2.1 9 _ rfl).2) (am_in_vp c49) ?_
      refine ev_i2l dX12_next_135 ?_
      refine ev_pfl dX12_next_136 (fun h9 => (h9.2.1 0 _ rfl).2) 17 (by decide) (by decide) kF_X12_249 rfl rfl ?_
      refine am_let_elim (P := fun g50 => am_Ev zr MX12_next 1 139 [(0, .ref 0)] [] g50 (am_rv r)) h fun g50 h => ?_
      refine ev_aload_n 0 dX12_next_139 rfl ?_
      refine ev_dup dX12_next_140 rfl ?_
      refine ev_gf (v := .int (am_I g50 0 15)) dX12_next_141 (fun h9 => (h9.2.1 0 _ rfl).2) 15 (by decide) (by decide) kF_X12_236 (fun _ => rfl) ?_
      refine ev_iconst dX12_next_144 rfl ?_
      refine ev_iadd dX12_next_145 ?_
      refine ev_pfi dX12_next_146 (fun h9 => (h9.2.1 0 _ rfl).2) 15 (by decide) (by decide) kF_X12_236 rfl rfl rfl (fun _ => rfl) ?_
      refine am_let_elim (P := fun g51 => am_Ev zr MX12_next 1 149 [(0, .ref 0)] [] g51 (am_rv r)) h fun g51 h => ?_
      refine ev_sub [0] rfl ?_
      refine tfX12_next_L149 ?_ _  _ _ h
      intro  g52 r h
      try dsimp only at h
      refine ev_sub [0] rfl ?_
      exact tfX12_next_L243 _  _ _ h
  · refine ev_icmp_ne 75 dX12_next_68 (by decide) (fun c11 => ?_) (fun c11 => ?_)
    · replace h := am_ifn c11 h
      refine ev_aload_n 0 dX12_next_75 rfl ?_
      refine ev_gf (v := .ref 9) dX12_next_76 (fun h9 => (h9.2.1 0 _ rfl).2) 12 (by decide) (by decide) kF_X12_35 (fun h9 => congrArg va_rf (h9.2.2 0 12 9 rfl)) ?_
      refine ev_aload_n 0 dX12_next_79 rfl ?_
      refine ev_gf (v := .int (am_I g10 0 14)) dX12_next_80 (fun h9 => (h9.2.1 0 _ rfl).2) 14 (by decide) (by decide) kF_X12_246 (fun _ => rfl) ?_
      obtain ⟨c53, h⟩ := am_gd_elim h
      refine ev_iald dX12_next_83 (fun h9 => (h9.2.1 9 _ rfl).2) (am_in_vp c53) ?_
      obtain ⟨v54, g55, e56, h⟩ := am_bd_elim h
      refine ev_callSi (v := v54) [.int (am_I g10 9 (am_I g10 0 14).toNatClampNeg)] [.ref 0] dX12_next_84 (tX12_isSmall e56) (by decide) mo_X12_isSmall kM_X12_253 ks_X12_isSmall (Nat.le_of_ble_eq_true rfl) ?_
      refine ev_if_eq 94 dX12_next_87 (by decide) (fun c57 => ?_) (fun c57 => ?_)
      · replace h := am_ifp c57 h
        refine ev_aload_n 0 dX12_next_94 rfl ?_
        refine ev_gf (v := .ref 9) dX12_next_95 (fun h9 => (h9.2.1 0 _ rfl).2) 12 (by decide) (by decide) kF_X12_35 (fun h9 => congrArg va_rf (h9.2.2 0 12 9 rfl)) ?_
        refine ev_aload_n 0 dX12_next_98 rfl ?_
        refine ev_gf (v := .int (am_I g55 0 14)) dX12_next_99 (fun h9 => (h9.2.1 0 _ rfl).2) 14 (by decide) (by decide) kF_X12_246 (fun _ => rfl) ?_
        obtain ⟨c58, h⟩ := am_gd_elim h
        refine ev_iald dX12_next_102 (fun h9 => (h9.2.1 9 _ rfl).2) (am_in_vp c58) ?_
        obtain ⟨v59, g60, e61, h⟩ := am_bd_elim h
        refine ev_callSi (v := v59) [.int (am_I g55 9 (am_I g55 0 14).toNatClampNeg)] [.ref 0] dX12_next_103 (tX12_isDigit e61) (by decide) mo_X12_isDigit kM_X12_256 ks_X12_isDigit (Nat.le_of_ble_eq_true rfl) ?_
        refine ev_if_eq 113 dX12_next_106 (by decide) (fun c62 => ?_) (fun c62 => ?_)
        · replace h := am_ifp c62 h
          refine ev_iconst dX12_next_113 rfl ?_
          refine ev_sub [0] rfl ?_
          exact hj14 _ _ _ h
        · replace h := am_ifn c62 h
          refine ev_iconst dX12_next_109 rfl ?_
          refine ev_goto 114 dX12_next_110 (by decide) ?_
          refine ev_sub [0] rfl ?_
          exact hj14 _ _ _ h
      · replace h := am_ifn c57 h
        refine ev_iconst dX12_next_90 rfl ?_
        refine ev_goto 114 dX12_next_91 (by decide) ?_
        refine ev_sub [0] rfl ?_
        exact hj14 _ _ _ h
    · replace h := am_ifp c11 h
      refine ev_iconst dX12_next_71 rfl ?_
      refine ev_goto 114 dX12_next_72 (by decide) ?_
      refine ev_sub [0] rfl ?_
      exact hj14 _ _ _ h
theorem tX12_next {g : am_G} {r : Unit × am_G} (h : fX12_next g = some r) : am_Mt zr MX12_next 1 [.ref 0] g (am_rv r) := am_Mt.of rfl (Nat.le_of_ble_eq_true rfl) (eX12_next _ _ h)
