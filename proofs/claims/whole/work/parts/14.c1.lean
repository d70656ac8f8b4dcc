def fX1_columnOf_L10 (k : am_G → Option (Int32 × am_G)) (a1 : Int32) (a2 : Int32) (x2 : Int32) : Nat → Int32 → am_G → Option (Int32 × am_G)
  | 0, _, _ => none
  | n + 1, x3, g4 =>
    if (4 : Int32) ≤ x3 then (
      k g4)
    else (
      if x2 ≤ x3 then (
        k g4)
      else (
        am_gd (am_in ((a1 * (4 : Int32)) + x3) 24) <|
        if (am_I g4 54 ((a1 * (4 : Int32)) + x3).toNatClampNeg) = a2 then (
          some ((a1 * (4 : Int32)) + x3, g4))
        else (
          am_let (x3 + (1 : Int32)) fun x10 =>
          fX1_columnOf_L10 k a1 a2 x2 n x10 g4)))
def fX1_columnOf_L88 (a1 : Int32) (a2 : Int32) (x12 : Int32) : Nat → Int32 → am_G → Option (Int32 × am_G)
  | 0, _, _ => none
  | n + 1, x20, g21 =>
    if (am_I g21 51 12) ≤ x20 then (
      some (x12, g21))
    else (
      am_gd (am_in x20 48) <|
      am_jn (fun  (g25 : am_G) =>
        am_let (x20 + (1 : Int32)) fun x27 =>
        fX1_columnOf_L88 a1 a2 x12 n x27 g25) fun j26 =>
      if (am_I g21 52 x20.toNatClampNeg) = 0 then (
        j26 g21)
      else (
        am_bd (fX0_ofSaid (x20 / (3 : Int32)) (am_I g21 51 14) ((x20 - x20 / (3 : Int32) * (3 : Int32)) + (1 : Int32)) g21) fun u28 g29 =>
        am_bd (fX0_shakes a1 a2 g29) fun v31 g32 =>
        am_gd (am_in ((x12 * (48 : Int32)) + x20) 1152) <|
        am_let (am_si g32 57 ((x12 * (48 : Int32)) + x20).toNatClampNeg v31) fun g35 =>
        am_gd (am_in x12 24) <|
        am_gd (am_in x12 24) <|
        am_let (am_si g35 55 x12.toNatClampNeg (am_max (am_I g35 55 x12.toNatClampNeg) v31)) fun g38 =>
        j26 g38))
def fX1_columnOf (a1 : Int32) (a2 : Int32) (g : am_G) : Option (Int32 × am_G) :=
  am_gd (am_in a1 6) <|
  am_let (am_I g 56 a1.toNatClampNeg) fun x2 =>
  fX1_columnOf_L10 (fun  (g11 : am_G) =>
    am_let ((a1 * (4 : Int32)) + (x2 - x2 / (4 : Int32) * (4 : Int32))) fun x12 =>
    am_gd (am_in a1 6) <|
    am_gd (am_in a1 6) <|
    am_let (am_si g11 56 a1.toNatClampNeg ((am_I g11 56 a1.toNatClampNeg) + (1 : Int32))) fun g15 =>
    am_gd (am_in x12 24) <|
    am_let (am_si g15 54 x12.toNatClampNeg a2) fun g17 =>
    am_gd (am_in x12 24) <|
    am_let (am_si g17 55 x12.toNatClampNeg (0 : Int32)) fun g19 =>
    fX1_columnOf_L88 a1 a2 x12 am_fu (0 : Int32) g19) a1 a2 x2 am_fu (0 : Int32) g
set_option maxRecDepth 100000 in
set_option maxHeartbeats 4000000 in
theorem tfX1_columnOf_L10  {k : am_G → Option (Int32 × am_G)} (a1 : Int32) (a2 : Int32) (x2 : Int32) (hk : ∀  (g5 : am_G) (r : Int32 × am_G), k  g5 = some r → am_Ev zc MX1_columnOf 4 50 [(0, .ref 51), (1, .int a1), (2, .int a2), (3, .int x2)] [] g5 (am_ri r)) : ∀ (n : Nat) (x3 : Int32) (g4 : am_G) (r : Int32 × am_G), fX1_columnOf_L10 k a1 a2 x2 n x3 g4 = some r → am_Ev zc MX1_columnOf 4 10 [(0, .ref 51), (1, .int a1), (2, .int a2), (3, .int x2), (4, .int x3)] [] g4 (am_ri r) := by
  intro n
  induction n with
  | zero => intro x3 g4 r h; exact nomatch (show (none : Option (Int32 × am_G)) = some r from h)
  | succ n ih =>
    intro x3 g4 r h
    rw [fX1_columnOf_L10] at h
    refine ev_iload 4 dX1_columnOf_10 rfl ?_
    refine ev_iconst dX1_columnOf_12 rfl ?_
    refine ev_icmp_ge 50 dX1_columnOf_13 (by decide) (fun c6 => ?_) (fun c6 => ?_)
    · replace h := am_ifp c6 h
      refine ev_sub [0, 1, 2, 3] rfl ?_
      exact hk  _ _ h
    · replace h := am_ifn c6 h
      refine ev_iload 4 dX1_columnOf_16 rfl ?_
      refine ev_iload_n 3 dX1_columnOf_18 rfl ?_
      refine ev_icmp_ge 50 dX1_columnOf_19 (by decide) (fun c7 => ?_) (fun c7 => ?_)
      · replace h := am_ifp c7 h
        refine ev_sub [0, 1, 2, 3] rfl ?_
        exact hk  _ _ h
      · replace h := am_ifn c7 h
        refine ev_aload_n 0 dX1_columnOf_22 rfl ?_
        refine ev_gf (v := .ref 54) dX1_columnOf_23 (fun h9 => (h9.2.1 51 _ rfl).2) 4 (by decide) (by decide) kF_X1_18 (fun h9 => congrArg va_rf (h9.2.2 51 4 54 rfl)) ?_
        refine ev_iload_n 1 dX1_columnOf_26 rfl ?_
        refine ev_iconst dX1_columnOf_27 rfl ?_
        refine ev_imul dX1_columnOf_28 ?_
        refine ev_iload 4 dX1_columnOf_29 rfl ?_
        refine ev_iadd dX1_columnOf_31 ?_
        obtain ⟨c8, h⟩ := am_gd_elim h
        refine ev_iald dX1_columnOf_32 (fun h9 => (h9.2.1 54 _ rfl).2) (am_in_vp c8) ?_
        refine ev_iload_n 2 dX1_columnOf_33 rfl ?_
        refine ev_icmp_ne 44 dX1_columnOf_34 (by decide) (fun c9 => ?_) (fun c9 => ?_)
        · replace h := am_ifn c9 h
          obtain ⟨x10, ex10, h⟩ := am_let_ex h
          refine ev_iinc (ls' := [(4, .int x10), (0, .ref 51), (1, .int a1), (2, .int a2), (3, .int x2)]) 4 dX1_columnOf_44 rfl ex10 (by decide) rfl ?_
          refine ev_goto 10 dX1_columnOf_47 (by decide) ?_
          refine ev_sub [1, 2, 3, 4, 0] rfl ?_
          exact ih _ _ _ h
        · replace h := am_ifp c9 h
          refine ev_iload_n 1 dX1_columnOf_37 rfl ?_
          refine ev_iconst dX1_columnOf_38 rfl ?_
          refine ev_imul dX1_columnOf_39 ?_
          refine ev_iload 4 dX1_columnOf_40 rfl ?_
          refine ev_iadd dX1_columnOf_42 ?_
          cases h
          exact ev_iret dX1_columnOf_43 rfl
set_option maxRecDepth 100000 in
set_option maxHeartbeats 4000000 in
theorem tfX1_columnOf_L88  (a1 : Int32) (a2 : Int32) (x12 : Int32) : ∀ (n : Nat) (x20 : Int32) (g21 : am_G) (r : Int32 × am_G), fX1_columnOf_L88 a1 a2 x12 n x20 g21 = some r → am_Ev zc MX1_columnOf 4 88 [(0, .ref 51), (1, .int a1), (2, .int a2), (4, .int x12), (5, .int x20)] [] g21 (am_ri r) := by
  intro n
  induction n with
  | zero => intro x20 g21 r h; exact nomatch (show (none : Option (Int32 × am_G)) = some r from h)
  | succ n ih =>
    intro x20 g21 r h
    rw [fX1_columnOf_L88] at h
    refine ev_iload 4 dX1_columnOf_88 rfl ?_
    refine ev_aload_n 0 dX1_columnOf_90 rfl ?_
    refine ev_gf (v := .int (am_I g21 51 12)) dX1_columnOf_91 (fun h9 => (h9.2.1 51 _ rfl).2) 12 (by decide) (by decide) kF_X1_69 (fun _ => rfl) ?_
    refine ev_icmp_ge 179 dX1_columnOf_94 (by decide) (fun c22 => ?_) (fun c22 => ?_)
    · replace h := am_ifp c22 h
      refine ev_iload 3 dX1_columnOf_179 rfl ?_
      cases h
      exact ev_iret dX1_columnOf_181 rfl
    · replace h := am_ifn c22 h
      refine ev_aload_n 0 dX1_columnOf_97 rfl ?_
      refine ev_gf (v := .ref 52) dX1_columnOf_98 (fun h9 => (h9.2.1 51 _ rfl).2) 2 (by decide) (by decide) kF_X1_11 (fun h9 => congrArg va_rf (h9.2.2 51 2 52 rfl)) ?_
      refine ev_iload 4 dX1_columnOf_101 rfl ?_
      obtain ⟨c23, h⟩ := am_gd_elim h
      refine ev_zald dX1_columnOf_103 (fun h9 => (h9.2.1 52 _ rfl).2) (am_in_vp c23) ?_
      refine am_jn_elim (fun q9 => ∀  (g25 : am_G) (r : Int32 × am_G), q9  g25 = some r → am_Ev zc MX1_columnOf 4 173 [(0, .ref 51), (1, .int a1), (2, .int a2), (4, .int x12), (5, .int x20)] [] g25 (am_ri r)) h ?_ (fun j26 hj26 h => ?_)
      · intro  g25 r h
        try dsimp only at h
        obtain ⟨x27, ex27, h⟩ := am_let_ex h
        refine ev_iinc (ls' := [(5, .int x27), (0, .ref 51), (1, .int a1), (2, .int a2), (4, .int x12)]) 4 dX1_columnOf_173 rfl ex27 (by decide) rfl ?_
        refine ev_goto 88 dX1_columnOf_176 (by decide) ?_
        refine ev_sub [1, 2, 3, 4, 0] rfl ?_
        exact ih _ _ _ h
      · refine ev_if_eq 173 dX1_columnOf_104 (by decide) (fun c24 => ?_) (fun c24 => ?_)
        · replace h := am_ifp c24 h
          refine ev_sub [0, 1, 2, 3, 4] rfl ?_
          exact hj26  _ _ h
        · replace h := am_ifn c24 h
          refine ev_aload_n 0 dX1_columnOf_107 rfl ?_
          refine ev_gf (v := .ref 36) dX1_columnOf_108 (fun h9 => (h9.2.1 51 _ rfl).2) 1 (by decide) (by decide) kF_X1_47 (fun h9 => congrArg va_rf (h9.2.2 51 1 36 rfl)) ?_
          refine ev_iload 4 dX1_columnOf_111 rfl ?_
          refine ev_iconst dX1_columnOf_113 rfl ?_
          refine ev_idiv dX1_columnOf_114 (by decide) ?_
          refine ev_aload_n 0 dX1_columnOf_115 rfl ?_
          refine ev_gf (v := .int (am_I g21 51 14)) dX1_columnOf_116 (fun h9 => (h9.2.1 51 _ rfl).2) 14 (by decide) (by decide) kF_X1_55 (fun _ => rfl) ?_
          refine ev_iload 4 dX1_columnOf_119 rfl ?_
          refine ev_iconst dX1_columnOf_121 rfl ?_
          refine ev_irem dX1_columnOf_122 (by decide) ?_
          refine ev_iconst dX1_columnOf_123 rfl ?_
          refine ev_iadd dX1_columnOf_124 ?_
          obtain ⟨u28, g29, e30, h⟩ := am_bd_elim h
          refine ev_callVv [.int (x20 / (3 : Int32)), .int (am_I g21 51 14), .int ((x20 - x20 / (3 : Int32) * (3 : Int32)) + (1 : Int32))] [] dX1_columnOf_125 (tX0_ofSaid e30) (by decide) mo_X0_ofSaid kM_X1_87 ki_X0_ofSaid kv_X0_ofSaid (fun h9 => (h9.2.1 36 _ rfl).2) (by decide) rfl (Nat.le_of_ble_eq_true rfl) ?_
          refine ev_aload_n 0 dX1_columnOf_128 rfl ?_
          refine ev_gf (v := .ref 36) dX1_columnOf_129 (fun h9 => (h9.2.1 51 _ rfl).2) 1 (by decide) (by decide) kF_X1_47 (fun h9 => congrArg va_rf (h9.2.2 51 1 36 rfl)) ?_
          refine ev_iload_n 1 dX1_columnOf_132 rfl ?_
          refine ev_iload_n 2 dX1_columnOf_133 rfl ?_
          obtain ⟨v31, g32, e33, h⟩ := am_bd_elim h
          refine ev_callVi (v := v31) [.int a1, .int a2] [] dX1_columnOf_134 (tX0_shakes e33) (by decide) mo_X0_shakes kM_X1_137 ki_X0_shakes kv_X0_shakes (fun h9 => (h9.2.1 36 _ rfl).2) (by decide) rfl (Nat.le_of_ble_eq_true rfl) ?_
          refine ev_istore (ls' := [(6, .int v31), (0, .ref 51), (1, .int a1), (2, .int a2), (4, .int x12), (5, .int x20)]) dX1_columnOf_137 (by decide) rfl ?_
          refine ev_aload_n 1 dX1_columnOf_139 rfl ?_
          refine ev_gf (v := .ref 57) dX1_columnOf_140 (fun h9 => (h9.2.1 51 _ rfl).2) 7 (by decide) (by decide) kF_X1_28 (fun h9 => congrArg va_rf (h9.2.2 51 7 57 rfl)) ?_
          refine ev_iload 4 dX1_columnOf_143 rfl ?_
          refine ev_bipush dX1_columnOf_145 rfl ?_
          refine ev_imul dX1_columnOf_147 ?_
          refine ev_iload 5 dX1_columnOf_148 rfl ?_
          refine ev_iadd dX1_columnOf_150 ?_
          refine ev_iload 0 dX1_columnOf_151 rfl ?_
          obtain ⟨c34, h⟩ := am_gd_elim h
          refine ev_iast dX1_columnOf_153 (fun h9 => (h9.2.1 57 _ rfl).2) (am_in_vp c34) ?_
          refine am_let_elim (P := fun g35 => am_Ev zc MX1_columnOf 4 154 [(6, .int v31), (0, .ref 51), (1, .int a1), (2, .int a2), (4, .int x12), (5, .int x20)] [] g35 (am_ri r)) h fun g35 h => ?_
          refine ev_aload_n 1 dX1_columnOf_154 rfl ?_
          refine ev_gf (v := .ref 55) dX1_columnOf_155 (fun h9 => (h9.2.1 51 _ rfl).2) 5 (by decide) (by decide) kF_X1_22 (fun h9 => congrArg va_rf (h9.2.2 51 5 55 rfl)) ?_
          refine ev_iload 4 dX1_columnOf_158 rfl ?_
          refine ev_aload_n 1 dX1_columnOf_160 rfl ?_
          refine ev_gf (v := .ref 55) dX1_columnOf_161 (fun h9 => (h9.2.1 51 _ rfl).2) 5 (by decide) (by decide) kF_X1_22 (fun h9 => congrArg va_rf (h9.2.2 51 5 55 rfl)) ?_
          refine ev_iload 4 dX1_columnOf_164 rfl ?_
          obtain ⟨c36, h⟩ := am_gd_elim h
          refine ev_iald dX1_columnOf_166 (fun h9 => (h9.2.1 55 _ rfl).2) (am_in_vp c36) ?_
          refine ev_iload 0 dX1_columnOf_167 rfl ?_
          refine ev_max dX1_columnOf_169 kM_X1_139 k_maxS kS_Math k_maxC (Nat.le_of_ble_eq_true rfl) ?_
          obtain ⟨c37, h⟩ := am_gd_elim h
          refine ev_iast dX1_columnOf_172 (fun h9 => (h9.2.1 55 _ rfl).2) (am_in_vp c37) ?_
          refine am_let_elim (P := fun g38 => am_Ev zc MX1_columnOf 4 173 [(6, .int v31), (0, .ref 51), (1, .int a1), (2, .int a2), (4, .int x12), (5, .int x20)] [] g38 (am_ri r)) h fun g38 h => ?_
          refine ev_sub [1, 2, 3, 4, 5] rfl ?_
          exact hj26  _ _ h
set_option maxRecDepth 100000 in
set_option maxHeartbeats 4000000 in
theorem eX1_columnOf (a1 : Int32) (a2 : Int32) (g : am_G) (r : Int32 × am_G) (h : fX1_columnOf a1 a2 g = some r) : am_Ev zc MX1_columnOf 4 0 [(0, .ref 51), (1, .int a1), (2, .int a2)] [] g (am_ri r) := by
  unfold fX1_columnOf at h
  refine ev_aload_n 0 dX1_columnOf_0 rfl ?_
  refine ev_gf (v := .ref 56) dX1_columnOf_1 (fun h9 => (h9.2.1 51 _ rfl).2) 6 (by decide) (by decide) kF_X1_25 (fun h9 => congrArg va_rf (h9.2.2 51 6 56 rfl)) ?_
  refine ev_iload_n 1 dX1_columnOf_4 rfl ?_
  obtain ⟨c1, h⟩ := am_gd_elim h
  refine ev_iald dX1_columnOf_5 (fun h9 => (h9.2.1 56 _ rfl).2) (am_in_vp c1) ?_
  refine am_let_elim (P := fun x2 => am_Ev zc MX1_columnOf 4 6 [(0, .ref 51), (1, .int a1), (2, .int a2)] [.int x2] g (am_ri r)) h fun x2 h => ?_
  refine ev_istore_n (ls' := [(3, .int x2), (0, .ref 51), (1, .int a1), (2, .int a2)]) dX1_columnOf_6 rfl (by decide) rfl ?_
  refine ev_iconst dX1_columnOf_7 rfl ?_
  refine ev_istore (ls' := [(4, .int (0 : Int32)), (3, .int x2), (0, .ref 51), (1, .int a1), (2, .int a2)]) dX1_columnOf_8 (by decide) rfl ?_
  refine ev_sub [2, 3, 4, 1, 0] rfl ?_
  refine tfX1_columnOf_L10 a1 a2 x2 ?_ _ _ _ _ h
  intro  g11 r h
  try dsimp only at h
  refine ev_iload_n 1 dX1_columnOf_50 rfl ?_
  refine ev_iconst dX1_columnOf_51 rfl ?_
  refine ev_imul dX1_columnOf_52 ?_
  refine ev_iload_n 3 dX1_columnOf_53 rfl ?_
  refine ev_iconst dX1_columnOf_54 rfl ?_
  refine ev_irem dX1_columnOf_55 (by decide) ?_
  refine ev_iadd dX1_columnOf_56 ?_
  refine am_let_elim (P := fun x12 => am_Ev zc MX1_columnOf 4 57 [(0, .ref 51), (1, .int a1), (2, .int a2), (3, .int x2)] [.int x12] g11 (am_ri r)) h fun x12 h => ?_
  refine ev_istore (ls' := [(4, .int x12), (0, .ref 51), (1, .int a1), (2, .int a2), (3, .int x2)]) dX1_columnOf_57 (by decide) rfl ?_
  refine ev_aload_n 1 dX1_columnOf_59 rfl ?_
  refine ev_gf (v := .ref 56) dX1_columnOf_60 (fun h9 => (h9.2.1 51 _ rfl).2) 6 (by decide) (by decide) kF_X1_25 (fun h9 => congrArg va_rf (h9.2.2 51 6 56 rfl)) ?_
  refine ev_iload_n 2 dX1_columnOf_63 rfl ?_
  refine ev_dup2 dX1_columnOf_64 rfl rfl ?_
  obtain ⟨c13, h⟩ := am_gd_elim h
  refine ev_iald dX1_columnOf_65 (fun h9 => (h9.2.1 56 _ rfl).2) (am_in_vp c13) ?_
  refine ev_iconst dX1_columnOf_66 rfl ?_
  refine ev_iadd dX1_columnOf_67 ?_
  obtain ⟨c14, h⟩ := am_gd_elim h
  refine ev_iast dX1_columnOf_68 (fun h9 => (h9.2.1 56 _ rfl).2) (am_in_vp c14) ?_
  refine am_let_elim (P := fun g15 => am_Ev zc MX1_columnOf 4 69 [(4, .int x12), (0, .ref 51), (1, .int a1), (2, .int a2), (3, .int x2)] [] g15 (am_ri r)) h fun g15 h => ?_
  refine ev_aload_n 1 dX1_columnOf_69 rfl ?_
  refine ev_gf (v := .ref 54) dX1_columnOf_70 (fun h9 => (h9.2.1 51 _ rfl).2) 4 (by decide) (by decide) kF_X1_18 (fun h9 => congrArg va_rf (h9.2.2 51 4 54 rfl)) ?_
  refine ev_iload 0 dX1_columnOf_73 rfl ?_
  refine ev_iload_n 3 dX1_columnOf_75 rfl ?_
  obtain ⟨c16, h⟩ := am_gd_elim h
  refine ev_iast dX1_columnOf_76 (fun h9 => (h9.2.1 54 _ rfl).2) (am_in_vp c16) ?_
  refine am_let_elim (P := fun g17 => am_Ev zc MX1_columnOf 4 77 [(4, .int x12), (0, .ref 51), (1, .int a1), (2, .int a2), (3, .int x2)] [] g17 (am_ri r)) h fun g17 h => ?_
  refine ev_aload_n 1 dX1_columnOf_77 rfl ?_
  refine ev_gf (v := .ref 55) dX1_columnOf_78 (fun h9 => (h9.2.1 51 _ rfl).2) 5 (by decide) (by decide) kF_X1_22 (fun h9 => congrArg va_rf (h9.2.2 51 5 55 rfl)) ?_
  refine ev_iload 0 dX1_columnOf_81 rfl ?_
  refine ev_iconst dX1_columnOf_83 rfl ?_
  obtain ⟨c18, h⟩ := am_gd_elim h
  refine ev_iast dX1_columnOf_84 (fun h9 => (h9.2.1 55 _ rfl).2) (am_in_vp c18) ?_
  refine am_let_elim (P := fun g19 => am_Ev zc MX1_columnOf 4 85 [(4, .int x12), (0, .ref 51), (1, .int a1), (2, .int a2), (3, .int x2)] [] g19 (am_ri r)) h fun g19 h => ?_
  refine ev_iconst dX1_columnOf_85 rfl ?_
  refine ev_istore (ls' := [(5, .int (0 : Int32)), (4, .int x12), (0, .ref 51), (1, .int a1), (2, .int a2), (3, .int x2)]) dX1_columnOf_86 (by decide) rfl ?_
  refine ev_sub [2, 3, 4, 1, 0] rfl ?_
  exact tfX1_columnOf_L88 a1 a2 x12 _ _ _ _ h
theorem tX1_columnOf {a1 : Int32} {a2 : Int32} {g : am_G} {r : Int32 × am_G} (h : fX1_columnOf a1 a2 g = some r) : am_Mt zc MX1_columnOf 4 [.ref 51, .int a1, .int a2] g (am_ri r) := am_Mt.of rfl (Nat.le_of_ble_eq_true rfl) (eX1_columnOf _ _ _ _ h)
def fX1_lookUp_L5 (a1 : Int32) : Nat → Int32 → am_G → Option (Unit × am_G)
  | 0, _, _ => none
  | n + 1, x2, g3 =>
    if ((a1 * (6 : Int32)) + (6 : Int32)) ≤ x2 then (
      some ((), g3))
    else (
      am_gd (am_in x2 24) <|
      am_bd (fX1_columnOf (x2 - (a1 * (6 : Int32))) (am_I g3 58 x2.toNatClampNeg) g3) fun v6 g7 =>
      am_gd (am_in x2 18) <|
      am_let (am_si g7 60 x2.toNatClampNeg v6) fun g10 =>
      am_let (x2 + (1 : Int32)) fun x11 =>
      fX1_lookUp_L5 a1 n x11 g10)
def fX1_lookUp (a1 : Int32) (g : am_G) : Option (Unit × am_G) :=
  am_let (a1 * (6 : Int32)) fun x1 =>
  fX1_lookUp_L5 a1 am_fu x1 g
set_option maxRecDepth 100000 in
set_option maxHeartbeats 4000000 in
theorem tfX1_lookUp_L5  (a1 : Int32) : ∀ (n : Nat) (x2 : Int32) (g3 : am_G) (r : Unit × am_G), fX1_lookUp_L5 a1 n x2 g3 = some r → am_Ev zc MX1_lookUp 5 5 [(0, .ref 51), (1, .int a1), (2, .int x2)] [] g3 (am_rv r) := by
  intro n
  induction n with
  | zero => intro x2 g3 r h; exact nomatch (show (none : Option (Unit × am_G)) = some r from h)
  | succ n ih =>
    intro x2 g3 r h
    rw [fX1_lookUp_L5] at h
    refine ev_iload_n 2 dX1_lookUp_5 rfl ?_
    refine ev_iload_n 1 dX1_lookUp_6 rfl ?_
    refine ev_bipush dX1_lookUp_7 rfl ?_
    refine ev_imul dX1_lookUp_9 ?_
    refine ev_bipush dX1_lookUp_10 rfl ?_
    refine ev_iadd dX1_lookUp_12 ?_
    refine ev_icmp_ge 44 dX1_lookUp_13 (by decide) (fun c4 => ?_) (fun c4 => ?_)
    · replace h := am_ifp c4 h
      cases h
      exact ev_ret dX1_lookUp_44 rfl
    · replace h := am_ifn c4 h
      refine ev_aload_n 0 dX1_lookUp_16 rfl ?_
      refine ev_gf (v := .ref 60) dX1_lookUp_17 (fun h9 => (h9.2.1 51 _ rfl).2) 10 (by decide) (by decide) kF_X1_37 (fun h9 => congrArg va_rf (h9.2.2 51 10 60 rfl)) ?_
      refine ev_iload_n 2 dX1_lookUp_20 rfl ?_
      refine ev_aload_n 0 dX1_lookUp_21 rfl ?_
      refine ev_iload_n 2 dX1_lookUp_22 rfl ?_
      refine ev_iload_n 1 dX1_lookUp_23 rfl ?_
      refine ev_bipush dX1_lookUp_24 rfl ?_
      refine ev_imul dX1_lookUp_26 ?_
      refine ev_isub dX1_lookUp_27 ?_
      refine ev_aload_n 0 dX1_lookUp_28 rfl ?_
      refine ev_gf (v := .ref 58) dX1_lookUp_29 (fun h9 => (h9.2.1 51 _ rfl).2) 8 (by decide) (by decide) kF_X1_31 (fun h9 => congrArg va_rf (h9.2.2 51 8 58 rfl)) ?_
      refine ev_iload_n 2 dX1_lookUp_32 rfl ?_
      obtain ⟨c5, h⟩ := am_gd_elim h
      refine ev_iald dX1_lookUp_33 (fun h9 => (h9.2.1 58 _ rfl).2) (am_in_vp c5) ?_
      obtain ⟨v6, g7, e8, h⟩ := am_bd_elim h
      refine ev_callVi (v := v6) [.int (x2 - (a1 * (6 : Int32))), .int (am_I g3 58 x2.toNatClampNeg)] [.int x2, .ref 60] dX1_lookUp_34 (tX1_columnOf e8) (by decide) mo_X1_columnOf kM_X1_134 ki_X1_columnOf kv_X1_columnOf (fun h9 => (h9.2.1 51 _ rfl).2) (by decide) rfl (Nat.le_of_ble_eq_true rfl) ?_
      obtain ⟨c9, h⟩ := am_gd_elim h
      refine ev_iast dX1_lookUp_37 (fun h9 => (h9.2.1 60 _ rfl).2) (am_in_vp c9) ?_
      refine am_let_elim (P := fun g10 => am_Ev zc MX1_lookUp 5 38 [(0, .ref 51), (1, .int a1), (2, .int x2)] [] g10 (am_rv r)) h fun g10 h => ?_
      obtain ⟨x11, ex11, h⟩ := am_let_ex h
      refine ev_iinc (ls' := [(2, .int x11), (0, .ref 51), (1, .int a1)]) 2 dX1_lookUp_38 rfl ex11 (by decide) rfl ?_
      refine ev_goto 5 dX1_lookUp_41 (by decide) ?_
      refine ev_sub [1, 2, 0] rfl ?_
      exact ih _ _ _ h
set_option maxRecDepth 100000 in
set_option maxHeartbeats 4000000 in
theorem eX1_lookUp (a1 : Int32) (g : am_G) (r : Unit × am_G) (h : fX1_lookUp a1 g = some r) : am_Ev zc MX1_lookUp 5 0 [(0, .ref 51), (1, .int a1)] [] g (am_rv r) := by
  unfold fX1_lookUp at h
  refine ev_iload_n 1 dX1_lookUp_0 rfl ?_
  refine ev_bipush dX1_lookUp_1 rfl ?_
  refine ev_imul dX1_lookUp_3 ?_
  refine am_let_elim (P := fun x1 => am_Ev zc MX1_lookUp 5 4 [(0, .ref 51), (1, .int a1)] [.int x1] g (am_rv r)) h fun x1 h => ?_
  refine ev_istore_n (ls' := [(2, .int x1), (0, .ref 51), (1, .int a1)]) dX1_lookUp_4 rfl (by decide) rfl ?_
  refine ev_sub [1, 2, 0] rfl ?_
  exact tfX1_lookUp_L5 a1 _ _ _ _ h
theorem tX1_lookUp {a1 : Int32} {g : am_G} {r : Unit × am_G} (h : fX1_lookUp a1 g = some r) : am_Mt zc MX1_lookUp 5 [.ref 51, .int a1] g (am_rv r) := am_Mt.of rfl (Nat.le_of_ble_eq_true rfl) (eX1_lookUp _ _ _ h)
def fX1_canReach_L2 (a1 : Int32) (a2 : Int32) : Nat → Int32 → am_G → Option (Int32 × am_G)
  | 0, _, _ => none
  | n + 1, x1, g2 =>
    if (6 : Int32) ≤ x1 then (
      some ((0 : Int32), g2))
    else (
      am_let ((a1 * (6 : Int32)) + x1) fun x4 =>
      am_gd (am_in x4 24) <|
      am_gd (am_in x4 24) <|
      am_gd (am_in x4 18) <|
      am_gd (am_in (am_I g2 60 x4.toNatClampNeg) 24) <|
      am_let (((am_I g2 58 x4.toNatClampNeg) + (am_I g2 59 x4.toNatClampNeg)) + (a2 * (am_I g2 55 (am_I g2 60 x4.toNatClampNeg).toNatClampNeg))) fun x9 =>
      am_gd (am_in x1 6) <|
      am_jn (fun  (g12 : am_G) =>
        am_let (x1 + (1 : Int32)) fun x14 =>
        fX1_canReach_L2 a1 a2 n x14 g12) fun j13 =>
      if (am_I g2 53 x1.toNatClampNeg) = 0 then (
        j13 g2)
      else (
        am_gd (am_in x4 24) <|
        if (am_I g2 58 x4.toNatClampNeg) ≤ 0 then (
          j13 g2)
        else (
          am_gd (am_in x1 6) <|
          if x9 ≤ (am_I g2 8 x1.toNatClampNeg) then (
            j13 g2)
          else (
            some ((1 : Int32), g2)))))
def fX1_canReach (a1 : Int32) (a2 : Int32) (g : am_G) : Option (Int32 × am_G) :=
  fX1_canReach_L2 a1 a2 am_fu (0 : Int32) g
set_option maxRecDepth 100000 in
set_option maxHeartbeats 4000000 in
theorem tfX1_canReach_L2  (a1 : Int32) (a2 : Int32) : ∀ (n : Nat) (x1 : Int32) (g2 : am_G) (r : Int32 × am_G), fX1_canReach_L2 a1 a2 n x1 g2 = some r → am_Ev zc MX1_canReach 0 2 [(0, .ref 51), (1, .int a1), (2, .int a2), (3, .int x1)] [] g2 (am_ri r) := by
  intro n
  induction n with
  | zero => intro x1 g2 r h; exact nomatch (show (none : Option (Int32 × am_G)) = some r from h)
  | succ n ih =>
    intro x1 g2 r h
    rw [fX1_canReach_L2] at h
    refine ev_iload_n 3 dX1_canReach_2 rfl ?_
    refine ev_bipush dX1_canReach_3 rfl ?_
    refine ev_icmp_ge 89 dX1_canReach_5 (by decide) (fun c3 => ?_) (fun c3 => ?_)
    · replace h := am_ifp c3 h
      refine ev_iconst dX1_canReach_89 rfl ?_
      cases h
      exact ev_zret dX1_canReach_90 rfl rfl
    · replace h := am_ifn c3 h
      refine ev_iload_n 1 dX1_canReach_8 rfl ?_
      refine ev_bipush dX1_canReach_9 rfl ?_
      refine ev_imul dX1_canReach_11 ?_
      refine ev_iload_n 3 dX1_canReach_12 rfl ?_
      refine ev_iadd dX1_canReach_13 ?_
      refine am_let_elim (P := fun x4 => am_Ev zc MX1_canReach 0 14 [(0, .ref 51), (1, .int a1), (2, .int a2), (3, .int x1)] [.int x4] g2 (am_ri r)) h fun x4 h => ?_
      refine ev_istore (ls' := [(4, .int x4), (0, .ref 51), (1, .int a1), (2, .int a2), (3, .int x1)]) dX1_canReach_14 (by decide) rfl ?_
      refine ev_aload_n 1 dX1_canReach_16 rfl ?_
      refine ev_gf (v := .ref 58) dX1_canReach_17 (fun h9 => (h9.2.1 51 _ rfl).2) 8 (by decide) (by decide) kF_X1_31 (fun h9 => congrArg va_rf (h9.2.2 51 8 58 rfl)) ?_
      refine ev_iload 0 dX1_canReach_20 rfl ?_
      obtain ⟨c5, h⟩ := am_gd_elim h
      refine ev_iald dX1_canReach_22 (fun h9 => (h9.2.1 58 _ rfl).2) (am_in_vp c5) ?_
      refine ev_aload_n 1 dX1_canReach_23 rfl ?_
      refine ev_gf (v := .ref 59) dX1_canReach_24 (fun h9 => (h9.2.1 51 _ rfl).2) 9 (by decide) (by decide) kF_X1_34 (fun h9 => congrArg va_rf (h9.2.2 51 9 59 rfl)) ?_
      refine ev_iload 0 dX1_canReach_27 rfl ?_
      obtain ⟨c6, h⟩ := am_gd_elim h
      refine ev_iald dX1_canReach_29 (fun h9 => (h9.2.1 59 _ rfl).2) (am_in_vp c6) ?_
      refine ev_iadd dX1_canReach_30 ?_
      refine ev_iload_n 3 dX1_canReach_31 rfl ?_
      refine ev_aload_n 1 dX1_canReach_32 rfl ?_
      refine ev_gf (v := .ref 55) dX1_canReach_33 (fun h9 => (h9.2.1 51 _ rfl).2) 5 (by decide) (by decide) kF_X1_22 (fun h9 => congrArg va_rf (h9.2.2 51 5 55 rfl)) ?_
      refine ev_aload_n 1 dX1_canReach_36 rfl ?_
      refine ev_gf (v := .ref 60) dX1_canReach_37 (fun h9 => (h9.2.1 51 _ rfl).2) 10 (by decide) (by decide) kF_X1_37 (fun h9 => congrArg va_rf (h9.2.2 51 10 60 rfl)) ?_
      refine ev_iload 0 dX1_canReach_40 rfl ?_
      obtain ⟨c7, h⟩ := am_gd_elim h
      refine ev_iald dX1_canReach_42 (fun h9 => (h9.2.1 60 _ rfl).2) (am_in_vp c7) ?_
      obtain ⟨c8, h⟩ := am_gd_elim h
      refine ev_iald dX1_canReach_43 (fun h9 => (h9.2.1 55 _ rfl).2) (am_in_vp c8) ?_
      refine ev_imul dX1_canReach_44 ?_
      refine ev_iadd dX1_canReach_45 ?_
      refine am_let_elim (P := fun x9 => am_Ev zc MX1_canReach 0 46 [(4, .int x4), (0, .ref 51), (1, .int a1), (2, .int a2), (3, .int x1)] [.int x9] g2 (am_ri r)) h fun x9 h => ?_
      refine ev_istore (ls' := [(5, .int x9), (4, .int x4), (0, .ref 51), (1, .int a1), (2, .int a2), (3, .int x1)]) dX1_canReach_46 (by decide) rfl ?_
      refine ev_aload_n 2 dX1_canReach_48 rfl ?_
      refine ev_gf (v := .ref 53) dX1_canReach_49 (fun h9 => (h9.2.1 51 _ rfl).2) 3 (by decide) (by decide) kF_X1_15 (fun h9 => congrArg va_rf (h9.2.2 51 3 53 rfl)) ?_
      refine ev_iload_n 5 dX1_canReach_52 rfl ?_
      obtain ⟨c10, h⟩ := am_gd_elim h
      refine ev_zald dX1_canReach_53 (fun h9 => (h9.2.1 53 _ rfl).2) (am_in_vp c10) ?_
      refine am_jn_elim (fun q9 => ∀  (g12 : am_G) (r : Int32 × am_G), q9  g12 = some r → am_Ev zc MX1_canReach 0 83 [(0, .ref 51), (1, .int a1), (2, .int a2), (3, .int x1)] [] g12 (am_ri r)) h ?_ (fun j13 hj13 h => ?_)
      · intro  g12 r h
        try dsimp only at h
        obtain ⟨x14, ex14, h⟩ := am_let_ex h
        refine ev_iinc (ls' := [(3, .int x14), (0, .ref 51), (1, .int a1), (2, .int a2)]) 3 dX1_canReach_83 rfl ex14 (by decide) rfl ?_
        refine ev_goto 2 dX1_canReach_86 (by decide) ?_
        refine ev_sub [1, 2, 3, 0] rfl ?_
        exact ih _ _ _ h
      · refine ev_if_eq 83 dX1_canReach_54 (by decide) (fun c11 => ?_) (fun c11 => ?_)
        · replace h := am_ifp c11 h
          refine ev_sub [2, 3, 4, 5] rfl ?_
          exact hj13  _ _ h
        · replace h := am_ifn c11 h
          refine ev_aload_n 2 dX1_canReach_57 rfl ?_
          refine ev_gf (v := .ref 58) dX1_canReach_58 (fun h9 => (h9.2.1 51 _ rfl).2) 8 (by decide) (by decide) kF_X1_31 (fun h9 => congrArg va_rf (h9.2.2 51 8 58 rfl)) ?_
          refine ev_iload 1 dX1_canReach_61 rfl ?_
          obtain ⟨c15, h⟩ := am_gd_elim h
          refine ev_iald dX1_canReach_63 (fun h9 => (h9.2.1 58 _ rfl).2) (am_in_vp c15) ?_
          refine ev_if_le 83 dX1_canReach_64 (by decide) (fun c16 => ?_) (fun c16 => ?_)
          · replace h := am_ifp c16 h
            refine ev_sub [2, 3, 4, 5] rfl ?_
            exact hj13  _ _ h
          · replace h := am_ifn c16 h
            refine ev_iload 0 dX1_canReach_67 rfl ?_
            refine ev_aload_n 2 dX1_canReach_69 rfl ?_
            refine ev_gf (v := .ref 1) dX1_canReach_70 (fun h9 => (h9.2.1 51 _ rfl).2) 0 (by decide) (by decide) kF_X1_43 (fun h9 => congrArg va_rf (h9.2.2 51 0 1 rfl)) ?_
            refine ev_gf (v := .ref 8) dX1_canReach_73 (fun h9 => (h9.2.1 1 _ rfl).2) 1 (by decide) (by decide) kF_X1_144 (fun h9 => congrArg va_rf (h9.2.2 1 1 8 rfl)) ?_
            refine ev_iload_n 5 dX1_canReach_76 rfl ?_
            obtain ⟨c17, h⟩ := am_gd_elim h
            refine ev_iald dX1_canReach_77 (fun h9 => (h9.2.1 8 _ rfl).2) (am_in_vp c17) ?_
            refine ev_icmp_le 83 dX1_canReach_78 (by decide) (fun c18 => ?_) (fun c18 => ?_)
            · replace h := am_ifp c18 h
              refine ev_sub [2, 3, 4, 5] rfl ?_
              exact hj13  _ _ h
            · replace h := am_ifn c18 h
              refine ev_iconst dX1_canReach_81 rfl ?_
              cases h
              exact ev_zret dX1_canReach_82 rfl rfl
set_option maxRecDepth 100000 in
set_option maxHeartbeats 4000000 in
theorem eX1_canReach (a1 : Int32) (a2 : Int32) (g : am_G) (r : Int32 × am_G) (h : fX1_canReach a1 a2 g = some r) : am_Ev zc MX1_canReach 0 0 [(0, .ref 51), (1, .int a1), (2, .int a2)] [] g (am_ri r) := by
  unfold fX1_canReach at h
  refine ev_iconst dX1_canReach_0 rfl ?_
  refine ev_istore_n (ls' := [(3, .int (0 : Int32)), (0, .ref 51), (1, .int a1), (2, .int a2)]) dX1_canReach_1 rfl (by decide) rfl ?_
  refine ev_sub [1, 2, 3, 0] rfl ?_
  exact tfX1_canReach_L2 a1 a2 _ _ _ _ h
theorem tX1_canReach {a1 : Int32} {a2 : Int32} {g : am_G} {r : Int32 × am_G} (h : fX1_canReach a1 a2 g = some r) : am_Mt zc MX1_canReach 0 [.ref 51, .int a1, .int a2] g (am_ri r) := am_Mt.of rfl (Nat.le_of_ble_eq_true rfl) (eX1_canReach _ _ _ _ h)
def fX1_stirs_L2 (a1 : Int32) (a2 : Int32) : Nat → Int32 → am_G → Option (Int32 × am_G)
  | 0, _, _ => none
  | n + 1, x1, g2 =>
    if (6 : Int32) ≤ x1 then (
      some ((0 : Int32), g2))
    else (
      am_let ((a1 * (6 : Int32)) + x1) fun x4 =>
      am_gd (am_in x4 24) <|
      am_gd (am_in x4 24) <|
      am_gd (am_in x4 18) <|
      am_gd (am_in (((am_I g2 60 x4.toNatClampNeg) * (48 : Int32)) + a2) 1152) <|
      am_let (((am_I g2 58 x4.toNatClampNeg) + (am_I g2 59 x4.toNatClampNeg)) + (am_I g2 57 (((am_I g2 60 x4.toNatClampNeg) * (48 : Int32)) + a2).toNatClampNeg)) fun x9 =>
      am_gd (am_in x1 6) <|
      am_jn (fun  (g12 : am_G) =>
        am_let (x1 + (1 : Int32)) fun x14 =>
        fX1_stirs_L2 a1 a2 n x14 g12) fun j13 =>
      if (am_I g2 53 x1.toNatClampNeg) = 0 then (
        j13 g2)
      else (
        am_gd (am_in x4 24) <|
        if (am_I g2 58 x4.toNatClampNeg) ≤ 0 then (
          j13 g2)
        else (
          am_gd (am_in x1 6) <|
          if x9 ≤ (am_I g2 8 x1.toNatClampNeg) then (
            j13 g2)
          else (
            some ((1 : Int32), g2)))))
def fX1_stirs (a1 : Int32) (a2 : Int32) (g : am_G) : Option (Int32 × am_G) :=
  fX1_stirs_L2 a1 a2 am_fu (0 : Int32) g
set_option maxRecDepth 100000 in
set_option maxHeartbeats 4000000 in
theorem tfX1_stirs_L2  (a1 : Int32) (a2 : Int32) : ∀ (n : Nat) (x1 : Int32) (g2 : am_G) (r : Int32 × am_G), fX1_stirs_L2 a1 a2 n x1 g2 = some r → am_Ev zc MX1_stirs 0 2 [(0, .ref 51), (1, .int a1), (2, .int a2), (3, .int x1)] [] g2 (am_ri r) := by
  intro n
  induction n with
  | zero => intro x1 g2 r h; exact nomatch (show (none : Option (Int32 × am_G)) = some r from h)
  | succ n ih =>
    intro x1 g2 r h
    rw [fX1_stirs_L2] at h
    refine ev_iload_n 3 dX1_stirs_2 rfl ?_
    refine ev_bipush dX1_stirs_3 rfl ?_
    refine ev_icmp_ge 92 dX1_stirs_5 (by decide) (fun c3 => ?_) (fun c3 => ?_)
    · replace h := am_ifp c3 h
      refine ev_iconst dX1_stirs_92 rfl ?_
      cases h
      exact ev_zret dX1_stirs_93 rfl rfl
    · replace h := am_ifn c3 h
      refine ev_iload_n 1 dX1_stirs_8 rfl ?_
      refine ev_bipush dX1_stirs_9 rfl ?_
      refine ev_imul dX1_stirs_11 ?_
      refine ev_iload_n 3 dX1_stirs_12 rfl ?_
      refine ev_iadd dX1_stirs_13 ?_
      refine am_let_elim (P := fun x4 => am_Ev zc MX1_stirs 0 14 [(0, .ref 51), (1, .int a1), (2, .int a2), (3, .int x1)] [.int x4] g2 (am_ri r)) h fun x4 h => ?_
      refine ev_istore (ls' := [(4, .int x4), (0, .ref 51), (1, .int a1), (2, .int a2), (3, .int x1)]) dX1_stirs_14 (by decide) rfl ?_
      refine ev_aload_n 1 dX1_stirs_16 rfl ?_
      refine ev_gf (v := .ref 58) dX1_stirs_17 (fun h9 => (h9.2.1 51 _ rfl).2) 8 (by decide) (by decide) kF_X1_31 (fun h9 => congrArg va_rf (h9.2.2 51 8 58 rfl)) ?_
      refine ev_iload 0 dX1_stirs_20 rfl ?_
      obtain ⟨c5, h⟩ := am_gd_elim h
      refine ev_iald dX1_stirs_22 (fun h9 => (h9.2.1 58 _ rfl).2) (am_in_vp c5) ?_
      refine ev_aload_n 1 dX1_stirs_23 rfl ?_
      refine ev_gf (v := .ref 59) dX1_stirs_24 (fun h9 => (h9.2.1 51 _ rfl).2) 9 (by decide) (by decide) kF_X1_34 (fun h9 => congrArg va_rf (h9.2.2 51 9 59 rfl)) ?_
      refine ev_iload 0 dX1_stirs_27 rfl ?_
      obtain ⟨c6, h⟩ := am_gd_elim h
      refine ev_iald dX1_stirs_29 (fun h9 => (h9.2.1 59 _ rfl).2) (am_in_vp c6) ?_
      refine ev_iadd dX1_stirs_30 ?_
      refine ev_aload_n 1 dX1_stirs_31 rfl ?_
      refine ev_gf (v := .ref 57) dX1_stirs_32 (fun h9 => (h9.2.1 51 _ rfl).2) 7 (by decide) (by decide) kF_X1_28 (fun h9 => congrArg va_rf (h9.2.2 51 7 57 rfl)) ?_
      refine ev_aload_n 1 dX1_stirs_35 rfl ?_
      refine ev_gf (v := .ref 60) dX1_stirs_36 (fun h9 => (h9.2.1 51 _ rfl).2) 10 (by decide) (by decide) kF_X1_37 (fun h9 => congrArg va_rf (h9.2.2 51 10 60 rfl)) ?_
      refine ev_iload 0 dX1_stirs_39 rfl ?_
      obtain ⟨c7, h⟩ := am_gd_elim h
      refine ev_iald dX1_stirs_41 (fun h9 => (h9.2.1 60 _ rfl).2) (am_in_vp c7) ?_
      refine ev_bipush dX1_stirs_42 rfl ?_
      refine ev_imul dX1_stirs_44 ?_
      refine ev_iload_n 3 dX1_stirs_45 rfl ?_
      refine ev_iadd dX1_stirs_46 ?_
      obtain ⟨c8, h⟩ := am_gd_elim h
      refine ev_iald dX1_stirs_47 (fun h9 => (h9.2.1 57 _ rfl).2) (am_in_vp c8) ?_
      refine ev_iadd dX1_stirs_48 ?_
      refine am_let_elim (P := fun x9 => am_Ev zc MX1_stirs 0 49 [(4, .int x4), (0, .ref 51), (1, .int a1), (2, .int a2), (3, .int x1)] [.int x9] g2 (am_ri r)) h fun x9 h => ?_
      refine ev_istore (ls' := [(5, .int x9), (4, .int x4), (0, .ref 51), (1, .int a1), (2, .int a2), (3, .int x1)]) dX1_stirs_49 (by decide) rfl ?_
      refine ev_aload_n 2 dX1_stirs_51 rfl ?_
      refine ev_gf (v := .ref 53) dX1_stirs_52 (fun h9 => (h9.2.1 51 _ rfl).2) 3 (by decide) (by decide) kF_X1_15 (fun h9 => congrArg va_rf (h9.2.2 51 3 53 rfl)) ?_
      refine ev_iload_n 5 dX1_stirs_55 rfl ?_
      obtain ⟨c10, h⟩ := am_gd_elim h
      refine ev_zald dX1_stirs_56 (fun h9 => (h9.2.1 53 _ rfl).2) (am_in_vp c10) ?_
      refine am_jn_elim (fun q9 => ∀  (g12 : am_G) (r : Int32 × am_G), q9  g12 = some r → am_Ev zc MX1_stirs 0 86 [(0, .ref 51), (1, .int a1), (2, .int a2), (3, .int x1)] [] g12 (am_ri r)) h ?_ (fun j13 hj13 h => ?_)
      · intro  g12 r h
        try dsimp only at h
        obtain ⟨x14, ex14, h⟩ := am_let_ex h
        refine ev_iinc (ls' := [(3, .int x14), (0, .ref 51), (1, .int a1), (2, .int a2)]) 3 dX1_stirs_86 rfl ex14 (by decide) rfl ?_
        refine ev_goto 2 dX1_stirs_89 (by decide) ?_
        refine ev_sub [1, 2, 3, 0] rfl ?_
        exact ih _ _ _ h
      · refine ev_if_eq 86 dX1_stirs_57 (by decide) (fun c11 => ?_) (fun c11 => ?_)
        · replace h := am_ifp c11 h
          refine ev_sub [2, 3, 4, 5] rfl ?_
          exact hj13  _ _ h
        · replace h := am_ifn c11 h
          refine ev_aload_n 2 dX1_stirs_60 rfl ?_
          refine ev_gf (v := .ref 58) dX1_stirs_61 (fun h9 => (h9.2.1 51 _ rfl).2) 8 (by decide) (by decide) kF_X1_31 (fun h9 => congrArg va_rf (h9.2.2 51 8 58 rfl)) ?_
          refine ev_iload 1 dX1_stirs_64 rfl ?_
          obtain ⟨c15, h⟩ := am_gd_elim h
          refine ev_iald dX1_stirs_66 (fun h9 => (h9.2.1 58 _ rfl).2) (am_in_vp c15) ?_
          refine ev_if_le 86 dX1_stirs_67 (by decide) (fun c16 => ?_) (fun c16 => ?_)
          · replace h := am_ifp c16 h
            refine ev_sub [2, 3, 4, 5] rfl ?_
            exact hj13  _ _ h
          · replace h := am_ifn c16 h
            refine ev_iload 0 dX1_stirs_70 rfl ?_
            refine ev_aload_n 2 dX1_stirs_72 rfl ?_
            refine ev_gf (v := .ref 1) dX1_stirs_73 (fun h9 => (h9.2.1 51 _ rfl).2) 0 (by decide) (by decide) kF_X1_43 (fun h9 => congrArg va_rf (h9.2.2 51 0 1 rfl)) ?_
            refine ev_gf (v := .ref 8) dX1_stirs_76 (fun h9 => (h9.2.1 1 _ rfl).2) 1 (by decide) (by decide) kF_X1_144 (fun h9 => congrArg va_rf (h9.2.2 1 1 8 rfl)) ?_
            refine ev_iload_n 5 dX1_stirs_79 rfl ?_
            obtain ⟨c17, h⟩ := am_gd_elim h
            refine ev_iald dX1_stirs_80 (fun h9 => (h9.2.1 8 _ rfl).2) (am_in_vp c17) ?_
            refine ev_icmp_le 86 dX1_stirs_81 (by decide) (fun c18 => ?_) (fun c18 => ?_)
            · replace h := am_ifp c18 h
              refine ev_sub [2, 3, 4, 5] rfl ?_
              exact hj13  _ _ h
            · replace h := am_ifn c18 h
              refine ev_iconst dX1_stirs_84 rfl ?_
              cases h
              exact ev_zret dX1_stirs_85 rfl rfl
set_option maxRecDepth 100000 in
set_option maxHeartbeats 4000000 in
theorem eX1_stirs (a1 : Int32) (a2 : Int32) (g : am_G) (r : Int32 × am_G) (h : fX1_stirs a1 a2 g = some r) : am_Ev zc MX1_stirs 0 0 [(0, .ref 51), (1, .int a1), (2, .int a2)] [] g (am_ri r) := by
  unfold fX1_stirs at h
  refine ev_iconst dX1_stirs_0 rfl ?_
  refine ev_istore_n (ls' := [(3, .int (0 : Int32)), (0, .ref 51), (1, .int a1), (2, .int a2)]) dX1_stirs_1 rfl (by decide) rfl ?_
  refine ev_sub [1, 2, 3, 0] rfl ?_
  exact tfX1_stirs_L2 a1 a2 _ _ _ _ h
theorem tX1_stirs {a1 : Int32} {a2 : Int32} {g : am_G} {r : Int32 × am_G} (h : fX1_stirs a1 a2 g = some r) : am_Mt zc MX1_stirs 0 [.ref 51, .int a1, .int a2] g (am_ri r) := am_Mt.of rfl (Nat.le_of_ble_eq_true rfl) (eX1_stirs _ _ _ _ h)
def fX1_speak_L10 (k : am_G → Option (Int32 × am_G)) (a1 : Int32) (a2 : Int32) (x1 : Int32) : Nat → Int32 → am_G → Option (Int32 × am_G)
  | 0, _, _ => none
  | n + 1, x2, g3 =>
    if (6 : Int32) ≤ x2 then (
      k g3)
    else (
      am_let ((a1 * (6 : Int32)) + x2) fun x6 =>
      am_gd (am_in x6 24) <|
      am_gd (am_in (x1 + x2) 24) <|
      am_let (am_si g3 58 (x1 + x2).toNatClampNeg (am_I g3 58 x6.toNatClampNeg)) fun g9 =>
      am_gd (am_in x6 24) <|
      am_gd (am_in x6 18) <|
      am_gd (am_in (((am_I g9 60 x6.toNatClampNeg) * (48 : Int32)) + a2) 1152) <|
      am_gd (am_in (x1 + x2) 24) <|
      am_let (am_si g9 59 (x1 + x2).toNatClampNeg ((am_I g9 59 x6.toNatClampNeg) + (am_I g9 57 (((am_I g9 60 x6.toNatClampNeg) * (48 : Int32)) + a2).toNatClampNeg))) fun g14 =>
      am_let (x2 + (1 : Int32)) fun x15 =>
      fX1_speak_L10 k a1 a2 x1 n x15 g14)
def fX1_speak_L88 (x1 : Int32) : Nat → Int32 → Int32 → am_G → Option (Int32 × am_G)
  | 0, _, _, _ => none
  | n + 1, x17, x18, g19 =>
    if (6 : Int32) ≤ x18 then (
      some (x17, g19))
    else (
      am_let (x1 + x18) fun x21 =>
      am_gd (am_in x21 24) <|
      am_jn (fun (x24 : Int32) (g25 : am_G) =>
        am_let (x18 + (1 : Int32)) fun x27 =>
        fX1_speak_L88 x1 n x24 x27 g25) fun j26 =>
      if (am_I g19 58 x21.toNatClampNeg) = 0 then (
        j26 x17 g19)
      else (
        am_gd (am_in x21 24) <|
        am_gd (am_in x21 24) <|
        am_gd (am_in x18 6) <|
        if (am_I g19 8 x18.toNatClampNeg) < ((am_I g19 58 x21.toNatClampNeg) + (am_I g19 59 x21.toNatClampNeg)) then (
          am_gd (am_in x18 6) <|
          am_let (am_I g19 9 x18.toNatClampNeg) fun x33 =>
          am_bd (fX11_isSlope x33 g19) fun v34 g35 =>
          am_jn (fun  (g38 : am_G) =>
            am_gd (am_in x21 24) <|
            am_let (am_si g38 58 x21.toNatClampNeg (0 : Int32)) fun g41 =>
            am_gd (am_in x21 24) <|
            am_let (am_si g41 59 x21.toNatClampNeg (0 : Int32)) fun g43 =>
            am_let (x17 ||| ((1 : Int32) <<< (x18 &&& 31))) fun x44 =>
            j26 x44 g43) fun j39 =>
          if v34 = 0 then (
            am_gd (am_in x18 6) <|
            if (am_I g35 10 x18.toNatClampNeg) = (1 : Int32) then (
              j39 g35)
            else (
              some ((-1 : Int32), g35)))
          else (
            am_gd (am_in (x1 + x33) 24) <|
            am_gd (am_in x21 24) <|
            am_gd (am_in (x1 + x33) 24) <|
            am_let (am_si g35 58 (x1 + x33).toNatClampNeg (am_min (9999 : Int32) ((am_I g35 58 (x1 + x33).toNatClampNeg) + (am_I g35 58 x21.toNatClampNeg)))) fun g50 =>
            j39 g50))
        else (
          j26 x17 g19)))
def fX1_speak (a1 : Int32) (a2 : Int32) (g : am_G) : Option (Int32 × am_G) :=
  am_let ((a1 + (1 : Int32)) * (6 : Int32)) fun x1 =>
  fX1_speak_L10 (fun  (g16 : am_G) =>
    fX1_speak_L88 x1 am_fu (0 : Int32) (0 : Int32) g16) a1 a2 x1 am_fu (0 : Int32) g
set_option maxRecDepth 100000 in
set_option maxHeartbeats 4000000 in
theorem tfX1_speak_L10  {k : am_G → Option (Int32 × am_G)} (a1 : Int32) (a2 : Int32) (x1 : Int32) (hk : ∀  (g4 : am_G) (r : Int32 × am_G), k  g4 = some r → am_Ev zc MX1_speak 2 82 [(0, .ref 51), (3, .int x1)] [] g4 (am_ri r)) : ∀ (n : Nat) (x2 : Int32) (g3 : am_G) (r : Int32 × am_G), fX1_speak_L10 k a1 a2 x1 n x2 g3 = some r → am_Ev zc MX1_speak 2 10 [(0, .ref 51), (1, .int a1), (2, .int a2), (3, .int x1), (4, .int x2)] [] g3 (am_ri r) := by
  intro n
  induction n with
  | zero => intro x2 g3 r h; exact nomatch (show (none : Option (Int32 × am_G)) = some r from h)
  | succ n ih =>
    intro x2 g3 r h
    rw [fX1_speak_L10] at h
    refine ev_iload 4 dX1_speak_10 rfl ?_
    refine ev_bipush dX1_speak_12 rfl ?_
    refine ev_icmp_ge 82 dX1_speak_14 (by decide) (fun c5 => ?_) (fun c5 => ?_)
    · replace h := am_ifp c5 h
      refine ev_sub [0, 3] rfl ?_
      exact hk  _ _ h
    · replace h := am_ifn c5 h
      refine ev_iload_n 1 dX1_speak_17 rfl ?_
      refine ev_bipush dX1_speak_18 rfl ?_
      refine ev_imul dX1_speak_20 ?_
      refine ev_iload 4 dX1_speak_21 rfl ?_
      refine ev_iadd dX1_speak_23 ?_
      refine am_let_elim (P := fun x6 => am_Ev zc MX1_speak 2 24 [(0, .ref 51), (1, .int a1), (2, .int a2), (3, .int x1), (4, .int x2)] [.int x6] g3 (am_ri r)) h fun x6 h => ?_
      refine ev_istore (ls' := [(5, .int x6), (0, .ref 51), (1, .int a1), (2, .int a2), (3, .int x1), (4, .int x2)]) dX1_speak_24 (by decide) rfl ?_
      refine ev_aload_n 1 dX1_speak_26 rfl ?_
      refine ev_gf (v := .ref 58) dX1_speak_27 (fun h9 => (h9.2.1 51 _ rfl).2) 8 (by decide) (by decide) kF_X1_31 (fun h9 => congrArg va_rf (h9.2.2 51 8 58 rfl)) ?_
      refine ev_iload_n 4 dX1_speak_30 rfl ?_
      refine ev_iload 5 dX1_speak_31 rfl ?_
      refine ev_iadd dX1_speak_33 ?_
      refine ev_aload_n 1 dX1_speak_34 rfl ?_
      refine ev_gf (v := .ref 58) dX1_speak_35 (fun h9 => (h9.2.1 51 _ rfl).2) 8 (by decide) (by decide) kF_X1_31 (fun h9 => congrArg va_rf (h9.2.2 51 8 58 rfl)) ?_
      refine ev_iload 0 dX1_speak_38 rfl ?_
      obtain ⟨c7, h⟩ := am_gd_elim h
      refine ev_iald dX1_speak_40 (fun h9 => (h9.2.1 58 _ rfl).2) (am_in_vp c7) ?_
      obtain ⟨c8, h⟩ := am_gd_elim h
      refine ev_iast dX1_speak_41 (fun h9 => (h9.2.1 58 _ rfl).2) (am_in_vp c8) ?_
      refine am_let_elim (P := fun g9 => am_Ev zc MX1_speak 2 42 [(5, .int x6), (0, .ref 51), (1, .int a1), (2, .int a2), (3, .int x1), (4, .int x2)] [] g9 (am_ri r)) h fun g9 h => ?_
      refine ev_aload_n 1 dX1_speak_42 rfl ?_
      refine ev_gf (v := .ref 59) dX1_speak_43 (fun h9 => (h9.2.1 51 _ rfl).2) 9 (by decide) (by decide) kF_X1_34 (fun h9 => congrArg va_rf (h9.2.2 51 9 59 rfl)) ?_
      refine ev_iload_n 4 dX1_speak_46 rfl ?_
      refine ev_iload 5 dX1_speak_47 rfl ?_
      refine ev_iadd dX1_speak_49 ?_
      refine ev_aload_n 1 dX1_speak_50 rfl ?_
      refine ev_gf (v := .ref 59) dX1_speak_51 (fun h9 => (h9.2.1 51 _ rfl).2) 9 (by decide) (by decide) kF_X1_34 (fun h9 => congrArg va_rf (h9.2.2 51 9 59 rfl)) ?_
      refine ev_iload 0 dX1_speak_54 rfl ?_
      obtain ⟨c10, h⟩ := am_gd_elim h
      refine ev_iald dX1_speak_56 (fun h9 => (h9.2.1 59 _ rfl).2) (am_in_vp c10) ?_
      refine ev_aload_n 1 dX1_speak_57 rfl ?_
      refine ev_gf (v := .ref 57) dX1_speak_58 (fun h9 => (h9.2.1 51 _ rfl).2) 7 (by decide) (by decide) kF_X1_28 (fun h9 => congrArg va_rf (h9.2.2 51 7 57 rfl)) ?_
      refine ev_aload_n 1 dX1_speak_61 rfl ?_
      refine ev_gf (v := .ref 60) dX1_speak_62 (fun h9 => (h9.2.1 51 _ rfl).2) 10 (by decide) (by decide) kF_X1_37 (fun h9 => congrArg va_rf (h9.2.2 51 10 60 rfl)) ?_
      refine ev_iload 0 dX1_speak_65 rfl ?_
      obtain ⟨c11, h⟩ := am_gd_elim h
      refine ev_iald dX1_speak_67 (fun h9 => (h9.2.1 60 _ rfl).2) (am_in_vp c11) ?_
      refine ev_bipush dX1_speak_68 rfl ?_
      refine ev_imul dX1_speak_70 ?_
      refine ev_iload_n 3 dX1_speak_71 rfl ?_
      refine ev_iadd dX1_speak_72 ?_
      obtain ⟨c12, h⟩ := am_gd_elim h
      refine ev_iald dX1_speak_73 (fun h9 => (h9.2.1 57 _ rfl).2) (am_in_vp c12) ?_
      refine ev_iadd dX1_speak_74 ?_
      obtain ⟨c13, h⟩ := am_gd_elim h
      refine ev_iast dX1_speak_75 (fun h9 => (h9.2.1 59 _ rfl).2) (am_in_vp c13) ?_
      refine am_let_elim (P := fun g14 => am_Ev zc MX1_speak 2 76 [(5, .int x6), (0, .ref 51), (1, .int a1), (2, .int a2), (3, .int x1), (4, .int x2)] [] g14 (am_ri r)) h fun g14 h => ?_
      obtain ⟨x15, ex15, h⟩ := am_let_ex h
      refine ev_iinc (ls' := [(4, .int x15), (5, .int x6), (0, .ref 51), (1, .int a1), (2, .int a2), (3, .int x1)]) 5 dX1_speak_76 rfl ex15 (by decide) rfl ?_
      refine ev_goto 10 dX1_speak_79 (by decide) ?_
      refine ev_sub [2, 3, 4, 5, 0] rfl ?_
      exact ih _ _ _ h
set_option maxRecDepth 100000 in
set_option maxHeartbeats 4000000 in
theorem tfX1_speak_L88  (x1 : Int32) : ∀ (n : Nat) (x17 : Int32) (x18 : Int32) (g19 : am_G) (r : Int32 × am_G), fX1_speak_L88 x1 n x17 x18 g19 = some r → am_Ev zc MX1_speak 2 88 [(0, .ref 51), (3, .int x1), (4, .int x17), (5, .int x18)] [] g19 (am_ri r) := by
  intro n
  induction n with
  | zero => intro x17 x18 g19 r h; exact nomatch (show (none : Option (Int32 × am_G)) = some r from h)
  | succ n ih =>
    intro x17 x18 g19 r h
    rw [fX1_speak_L88] at h
    refine ev_iload 3 dX1_speak_88 rfl ?_
    refine ev_bipush dX1_speak_90 rfl ?_
    refine ev_icmp_ge 244 dX1_speak_92 (by decide) (fun c20 => ?_) (fun c20 => ?_)
    · replace h := am_ifp c20 h
      refine ev_iload 2 dX1_speak_244 rfl ?_
      cases h
      exact ev_iret dX1_speak_246 rfl
    · replace h := am_ifn c20 h
      refine ev_iload_n 1 dX1_speak_95 rfl ?_
      refine ev_iload 3 dX1_speak_96 rfl ?_
      refine ev_iadd dX1_speak_98 ?_
      refine am_let_elim (P := fun x21 => am_Ev zc MX1_speak 2 99 [(0, .ref 51), (3, .int x1), (4, .int x17), (5, .int x18)] [.int x21] g19 (am_ri r)) h fun x21 h => ?_
      refine ev_istore (ls' := [(6, .int x21), (0, .ref 51), (3, .int x1), (4, .int x17), (5, .int x18)]) dX1_speak_99 (by decide) rfl ?_
      refine ev_aload_n 1 dX1_speak_101 rfl ?_
      refine ev_gf (v := .ref 58) dX1_speak_102 (fun h9 => (h9.2.1 51 _ rfl).2) 8 (by decide) (by decide) kF_X1_31 (fun h9 => congrArg va_rf (h9.2.2 51 8 58 rfl)) ?_
      refine ev_iload 0 dX1_speak_105 rfl ?_
      obtain ⟨c22, h⟩ := am_gd_elim h
      refine ev_iald dX1_speak_107 (fun h9 => (h9.2.1 58 _ rfl).2) (am_in_vp c22) ?_
      refine am_jn_elim (fun q9 => ∀ (x24 : Int32) (g25 : am_G) (r : Int32 × am_G), q9 x24 g25 = some r → am_Ev zc MX1_speak 2 238 [(0, .ref 51), (3, .int x1), (4, .int x24), (5, .int x18)] [] g25 (am_ri r)) h ?_ (fun j26 hj26 h => ?_)
      · intro x24 g25 r h
        try dsimp only at h
        obtain ⟨x27, ex27, h⟩ := am_let_ex h
        refine ev_iinc (ls' := [(5, .int x27), (0, .ref 51), (3, .int x1), (4, .int x24)]) 3 dX1_speak_238 rfl ex27 (by decide) rfl ?_
        refine ev_goto 88 dX1_speak_241 (by decide) ?_
        refine ev_sub [1, 2, 3, 0] rfl ?_
        exact ih _ _ _ _ h
      · refine ev_if_eq 238 dX1_speak_108 (by decide) (fun c23 => ?_) (fun c23 => ?_)
        · replace h := am_ifp c23 h
          refine ev_sub [1, 2, 3, 4] rfl ?_
          exact hj26 _ _ _ h
        · replace h := am_ifn c23 h
          refine ev_aload_n 1 dX1_speak_111 rfl ?_
          refine ev_gf (v := .ref 58) dX1_speak_112 (fun h9 => (h9.2.1 51 _ rfl).2) 8 (by decide) (by decide) kF_X1_31 (fun h9 => congrArg va_rf (h9.2.2 51 8 58 rfl)) ?_
          refine ev_iload 0 dX1_speak_115 rfl ?_
          obtain ⟨c28, h⟩ := am_gd_elim h
          refine ev_iald dX1_speak_117 (fun h9 => (h9.2.1 58 _ rfl).2) (am_in_vp c28) ?_
          refine ev_aload_n 1 dX1_speak_118 rfl ?_
          refine ev_gf (v := .ref 59) dX1_speak_119 (fun h9 => (h9.2.1 51 _ rfl).2) 9 (by decide) (by decide) kF_X1_34 (fun h9 => congrArg va_rf (h9.2.2 51 9 59 rfl)) ?_
          refine ev_iload 0 dX1_speak_122 rfl ?_
          obtain ⟨c29, h⟩ := am_gd_elim h
          refine ev_iald dX1_speak_124 (fun h9 => (h9.2.1 59 _ rfl).2) (am_in_vp c29) ?_
          refine ev_iadd dX1_speak_125 ?_
          refine ev_aload_n 1 dX1_speak_126 rfl ?_
          refine ev_gf (v := .ref 1) dX1_speak_127 (fun h9 => (h9.2.1 51 _ rfl).2) 0 (by decide) (by decide) kF_X1_43 (fun h9 => congrArg va_rf (h9.2.2 51 0 1 rfl)) ?_
          refine ev_gf (v := .ref 8) dX1_speak_130 (fun h9 => (h9.2.1 1 _ rfl).2) 1 (by decide) (by decide) kF_X1_144 (fun h9 => congrArg va_rf (h9.2.2 1 1 8 rfl)) ?_
          refine ev_iload 4 dX1_speak_133 rfl ?_
          obtain ⟨c30, h⟩ := am_gd_elim h
          refine ev_iald dX1_speak_135 (fun h9 => (h9.2.1 8 _ rfl).2) (am_in_vp c30) ?_
          refine ev_icmp_gt 142 dX1_speak_136 (by decide) (fun c31 => ?_) (fun c31 => ?_)
          · replace h := am_ifp c31 h
            refine ev_aload_n 1 dX1_speak_142 rfl ?_
            refine ev_gf (v := .ref 1) dX1_speak_143 (fun h9 => (h9.2.1 51 _ rfl).2) 0 (by decide) (by decide) kF_X1_43 (fun h9 => congrArg va_rf (h9.2.2 51 0 1 rfl)) ?_
            refine ev_gf (v := .ref 9) dX1_speak_146 (fun h9 => (h9.2.1 1 _ rfl).2) 2 (by decide) (by decide) kF_X1_109 (fun h9 => congrArg va_rf (h9.2.2 1 2 9 rfl)) ?_
            refine ev_iload 4 dX1_speak_149 rfl ?_
            obtain ⟨c32, h⟩ := am_gd_elim h
            refine ev_iald dX1_speak_151 (fun h9 => (h9.2.1 9 _ rfl).2) (am_in_vp c32) ?_
            refine am_let_elim (P := fun x33 => am_Ev zc MX1_speak 2 152 [(6, .int x21), (0, .ref 51), (3, .int x1), (4, .int x17), (5, .int x18)] [.int x33] g19 (am_ri r)) h fun x33 h => ?_
            refine ev_istore (ls' := [(7, .int x33), (6, .int x21), (0, .ref 51), (3, .int x1), (4, .int x17), (5, .int x18)]) dX1_speak_152 (by decide) rfl ?_
            refine ev_iload 0 dX1_speak_154 rfl ?_
            obtain ⟨v34, g35, e36, h⟩ := am_bd_elim h
            refine ev_callSNi (v := v34) [.int x33] [] dX1_speak_156 (tX11_isSlope e36) (by decide) mo_X11_isSlope kN_X1_112 ks_X11_isSlope (Nat.le_of_ble_eq_true rfl) ?_
            refine am_jn_elim (fun q9 => ∀  (g38 : am_G) (r : Int32 × am_G), q9  g38 = some r → am_Ev zc MX1_speak 2 213 [(0, .ref 51), (3, .int x1), (4, .int x17), (5, .int x18), (6, .int x21)] [] g38 (am_ri r)) h ?_ (fun j39 hj39 h => ?_)
            · intro  g38 r h
              try dsimp only at h
              refine ev_aload_n 0 dX1_speak_213 rfl ?_
              refine ev_gf (v := .ref 58) dX1_speak_214 (fun h9 => (h9.2.1 51 _ rfl).2) 8 (by decide) (by decide) kF_X1_31 (fun h9 => congrArg va_rf (h9.2.2 51 8 58 rfl)) ?_
              refine ev_iload 4 dX1_speak_217 rfl ?_
              refine ev_iconst dX1_speak_219 rfl ?_
              obtain ⟨c40, h⟩ := am_gd_elim h
              refine ev_iast dX1_speak_220 (fun h9 => (h9.2.1 58 _ rfl).2) (am_in_vp c40) ?_
              refine am_let_elim (P := fun g41 => am_Ev zc MX1_speak 2 221 [(0, .ref 51), (3, .int x1), (4, .int x17), (5, .int x18), (6, .int x21)] [] g41 (am_ri r)) h fun g41 h => ?_
              refine ev_aload_n 0 dX1_speak_221 rfl ?_
              refine ev_gf (v := .ref 59) dX1_speak_222 (fun h9 => (h9.2.1 51 _ rfl).2) 9 (by decide) (by decide) kF_X1_34 (fun h9 => congrArg va_rf (h9.2.2 51 9 59 rfl)) ?_
              refine ev_iload 4 dX1_speak_225 rfl ?_
              refine ev_iconst dX1_speak_227 rfl ?_
              obtain ⟨c42, h⟩ := am_gd_elim h
              refine ev_iast dX1_speak_228 (fun h9 => (h9.2.1 59 _ rfl).2) (am_in_vp c42) ?_
              refine am_let_elim (P := fun g43 => am_Ev zc MX1_speak 2 229 [(0, .ref 51), (3, .int x1), (4, .int x17), (5, .int x18), (6, .int x21)] [] g43 (am_ri r)) h fun g43 h => ?_
              refine ev_iload 2 dX1_speak_229 rfl ?_
              refine ev_iconst dX1_speak_231 rfl ?_
              refine ev_iload 3 dX1_speak_232 rfl ?_
              refine ev_ishl dX1_speak_234 ?_
              refine ev_ior dX1_speak_235 ?_
              refine am_let_elim (P := fun x44 => am_Ev zc MX1_speak 2 236 [(0, .ref 51), (3, .int x1), (4, .int x17), (5, .int x18), (6, .int x21)] [.int x44] g43 (am_ri r)) h fun x44 h => ?_
              refine ev_istore (ls' := [(4, .int x44), (0, .ref 51), (3, .int x1), (5, .int x18), (6, .int x21)]) dX1_speak_236 (by decide) rfl ?_
              refine ev_sub [1, 2, 0, 3] rfl ?_
              exact hj26 _ _ _ h
            · refine ev_if_eq 197 dX1_speak_159 (by decide) (fun c37 => ?_) (fun c37 => ?_)
              · replace h := am_ifp c37 h
                refine ev_aload_n 2 dX1_speak_197 rfl ?_
                refine ev_gf (v := .ref 1) dX1_speak_198 (fun h9 => (h9.2.1 51 _ rfl).2) 0 (by decide) (by decide) kF_X1_43 (fun h9 => congrArg va_rf (h9.2.2 51 0 1 rfl)) ?_
                refine ev_gf (v := .ref 10) dX1_speak_201 (fun h9 => (h9.2.1 1 _ rfl).2) 3 (by decide) (by decide) kF_X1_150 (fun h9 => congrArg va_rf (h9.2.2 1 3 10 rfl)) ?_
                refine ev_iload 5 dX1_speak_204 rfl ?_
                obtain ⟨c45, h⟩ := am_gd_elim h
                refine ev_iald dX1_speak_206 (fun h9 => (h9.2.1 10 _ rfl).2) (am_in_vp c45) ?_
                refine ev_iconst dX1_speak_207 rfl ?_
                refine ev_icmp_eq 213 dX1_speak_208 (by decide) (fun c46 => ?_) (fun c46 => ?_)
                · replace h := am_ifp c46 h
                  refine ev_sub [2, 3, 4, 5, 1] rfl ?_
                  exact hj39  _ _ h
                · replace h := am_ifn c46 h
                  refine ev_iconst dX1_speak_211 rfl ?_
                  cases h
                  exact ev_iret dX1_speak_212 rfl
              · replace h := am_ifn c37 h
                refine ev_aload_n 2 dX1_speak_162 rfl ?_
                refine ev_gf (v := .ref 58) dX1_speak_163 (fun h9 => (h9.2.1 51 _ rfl).2) 8 (by decide) (by decide) kF_X1_31 (fun h9 => congrArg va_rf (h9.2.2 51 8 58 rfl)) ?_
                refine ev_iload_n 3 dX1_speak_166 rfl ?_
                refine ev_iload 0 dX1_speak_167 rfl ?_
                refine ev_iadd dX1_speak_169 ?_
                refine ev_sipush dX1_speak_170 rfl ?_
                refine ev_aload_n 2 dX1_speak_173 rfl ?_
                refine ev_gf (v := .ref 58) dX1_speak_174 (fun h9 => (h9.2.1 51 _ rfl).2) 8 (by decide) (by decide) kF_X1_31 (fun h9 => congrArg va_rf (h9.2.2 51 8 58 rfl)) ?_
                refine ev_iload_n 3 dX1_speak_177 rfl ?_
                refine ev_iload 0 dX1_speak_178 rfl ?_
                refine ev_iadd dX1_speak_180 ?_
                obtain ⟨c47, h⟩ := am_gd_elim h
                refine ev_iald dX1_speak_181 (fun h9 => (h9.2.1 58 _ rfl).2) (am_in_vp c47) ?_
                refine ev_aload_n 2 dX1_speak_182 rfl ?_
                refine ev_gf (v := .ref 58) dX1_speak_183 (fun h9 => (h9.2.1 51 _ rfl).2) 8 (by decide) (by decide) kF_X1_31 (fun h9 => congrArg va_rf (h9.2.2 51 8 58 rfl)) ?_
                refine ev_iload 1 dX1_speak_186 rfl ?_
                obtain ⟨c48, h⟩ := am_gd_elim h
                refine ev_iald dX1_speak_188 (fun h9 => (h9.2.1 58 _ rfl).2) (am_in_vp c48) ?_
                refine ev_iadd dX1_speak_189 ?_
                refine ev_min dX1_speak_190 kM_X1_147 k_minS kS_Math k_minC (Nat.le_of_ble_eq_true rfl) ?_
                obtain ⟨c49, h⟩ := am_gd_elim h
                refine ev_iast dX1_speak_193 (fun h9 => (h9.2.1 58 _ rfl).2) (am_in_vp c49) ?_
                refine am_let_elim (P := fun g50 => am_Ev zc MX1_speak 2 194 [(7, .int x33), (6, .int x21), (0, .ref 51), (3, .int x1), (4, .int x17), (5, .int x18)] [] g50 (am_ri r)) h fun g50 h => ?_
                refine ev_goto 213 dX1_speak_194 (by decide) ?_
                refine ev_sub [2, 3, 4, 5, 1] rfl ?_
                exact hj39  _ _ h
          · replace h := am_ifn c31 h
            refine ev_goto 238 dX1_speak_139 (by decide) ?_
            refine ev_sub [1, 2, 3, 4] rfl ?_
            exact hj26 _ _ _ h
set_option maxRecDepth 100000 in
set_option maxHeartbeats 4000000 in
theorem eX1_speak (a1 : Int32) (a2 : Int32) (g : am_G) (r : Int32 × am_G) (h : fX1_speak a1 a2 g = some r) : am_Ev zc MX1_speak 2 0 [(0, .ref 51), (1, .int a1), (2, .int a2)] [] g (am_ri r) := by
  unfold fX1_speak at h
  refine ev_iload_n 1 dX1_speak_0 rfl ?_
  refine ev_iconst dX1_speak_1 rfl ?_
  refine ev_iadd dX1_speak_2 ?_
  refine ev_bipush dX1_speak_3 rfl ?_
  refine ev_imul dX1_speak_5 ?_
  refine am_let_elim (P := fun x1 => am_Ev zc MX1_speak 2 6 [(0, .ref 51), (1, .int a1), (2, .int a2)] [.int x1] g (am_ri r)) h fun x1 h => ?_
  refine ev_istore_n (ls' := [(3, .int x1), (0, .ref 51), (1, .int a1), (2, .int a2)]) dX1_speak_6 rfl (by decide) rfl ?_
  refine ev_iconst dX1_speak_7 rfl ?_
  refine ev_istore (ls' := [(4, .int (0 : Int32)), (3, .int x1), (0, .ref 51), (1, .int a1), (2, .int a2)]) dX1_speak_8 (by decide) rfl ?_
  refine ev_sub [2, 3, 4, 1, 0] rfl ?_
  refine tfX1_speak_L10 a1 a2 x1 ?_ _ _ _ _ h
  intro  g16 r h
  try dsimp only at h
  refine ev_iconst dX1_speak_82 rfl ?_
  refine ev_istore (ls' := [(4, .int (0 : Int32)), (0, .ref 51), (3, .int x1)]) dX1_speak_83 (by decide) rfl ?_
  refine ev_iconst dX1_speak_85 rfl ?_
  refine ev_istore (ls' := [(5, .int (0 : Int32)), (4, .int (0 : Int32)), (0, .ref 51), (3, .int x1)]) dX1_speak_86 (by decide) rfl ?_
  refine ev_sub [2, 3, 1, 0] rfl ?_
  exact tfX1_speak_L88 x1 _ _ _ _ _ h
theorem tX1_speak {a1 : Int32} {a2 : Int32} {g : am_G} {r : Int32 × am_G} (h : fX1_speak a1 a2 g = some r) : am_Mt zc MX1_speak 2 [.ref 51, .int a1, .int a2] g (am_ri r) := am_Mt.of rfl (Nat.le_of_ble_eq_true rfl) (eX1_speak _ _ _ _ h)
def fX1_search_L19 (rec : Int32 → Int32 → Int32 → am_G → Option (Int32 × am_G)) (a1 : Int32) (a2 : Int32) (a3 : Int32) : Nat → Int32 → am_G → Option (Int32 × am_G)
  | 0, _, _ => none
  | n + 1, x8, g9 =>
    if (am_I g9 51 12) ≤ x8 then (
      some ((0 : Int32), g9))
    else (
      am_gd (am_in x8 48) <|
      am_jn (fun  (g13 : am_G) =>
        am_let (x8 + (1 : Int32)) fun x15 =>
        fX1_search_L19 rec a1 a2 a3 n x15 g13) fun j14 =>
      if (am_I g9 52 x8.toNatClampNeg) = 0 then (
        j14 g9)
      else (
        am_jn (fun  (g17 : am_G) =>
          am_bd (fX1_speak a1 x8 g17) fun v19 g20 =>
          if v19 = (-1 : Int32) then (
            j14 g20)
          else (
            am_jn (fun  (g24 : am_G) =>
              am_gd (am_in a1 3) <|
              am_let (am_si g24 61 a1.toNatClampNeg x8) fun g27 =>
              if a2 = (1 : Int32) then (
                if ((v19 >>> ((am_I g27 51 13) &&& 31)) &&& (1 : Int32)) = (1 : Int32) then (
                  some ((1 : Int32), g27))
                else (
                  j14 g27))
              else (
                am_jn (fun (x30 : Int32) (g31 : am_G) =>
                  am_bd (rec (a1 + (1 : Int32)) (a2 - (1 : Int32)) x30 g31) fun v33 g34 =>
                  if v33 = 0 then (
                    am_bd (fX1_lookUp a1 g34) fun u37 g38 =>
                    j14 g38)
                  else (
                    some ((1 : Int32), g34))) fun j32 =>
                if v19 = 0 then (
                  j32 x8 g27)
                else (
                  j32 (0 : Int32) g27))) fun j25 =>
            if v19 = 0 then (
              if a2 = (1 : Int32) then (
                j14 g20)
              else (
                if a3 ≤ x8 then (
                  j25 g20)
                else (
                  j14 g20)))
            else (
              j25 g20))) fun j18 =>
        if a2 = (1 : Int32) then (
          am_bd (fX1_stirs a1 x8 g9) fun v43 g44 =>
          if v43 = 0 then (
            j14 g44)
          else (
            j18 g44))
        else (
          j18 g9)))
def bX1_search (rec : Int32 → Int32 → Int32 → am_G → Option (Int32 × am_G)) (a1 : Int32) (a2 : Int32) (a3 : Int32) (g : am_G) : Option (Int32 × am_G) :=
  am_bd (fX1_lookUp a1 g) fun u1 g2 =>
  am_bd (fX1_canReach a1 a2 g2) fun v4 g5 =>
  if v4 = 0 then (
    some ((0 : Int32), g5))
  else (
    fX1_search_L19 rec a1 a2 a3 am_fu (0 : Int32) g5)
set_option maxRecDepth 100000 in
set_option maxHeartbeats 4000000 in
theorem tfX1_search_L19 {rec : Int32 → Int32 → Int32 → am_G → Option (Int32 × am_G)} {dd : Nat} (hdd : 5 ≤ dd) (hrec : ∀ (a1 : Int32) (a2 : Int32) (a3 : Int32) (g : am_G) (r : Int32 × am_G), rec a1 a2 a3 g = some r → am_Mt zc MX1_search dd [.ref 51, .int a1, .int a2, .int a3] g (am_ri r))  (a1 : Int32) (a2 : Int32) (a3 : Int32) : ∀ (n : Nat) (x8 : Int32) (g9 : am_G) (r : Int32 × am_G), fX1_search_L19 rec a1 a2 a3 n x8 g9 = some r → am_Ev zc MX1_search (dd + 1) 19 [(0, .ref 51), (1, .int a1), (2, .int a2), (3, .int a3), (4, .int x8)] [] g9 (am_ri r) := by
  intro n
  induction n with
  | zero => intro x8 g9 r h; exact nomatch (show (none : Option (Int32 × am_G)) = some r from h)
  | succ n ih =>
    intro x8 g9 r h
    rw [fX1_search_L19] at h
    refine ev_iload 4 dX1_search_19 rfl ?_
    refine ev_aload_n 0 dX1_search_21 rfl ?_
    refine ev_gf (v := .int (am_I g9 51 12)) dX1_search_22 (fun h9 => (h9.2.1 51 _ rfl).2) 12 (by decide) (by decide) kF_X1_69 (fun _ => rfl) ?_
    refine ev_icmp_ge 155 dX1_search_25 (by decide) (fun c10 => ?_) (fun c10 => ?_)
    · replace h := am_ifp c10 h
      refine ev_iconst dX1_search_155 rfl ?_
      cases h
      exact ev_zret dX1_search_156 rfl rfl
    · replace h := am_ifn c10 h
      refine ev_aload_n 0 dX1_search_28 rfl ?_
      refine ev_gf (v := .ref 52) dX1_search_29 (fun h9 => (h9.2.1 51 _ rfl).2) 2 (by decide) (by decide) kF_X1_11 (fun h9 => congrArg va_rf (h9.2.2 51 2 52 rfl)) ?_
      refine ev_iload 4 dX1_search_32 rfl ?_
      obtain ⟨c11, h⟩ := am_gd_elim h
      refine ev_zald dX1_search_34 (fun h9 => (h9.2.1 52 _ rfl).2) (am_in_vp c11) ?_
      refine am_jn_elim (fun q9 => ∀  (g13 : am_G) (r : Int32 × am_G), q9  g13 = some r → am_Ev zc MX1_search (dd + 1) 149 [(0, .ref 51), (1, .int a1), (2, .int a2), (3, .int a3), (4, .int x8)] [] g13 (am_ri r)) h ?_ (fun j14 hj14 h => ?_)
      · intro  g13 r h
        try dsimp only at h
        obtain ⟨x15, ex15, h⟩ := am_let_ex h
        refine ev_iinc (ls' := [(4, .int x15), (0, .ref 51), (1, .int a1), (2, .int a2), (3, .int a3)]) 4 dX1_search_149 rfl ex15 (by decide) rfl ?_
        refine ev_goto 19 dX1_search_152 (by decide) ?_
        refine ev_sub [1, 2, 3, 4, 0] rfl ?_
        exact ih _ _ _ h
      · refine ev_if_eq 149 dX1_search_35 (by decide) (fun c12 => ?_) (fun c12 => ?_)
        · replace h := am_ifp c12 h
          refine ev_sub [0, 1, 2, 3, 4] rfl ?_
          exact hj14  _ _ h
        · replace h := am_ifn c12 h
          refine ev_iload_n 2 dX1_search_38 rfl ?_
          refine ev_iconst dX1_search_39 rfl ?_
          refine am_jn_elim (fun q9 => ∀  (g17 : am_G) (r : Int32 × am_G), q9  g17 = some r → am_Ev zc MX1_search (dd + 1) 56 [(0, .ref 51), (1, .int a1), (2, .int a2), (3, .int a3), (4, .int x8)] [] g17 (am_ri r)) h ?_ (fun j18 hj18 h => ?_)
          · intro  g17 r h
            try dsimp only at h
            refine ev_aload_n 0 dX1_search_56 rfl ?_
            refine ev_iload_n 1 dX1_search_57 rfl ?_
            refine ev_iload 4 dX1_search_58 rfl ?_
            obtain ⟨v19, g20, e21, h⟩ := am_bd_elim h
            refine ev_callVi (v := v19) [.int a1, .int x8] [] dX1_search_60 (tX1_speak e21) (by omega) mo_X1_speak kM_X1_126 ki_X1_speak kv_X1_speak (fun h9 => (h9.2.1 51 _ rfl).2) (by decide) rfl (Nat.le_of_ble_eq_true rfl) ?_
            refine ev_istore (ls' := [(5, .int v19), (0, .ref 51), (1, .int a1), (2, .int a2), (3, .int a3), (4, .int x8)]) dX1_search_63 (by decide) rfl ?_
            refine ev_iload 0 dX1_search_65 rfl ?_
            refine ev_iconst dX1_search_67 rfl ?_
            refine ev_icmp_eq 149 dX1_search_68 (by decide) (fun c22 => ?_) (fun c22 => ?_)
            · replace h := am_ifp c22 h
              refine ev_sub [1, 2, 3, 4, 5] rfl ?_
              exact hj14  _ _ h
            · replace h := am_ifn c22 h
              refine ev_iload 0 dX1_search_71 rfl ?_
              refine am_jn_elim (fun q9 => ∀  (g24 : am_G) (r : Int32 × am_G), q9  g24 = some r → am_Ev zc MX1_search (dd + 1) 90 [(0, .ref 51), (1, .int a1), (2, .int a2), (3, .int a3), (4, .int x8), (5, .int v19)] [] g24 (am_ri r)) h ?_ (fun j25 hj25 h => ?_)
              · intro  g24 r h
                try dsimp only at h
                refine ev_aload_n 0 dX1_search_90 rfl ?_
                refine ev_gf (v := .ref 61) dX1_search_91 (fun h9 => (h9.2.1 51 _ rfl).2) 11 (by decide) (by decide) kF_X1_40 (fun h9 => congrArg va_rf (h9.2.2 51 11 61 rfl)) ?_
                refine ev_iload_n 1 dX1_search_94 rfl ?_
                refine ev_iload 4 dX1_search_95 rfl ?_
                obtain ⟨c26, h⟩ := am_gd_elim h
                refine ev_iast dX1_search_97 (fun h9 => (h9.2.1 61 _ rfl).2) (am_in_vp c26) ?_
                refine am_let_elim (P := fun g27 => am_Ev zc MX1_search (dd + 1) 98 [(0, .ref 51), (1, .int a1), (2, .int a2), (3, .int a3), (4, .int x8), (5, .int v19)] [] g27 (am_ri r)) h fun g27 h => ?_
                refine ev_iload_n 2 dX1_search_98 rfl ?_
                refine ev_iconst dX1_search_99 rfl ?_
                refine ev_icmp_ne 118 dX1_search_100 (by decide) (fun c28 => ?_) (fun c28 => ?_)
                · replace h := am_ifn c28 h
                  refine ev_aload_n 0 dX1_search_118 rfl ?_
                  refine ev_iload_n 1 dX1_search_119 rfl ?_
                  refine ev_iconst dX1_search_120 rfl ?_
                  refine ev_iadd dX1_search_121 ?_
                  refine ev_iload_n 2 dX1_search_122 rfl ?_
                  refine ev_iconst dX1_search_123 rfl ?_
                  refine ev_isub dX1_search_124 ?_
                  refine ev_iload 5 dX1_search_125 rfl ?_
                  refine am_jn_elim (fun q9 => ∀ (x30 : Int32) (g31 : am_G) (r : Int32 × am_G), q9 x30 g31 = some r → am_Ev zc MX1_search (dd + 1) 136 [(0, .ref 51), (1, .int a1), (2, .int a2), (3, .int a3), (4, .int x8)] [.int x30, .int (a2 - (1 : Int32)), .int (a1 + (1 : Int32)), .ref 51] g31 (am_ri r)) h ?_ (fun j32 hj32 h => ?_)
                  · intro x30 g31 r h
                    try dsimp only at h
                    obtain ⟨v33, g34, e35, h⟩ := am_bd_elim h
                    refine ev_callVi (v := v33) [.int (a1 + (1 : Int32)), .int (a2 - (1 : Int32)), .int x30] [] dX1_search_136 (hrec (a1 + (1 : Int32)) (a2 - (1 : Int32)) x30 g31 _ e35) (Nat.lt_succ_self _) mo_X1_search kM_X1_130 ki_X1_search kv_X1_search (fun h9 => (h9.2.1 51 _ rfl).2) (by decide) rfl (Nat.le_of_ble_eq_true rfl) ?_
                    refine ev_if_eq 144 dX1_search_139 (by decide) (fun c36 => ?_) (fun c36 => ?_)
                    · replace h := am_ifp c36 h
                      refine ev_aload_n 0 dX1_search_144 rfl ?_
                      refine ev_iload_n 1 dX1_search_145 rfl ?_
                      obtain ⟨u37, g38, e39, h⟩ := am_bd_elim h
                      refine ev_callVv [.int a1] [] dX1_search_146 (tX1_lookUp e39) (by omega) mo_X1_lookUp kM_X1_116 ki_X1_lookUp kv_X1_lookUp (fun h9 => (h9.2.1 51 _ rfl).2) (by decide) rfl (Nat.le_of_ble_eq_true rfl) ?_
                      refine ev_sub [0, 1, 2, 3, 4] rfl ?_
                      exact hj14  _ _ h
                    · replace h := am_ifn c36 h
                      refine ev_iconst dX1_search_142 rfl ?_
                      cases h
                      exact ev_zret dX1_search_143 rfl rfl
                  · refine ev_if_ne 135 dX1_search_127 (by decide) (fun c29 => ?_) (fun c29 => ?_)
                    · replace h := am_ifn c29 h
                      refine ev_iconst dX1_search_135 rfl ?_
                      refine ev_sub [0, 1, 2, 3, 4] rfl ?_
                      exact hj32 _ _ _ h
                    · replace h := am_ifp c29 h
                      refine ev_iload 4 dX1_search_130 rfl ?_
                      refine ev_goto 136 dX1_search_132 (by decide) ?_
                      refine ev_sub [0, 1, 2, 3, 4] rfl ?_
                      exact hj32 _ _ _ h
                · replace h := am_ifp c28 h
                  refine ev_iload 5 dX1_search_103 rfl ?_
                  refine ev_aload_n 0 dX1_search_105 rfl ?_
                  refine ev_gf (v := .int (am_I g27 51 13)) dX1_search_106 (fun h9 => (h9.2.1 51 _ rfl).2) 13 (by decide) (by decide) kF_X1_51 (fun _ => rfl) ?_
                  refine ev_ishr dX1_search_109 ?_
                  refine ev_iconst dX1_search_110 rfl ?_
                  refine ev_iand dX1_search_111 ?_
                  refine ev_iconst dX1_search_112 rfl ?_
                  refine ev_icmp_ne 149 dX1_search_113 (by decide) (fun c40 => ?_) (fun c40 => ?_)
                  · replace h := am_ifn c40 h
                    refine ev_sub [0, 1, 2, 3, 4] rfl ?_
                    exact hj14  _ _ h
                  · replace h := am_ifp c40 h
                    refine ev_iconst dX1_search_116 rfl ?_
                    cases h
                    exact ev_zret dX1_search_117 rfl rfl
              · refine ev_if_ne 90 dX1_search_73 (by decide) (fun c23 => ?_) (fun c23 => ?_)
                · replace h := am_ifn c23 h
                  refine ev_sub [1, 2, 3, 4, 5, 0] rfl ?_
                  exact hj25  _ _ h
                · replace h := am_ifp c23 h
                  refine ev_iload_n 3 dX1_search_76 rfl ?_
                  refine ev_iconst dX1_search_77 rfl ?_
                  refine ev_icmp_eq 149 dX1_search_78 (by decide) (fun c41 => ?_) (fun c41 => ?_)
                  · replace h := am_ifp c41 h
                    refine ev_sub [1, 2, 3, 4, 5] rfl ?_
                    exact hj14  _ _ h
                  · replace h := am_ifn c41 h
                    refine ev_iload 5 dX1_search_81 rfl ?_
                    refine ev_iload_n 4 dX1_search_83 rfl ?_
                    refine ev_icmp_ge 90 dX1_search_84 (by decide) (fun c42 => ?_) (fun c42 => ?_)
                    · replace h := am_ifp c42 h
                      refine ev_sub [1, 2, 3, 4, 5, 0] rfl ?_
                      exact hj25  _ _ h
                    · replace h := am_ifn c42 h
                      refine ev_goto 149 dX1_search_87 (by decide) ?_
                      refine ev_sub [1, 2, 3, 4, 5] rfl ?_
                      exact hj14  _ _ h
          · refine ev_icmp_ne 56 dX1_search_40 (by decide) (fun c16 => ?_) (fun c16 => ?_)
            · replace h := am_ifn c16 h
              refine ev_sub [0, 1, 2, 3, 4] rfl ?_
              exact hj18  _ _ h
            · replace h := am_ifp c16 h
              refine ev_aload_n 0 dX1_search_43 rfl ?_
              refine ev_iload_n 1 dX1_search_44 rfl ?_
              refine ev_iload 4 dX1_search_45 rfl ?_
              obtain ⟨v43, g44, e45, h⟩ := am_bd_elim h
              refine ev_callVi (v := v43) [.int a1, .int x8] [] dX1_search_47 (tX1_stirs e45) (by omega) mo_X1_stirs kM_X1_123 ki_X1_stirs kv_X1_stirs (fun h9 => (h9.2.1 51 _ rfl).2) (by decide) rfl (Nat.le_of_ble_eq_true rfl) ?_
              refine ev_if_ne 56 dX1_search_50 (by decide) (fun c46 => ?_) (fun c46 => ?_)
              · replace h := am_ifn c46 h
                refine ev_sub [0, 1, 2, 3, 4] rfl ?_
                exact hj18  _ _ h
              · replace h := am_ifp c46 h
                refine ev_goto 149 dX1_search_53 (by decide) ?_
                refine ev_sub [0, 1, 2, 3, 4] rfl ?_
                exact hj14  _ _ h
set_option maxRecDepth 100000 in
set_option maxHeartbeats 4000000 in
theorem eX1_search {rec : Int32 → Int32 → Int32 → am_G → Option (Int32 × am_G)} {dd : Nat} (hdd : 5 ≤ dd) (hrec : ∀ (a1 : Int32) (a2 : Int32) (a3 : Int32) (g : am_G) (r : Int32 × am_G), rec a1 a2 a3 g = some r → am_Mt zc MX1_search dd [.ref 51, .int a1, .int a2, .int a3] g (am_ri r)) (a1 : Int32) (a2 : Int32) (a3 : Int32) (g : am_G) (r : Int32 × am_G) (h : bX1_search rec a1 a2 a3 g = some r) : am_Ev zc MX1_search (dd + 1) 0 [(0, .ref 51), (1, .int a1), (2, .int a2), (3, .int a3)] [] g (am_ri r) := by
  unfold bX1_search at h
  refine ev_aload_n 0 dX1_search_0 rfl ?_
  refine ev_iload_n 1 dX1_search_1 rfl ?_
  obtain ⟨u1, g2, e3, h⟩ := am_bd_elim h
  refine ev_callVv [.int a1] [] dX1_search_2 (tX1_lookUp e3) (by omega) mo_X1_lookUp kM_X1_116 ki_X1_lookUp kv_X1_lookUp (fun h9 => (h9.2.1 51 _ rfl).2) (by decide) rfl (Nat.le_of_ble_eq_true rfl) ?_
  refine ev_aload_n 0 dX1_search_5 rfl ?_
  refine ev_iload_n 1 dX1_search_6 rfl ?_
  refine ev_iload_n 2 dX1_search_7 rfl ?_
  obtain ⟨v4, g5, e6, h⟩ := am_bd_elim h
  refine ev_callVi (v := v4) [.int a1, .int a2] [] dX1_search_8 (tX1_canReach e6) (by omega) mo_X1_canReach kM_X1_119 ki_X1_canReach kv_X1_canReach (fun h9 => (h9.2.1 51 _ rfl).2) (by decide) rfl (Nat.le_of_ble_eq_true rfl) ?_
  refine ev_if_ne 16 dX1_search_11 (by decide) (fun c7 => ?_) (fun c7 => ?_)
  · replace h := am_ifn c7 h
    refine ev_iconst dX1_search_16 rfl ?_
    refine ev_istore (ls' := [(4, .int (0 : Int32)), (0, .ref 51), (1, .int a1), (2, .int a2), (3, .int a3)]) dX1_search_17 (by decide) rfl ?_
    refine ev_sub [1, 2, 3, 4, 0] rfl ?_
    exact tfX1_search_L19 hdd hrec a1 a2 a3 _ _ _ _ h
  · replace h := am_ifp c7 h
    refine ev_iconst dX1_search_14 rfl ?_
    cases h
    exact ev_zret dX1_search_15 rfl rfl
def fX1_search : Nat → Int32 → Int32 → Int32 → am_G → Option (Int32 × am_G)
  | 0, _, _, _, _ => none
  | n + 1, a1, a2, a3, g => bX1_search (fX1_search n) a1 a2 a3 g
theorem tX1_search : ∀ (n : Nat) (a1 : Int32) (a2 : Int32) (a3 : Int32) (g : am_G) (r : Int32 × am_G), fX1_search n a1 a2 a3 g = some r → am_Mt zc MX1_search (5 + n) [.ref 51, .int a1, .int a2, .int a3] g (am_ri r) := by
  intro n
  induction n with
  | zero => intro a1 a2 a3 g r h; exact nomatch (show (none : Option (Int32 × am_G)) = some r from h)
  | succ n ih =>
    intro a1 a2 a3 g r h
    exact am_Mt.of rfl (Nat.le_of_ble_eq_true rfl) (eX1_search (rec := fX1_search n) (dd := 5 + n) (Nat.le_add_right _ _) ih _ _ _ _ _ h)
theorem tX1_search_f {a1 : Int32} {a2 : Int32} {a3 : Int32} {g : am_G} {r : Int32 × am_G} (h : fX1_search 64 a1 a2 a3 g = some r) : am_Mt zc MX1_search 69 [.ref 51, .int a1, .int a2, .int a3] g (am_ri r) := tX1_search 64 _ _ _ _ _ h
def fX2_init (fx : Nat) (a0 : Nat) (g : am_G) : Option (Unit × am_G) :=
  am_let (am_n g) fun p1 =>
  am_let (am_new g 20 6) fun g2 =>
  am_gd (decide (am_S g2 a0 = (2, 8))) <|
  am_gd (decide (fx ≤ a0)) <|
  am_let (am_sp g2 a0 0 (some p1)) fun g4 =>
  am_let (am_n g4) fun p6 =>
  am_let (am_new g4 20 6) fun g7 =>
  am_gd (decide (am_S g7 a0 = (2, 8))) <|
  am_gd (decide (fx ≤ a0)) <|
  am_let (am_sp g7 a0 1 (some p6)) fun g9 =>
  am_let (am_n g9) fun p11 =>
  am_let (am_new g9 20 36) fun g12 =>
  am_gd (decide (am_S g12 a0 = (2, 8))) <|
  am_gd (decide (fx ≤ a0)) <|
  am_let (am_sp g12 a0 2 (some p11)) fun g14 =>
  am_let (am_n g14) fun p16 =>
  am_let (am_new g14 20 36) fun g17 =>
  am_gd (decide (am_S g17 a0 = (2, 8))) <|
  am_gd (decide (fx ≤ a0)) <|
  am_let (am_sp g17 a0 3 (some p16)) fun g19 =>
  am_let (am_n g19) fun p21 =>
  am_let (am_new g19 20 6) fun g22 =>
  am_gd (decide (am_S g22 a0 = (2, 8))) <|
  am_gd (decide (fx ≤ a0)) <|
  am_let (am_sp g22 a0 4 (some p21)) fun g24 =>
  some ((), g24)
set_option maxRecDepth 100000 in
set_option maxHeartbeats 4000000 in
theorem eX2_init {Z : am_Z} {fx : Nat} (hF : ∀ g : am_G, am_ok Z g → ∀ k, Z.2 (am_n g) k = none) (hZ : ∀ a k, fx ≤ a → Z.2 a k = none) (a0 : Nat) (g : am_G) (r : Unit × am_G) (h : fX2_init fx a0 g = some r) : am_Ev Z MX2_init 0 0 [(0, .ref a0)] [] g (am_rv r) := by
  unfold fX2_init at h
  refine ev_aload_n 0 dX2_init_0 rfl ?_
  refine ev_objInit dX2_init_1 kM_X2_3 k_objI k_objC (Nat.le_of_ble_eq_true rfl) ?_
  refine ev_aload_n 0 dX2_init_4 rfl ?_
  refine ev_bipush dX2_init_5 rfl ?_
  refine ev_newa 20 6 dX2_init_7 (fun h9 => hF _ h9) (by decide) (by decide) kA_int (by decide) rfl (by decide) ?_
  refine am_let_elim (P := fun p1 => am_Ev Z MX2_init 0 9 [(0, .ref a0)] [.ref p1, .ref a0] (am_new g 20 6) (am_rv r)) h fun p1 h => ?_
  refine am_let_elim (P := fun g2 => am_Ev Z MX2_init 0 9 [(0, .ref a0)] [.ref p1, .ref a0] g2 (am_rv r)) h fun g2 h => ?_
  obtain ⟨c3, h⟩ := am_gd_elim h
  obtain ⟨c5, h⟩ := am_gd_elim h
  refine ev_pfr dX2_init_9 (fun _ => am_sh c3) 0 (by decide) (by decide) kF_X2_9 rfl ⟨rfl, rfl⟩ (hZ _ _ (of_decide_eq_true c5)) (fun _ => rfl) (fun _ => rfl) (fun _ => rfl) ?_
  refine am_let_elim (P := fun g4 => am_Ev Z MX2_init 0 12 [(0, .ref a0)] [] g4 (am_rv r)) h fun g4 h => ?_
  refine ev_aload_n 0 dX2_init_12 rfl ?_
  refine ev_bipush dX2_init_13 rfl ?_
  refine ev_newa 20 6 dX2_init_15 (fun h9 => hF _ h9) (by decide) (by decide) kA_int (by decide) rfl (by decide) ?_
  refine am_let_elim (P := fun p6 => am_Ev Z MX2_init 0 17 [(0, .ref a0)] [.ref p6, .ref a0] (am_new g4 20 6) (am_rv r)) h fun p6 h => ?_
  refine am_let_elim (P := fun g7 => am_Ev Z MX2_init 0 17 [(0, .ref a0)] [.ref p6, .ref a0] g7 (am_rv r)) h fun g7 h => ?_
  obtain ⟨c8, h⟩ := am_gd_elim h
  obtain ⟨c10, h⟩ := am_gd_elim h
  refine ev_pfr dX2_init_17 (fun _ => am_sh c8) 1 (by decide) (by decide) kF_X2_15 rfl ⟨rfl, rfl⟩ (hZ _ _ (of_decide_eq_true c10)) (fun _ => rfl) (fun _ => rfl) (fun _ => rfl) ?_
  refine am_let_elim (P := fun g9 => am_Ev Z MX2_init 0 20 [(0, .ref a0)] [] g9 (am_rv r)) h fun g9 h => ?_
  refine ev_aload_n 0 dX2_init_20 rfl ?_
  refine ev_bipush dX2_init_21 rfl ?_
  refine ev_newa 20 36 dX2_init_23 (fun h9 => hF _ h9) (by decide) (by decide) kA_int (by decide) rfl (by decide) ?_
  refine am_let_elim (P := fun p11 => am_Ev Z MX2_init 0 25 [(0, .ref a0)] [.ref p11, .ref a0] (am_new g9 20 36) (am_rv r)) h fun p11 h => ?_
  refine am_let_elim (P := fun g12 => am_Ev Z MX2_init 0 25 [(0, .ref a0)] [.ref p11, .ref a0] g12 (am_rv r)) h fun g12 h => ?_
  obtain ⟨c13, h⟩ := am_gd_elim h
  obtain ⟨c15, h⟩ := am_gd_elim h
  refine ev_pfr dX2_init_25 (fun _ => am_sh c13) 2 (by decide) (by decide) kF_X2_18 rfl ⟨rfl, rfl⟩ (hZ _ _ (of_decide_eq_true c15)) (fun _ => rfl) (fun _ => rfl) (fun _ => rfl) ?_
  refine am_let_elim (P := fun g14 => am_Ev Z MX2_init 0 28 [(0, .ref a0)] [] g14 (am_rv r)) h fun g14 h => ?_
  refine ev_aload_n 0 dX2_init_28 rfl ?_
  refine ev_bipush dX2_init_29 rfl ?_
  refine ev_newa 20 36 dX2_init_31 (fun h9 => hF _ h9) (by decide) (by decide) kA_int (by decide) rfl (by decide) ?_
  refine am_let_elim (P := fun p16 => am_Ev Z MX2_init 0 33 [(0, .ref a0)] [.ref p16, .ref a0] (am_new g14 20 36) (am_rv r)) h fun p16 h => ?_
  refine am_let_elim (P := fun g17 => am_Ev Z MX2_init 0 33 [(0, .ref a0)] [.ref p16, .ref a0] g17 (am_rv r)) h fun g17 h => ?_
  obtain ⟨c18, h⟩ := am_gd_elim h
  obtain ⟨c20, h⟩ := am_gd_elim h
  refine ev_pfr dX2_init_33 (fun _ => am_sh c18) 3 (by decide) (by decide) kF_X2_21 rfl ⟨rfl, rfl⟩ (hZ _ _ (of_decide_eq_true c20)) (fun _ => rfl) (fun _ => rfl) (fun _ => rfl) ?_
  refine am_let_elim (P := fun g19 => am_Ev Z MX2_init 0 36 [(0, .ref a0)] [] g19 (am_rv r)) h fun g19 h => ?_
  refine ev_aload_n 0 dX2_init_36 rfl ?_
  refine ev_bipush dX2_init_37 rfl ?_
  refine ev_newa 20 6 dX2_init_39 (fun h9 => hF _ h9) (by decide) (by decide) kA_int (by decide) rfl (by decide) ?_
  refine am_let_elim (P := fun p21 => am_Ev Z MX2_init 0 41 [(0, .ref a0)] [.ref p21, .ref a0] (am_new g19 20 6) (am_rv r)) h fun p21 h => ?_
  refine am_let_elim (P := fun g22 => am_Ev Z MX2_init 0 41 [(0, .ref a0)] [.ref p21, .ref a0] g22 (am_rv r)) h fun g22 h => ?_
  obtain ⟨c23, h⟩ := am_gd_elim h
  obtain ⟨c25, h⟩ := am_gd_elim h
  refine ev_pfr dX2_init_41 (fun _ => am_sh c23) 4 (by decide) (by decide) kF_X2_24 rfl ⟨rfl, rfl⟩ (hZ _ _ (of_decide_eq_true c25)) (fun _ => rfl) (fun _ => rfl) (fun _ => rfl) ?_
  refine am_let_elim (P := fun g24 => am_Ev Z MX2_init 0 44 [(0, .ref a0)] [] g24 (am_rv r)) h fun g24 h => ?_
  cases h
  exact ev_ret dX2_init_44 rfl
theorem tX2_init {Z : am_Z} {fx : Nat} (hF : ∀ g : am_G, am_ok Z g → ∀ k, Z.2 (am_n g) k = none) (hZ : ∀ a k, fx ≤ a → Z.2 a k = none) {a0 : Nat} {g : am_G} {r : Unit × am_G} (h : fX2_init fx a0 g = some r) : am_Mt Z MX2_init 0 [.ref a0] g (am_rv r) := am_Mt.of rfl (Nat.le_of_ble_eq_true rfl) (eX2_init hF hZ _ _ _ h)
def fX2_copyFrom (a0 : Nat) (a1 : Nat) (g : am_G) : Option (Unit × am_G) :=
  am_gd (decide (am_S g a1 = (2, 8))) <|
  am_oc (am_P g a1 0) (fun p2 =>
  am_gd (decide (am_S g a0 = (2, 8))) <|
  am_oc (am_P g a0 0) (fun p5 =>
  am_gd (decide ((am_S g p2).1 = 20)) <|
  am_gd (decide ((am_S g p5).1 = 20)) <|
  am_gd (am_co (0 : Int32) (0 : Int32) (6 : Int32) ((am_S g p2).2) ((am_S g p5).2)) <|
  am_let (am_cp g p2 p5 (0 : Int32).toNatClampNeg (0 : Int32).toNatClampNeg (6 : Int32).toNatClampNeg) fun g10 =>
  am_gd (decide (am_S g10 a1 = (2, 8))) <|
  am_oc (am_P g10 a1 1) (fun p12 =>
  am_gd (decide (am_S g10 a0 = (2, 8))) <|
  am_oc (am_P g10 a0 1) (fun p15 =>
  am_gd (decide ((am_S g10 p12).1 = 20)) <|
  am_gd (decide ((am_S g10 p15).1 = 20)) <|
  am_gd (am_co (0 : Int32) (0 : Int32) (6 : Int32) ((am_S g10 p12).2) ((am_S g10 p15).2)) <|
  am_let (am_cp g10 p12 p15 (0 : Int32).toNatClampNeg (0 : Int32).toNatClampNeg (6 : Int32).toNatClampNeg) fun g20 =>
  am_gd (decide (am_S g20 a1 = (2, 8))) <|
  am_oc (am_P g20 a1 2) (fun p22 =>
  am_gd (decide (am_S g20 a0 = (2, 8))) <|
  am_oc (am_P g20 a0 2) (fun p25 =>
  am_gd (decide ((am_S g20 p22).1 = 20)) <|
  am_gd (decide ((am_S g20 p25).1 = 20)) <|
  am_gd (am_co (0 : Int32) (0 : Int32) (36 : Int32) ((am_S g20 p22).2) ((am_S g20 p25).2)) <|
  am_let (am_cp g20 p22 p25 (0 : Int32).toNatClampNeg (0 : Int32).toNatClampNeg (36 : Int32).toNatClampNeg) fun g30 =>
  am_gd (decide (am_S g30 a1 = (2, 8))) <|
  am_oc (am_P g30 a1 3) (fun p32 =>
  am_gd (decide (am_S g30 a0 = (2, 8))) <|
  am_oc (am_P g30 a0 3) (fun p35 =>
  am_gd (decide ((am_S g30 p32).1 = 20)) <|
  am_gd (decide ((am_S g30 p35).1 = 20)) <|
  am_gd (am_co (0 : Int32) (0 : Int32) (36 : Int32) ((am_S g30 p32).2) ((am_S g30 p35).2)) <|
  am_let (am_cp g30 p32 p35 (0 : Int32).toNatClampNeg (0 : Int32).toNatClampNeg (36 : Int32).toNatClampNeg) fun g40 =>
  am_gd (decide (am_S g40 a1 = (2, 8))) <|
  am_oc (am_P g40 a1 4) (fun p42 =>
  am_gd (decide (am_S g40 a0 = (2, 8))) <|
  am_oc (am_P g40 a0 4) (fun p45 =>
  am_gd (decide ((am_S g40 p42).1 = 20)) <|
  am_gd (decide ((am_S g40 p45).1 = 20)) <|
  am_gd (am_co (0 : Int32) (0 : Int32) (6 : Int32) ((am_S g40 p42).2) ((am_S g40 p45).2)) <|
  am_let (am_cp g40 p42 p45 (0 : Int32).toNatClampNeg (0 : Int32).toNatClampNeg (6 : Int32).toNatClampNeg) fun g50 =>
  am_gd (decide (am_S g50 a1 = (2, 8))) <|
  am_gd (decide (am_S g50 a0 = (2, 8))) <|
  am_let (am_si g50 a0 5 (am_I g50 a1 5)) fun g53 =>
  am_gd (decide (am_S g53 a1 = (2, 8))) <|
  am_gd (decide (am_S g53 a0 = (2, 8))) <|
  am_let (am_si g53 a0 6 (am_I g53 a1 6)) fun g56 =>
  am_gd (decide (am_S g56 a1 = (2, 8))) <|
  am_gd (decide (am_S g56 a0 = (2, 8))) <|
  am_let (am_si g56 a0 7 (am_I g56 a1 7)) fun g59 =>
  some ((), g59)) none) none) none) none) none) none) none) none) none) none
set_option maxRecDepth 100000 in
set_option maxHeartbeats 4000000 in
theorem eX2_copyFrom (a0 : Nat) (a1 : Nat) (g : am_G) (r : Unit × am_G) (h : fX2_copyFrom a0 a1 g = some r) : am_Ev zc MX2_copyFrom 0 0 [(0, .ref a0), (1, .ref a1)] [] g (am_rv r) := by
  unfold fX2_copyFrom at h
  refine ev_aload_n 1 dX2_copyFrom_0 rfl ?_
  obtain ⟨c1, h⟩ := am_gd_elim h
  refine am_oc_elim h (fun p2 e3 h => ?_) (fun _ h => nomatch h)
  refine ev_gf (v := .ref p2) dX2_copyFrom_1 (fun _ => am_sh c1) 0 (by decide) (by decide) kF_X2_9 (fun _ => congrArg va_rf e3) ?_
  refine ev_iconst dX2_copyFrom_4 rfl ?_
  refine ev_aload_n 0 dX2_copyFrom_5 rfl ?_
  obtain ⟨c4, h⟩ := am_gd_elim h
  refine am_oc_elim h (fun p5 e6 h => ?_) (fun _ h => nomatch h)
  refine ev_gf (v := .ref p5) dX2_copyFrom_6 (fun _ => am_sh c4) 0 (by decide) (by decide) kF_X2_9 (fun _ => congrArg va_rf e6) ?_
  refine ev_iconst dX2_copyFrom_9 rfl ?_
  refine ev_bipush dX2_copyFrom_10 rfl ?_
  obtain ⟨c7, h⟩ := am_gd_elim h
  obtain ⟨c8, h⟩ := am_gd_elim h
  obtain ⟨c9, h⟩ := am_gd_elim h
  refine ev_copyi dX2_copyFrom_12 kM_X2_27 k_cpN k_cpS kS_System (fun _ => am_shk c7) (fun _ => am_shk c8) (am_co_elim c9).1 (am_co_elim c9).2.1 (am_co_elim c9).2.2.1 (am_co_elim c9).2.2.2.1 (am_co_elim c9).2.2.2.2 (Nat.le_of_ble_eq_true rfl) ?_
  refine am_let_elim (P := fun g10 => am_Ev zc MX2_copyFrom 0 15 [(0, .ref a0), (1, .ref a1)] [] g10 (am_rv r)) h fun g10 h => ?_
  refine ev_aload_n 1 dX2_copyFrom_15 rfl ?_
  obtain ⟨c11, h⟩ := am_gd_elim h
  refine am_oc_elim h (fun p12 e13 h => ?_) (fun _ h => nomatch h)
  refine ev_gf (v := .ref p12) dX2_copyFrom_16 (fun _ => am_sh c11) 1 (by decide) (by decide) kF_X2_15 (fun _ => congrArg va_rf e13) ?_
  refine ev_iconst dX2_copyFrom_19 rfl ?_
  refine ev_aload_n 0 dX2_copyFrom_20 rfl ?_
  obtain ⟨c14, h⟩ := am_gd_elim h
  refine am_oc_elim h (fun p15 e16 h => ?_) (fun _ h => nomatch h)
  refine ev_gf (v := .ref p15) dX2_copyFrom_21 (fun _ => am_sh c14) 1 (by decide) (by decide) kF_X2_15 (fun _ => congrArg va_rf e16) ?_
  refine ev_iconst dX2_copyFrom_24 rfl ?_
  refine ev_bipush dX2_copyFrom_25 rfl ?_
  obtain ⟨c17, h⟩ := am_gd_elim h
  obtain ⟨c18, h⟩ := am_gd_elim h
  obtain ⟨c19, h⟩ := am_gd_elim h
  refine ev_copyi dX2_copyFrom_27 kM_X2_27 k_cpN k_cpS kS_System (fun _ => am_shk c17) (fun _ => am_shk c18) (am_co_elim c19).1 (am_co_elim c19).2.1 (am_co_elim c19).2.2.1 (am_co_elim c19).2.2.2.1 (am_co_elim c19).2.2.2.2 (Nat.le_of_ble_eq_true rfl) ?_
  refine am_let_elim (P := fun g20 => am_Ev zc MX2_copyFrom 0 30 [(0, .ref a0), (1, .ref a1)] [] g20 (am_rv r)) h fun g20 h => ?_
  refine ev_aload_n 1 dX2_copyFrom_30 rfl ?_
  obtain ⟨c21, h⟩ := am_gd_elim h
  refine am_oc_elim h (fun p22 e23 h => ?_) (fun _ h => nomatch h)
  refine ev_gf (v := .ref p22) dX2_copyFrom_31 (fun _ => am_sh c21) 2 (by decide) (by decide) kF_X2_18 (fun _ => congrArg va_rf e23) ?_
  refine ev_iconst dX2_copyFrom_34 rfl ?_
  refine ev_aload_n 0 dX2_copyFrom_35 rfl ?_
  obtain ⟨c24, h⟩ := am_gd_elim h
  refine am_oc_elim h (fun p25 e26 h => ?_) (fun _ h => nomatch h)
  refine ev_gf (v := .ref p25) dX2_copyFrom_36 (fun _ => am_sh c24) 2 (by decide) (by decide) kF_X2_18 (fun _ => congrArg va_rf e26) ?_
  refine ev_iconst dX2_copyFrom_39 rfl ?_
  refine ev_bipush dX2_copyFrom_40 rfl ?_
  obtain ⟨c27, h⟩ := am_gd_elim h
  obtain ⟨c28, h⟩ := am_gd_elim h
  obtain ⟨c29, h⟩ := am_gd_elim h
  refine ev_copyi dX2_copyFrom_42 kM_X2_27 k_cpN k_cpS kS_System (fun _ => am_shk c27) (fun _ => am_shk c28) (am_co_elim c29).1 (am_co_elim c29).2.1 (am_co_elim c29).2.2.1 (am_co_elim c29).2.2.2.1 (am_co_elim c29).2.2.2.2 (Nat.le_of_ble_eq_true rfl) ?_
  refine am_let_elim (P := fun g30 => am_Ev zc MX2_copyFrom 0 45 [(0, .ref a0), (1, .ref a1)] [] g30 (am_rv r)) h fun g30 h => ?_
  refine ev_aload_n 1 dX2_copyFrom_45 rfl ?_
  obtain ⟨c31, h⟩ := am_gd_elim h
  refine am_oc_elim h (fun p32 e33 h => ?_) (fun _ h => nomatch h)
  refine ev_gf (v := .ref p32) dX2_copyFrom_46 (fun _ => am_sh c31) 3 (by decide) (by decide) kF_X2_21 (fun _ => congrArg va_rf e33) ?_
  refine ev_iconst dX2_copyFrom_49 rfl ?_
  refine ev_aload_n 0 dX2_copyFrom_50 rfl ?_
  obtain ⟨c34, h⟩ := am_gd_elim h
  refine am_oc_elim h (fun p35 e36 h => ?_) (fun _ h => nomatch h)
  refine ev_gf (v := .ref p35) dX2_copyFrom_51 (fun _ => am_sh c34) 3 (by decide) (by decide) kF_X2_21 (fun _ => congrArg va_rf e36) ?_
  refine ev_iconst dX2_copyFrom_54 rfl ?_
  refine ev_bipush dX2_copyFrom_55 rfl ?_
  obtain ⟨c37, h⟩ := am_gd_elim h
  obtain ⟨c38, h⟩ := am_gd_elim h
  obtain ⟨c39, h⟩ := am_gd_elim h
  refine ev_copyi dX2_copyFrom_57 kM_X2_27 k_cpN k_cpS kS_System (fun _ => am_shk c37) (fun _ => am_shk c38) (am_co_elim c39).1 (am_co_elim c39).2.1 (am_co_elim c39).2.2.1 (am_co_elim c39).2.2.2.1 (am_co_elim c39).2.2.2.2 (Nat.le_of_ble_eq_true rfl) ?_
  refine am_let_elim (P := fun g40 => am_Ev zc MX2_copyFrom 0 60 [(0, .ref a0), (1, .ref a1)] [] g40 (am_rv r)) h fun g40 h => ?_
  refine ev_aload_n 1 dX2_copyFrom_60 rfl ?_
  obtain ⟨c41, h⟩ := am_gd_elim h
  refine am_oc_elim h (fun p42 e43 h => ?_) (fun _ h => nomatch h)
  refine ev_gf (v := .ref p42) dX2_copyFrom_61 (fun _ => am_sh c41) 4 (by decide) (by decide) kF_X2_24 (fun _ => congrArg va_rf e43) ?_
  refine ev_iconst dX2_copyFrom_64 rfl ?_
  refine ev_aload_n 0 dX2_copyFrom_65 rfl ?_
  obtain ⟨c44, h⟩ := am_gd_elim h
  refine am_oc_elim h (fun p45 e46 h => ?_) (fun _ h => nomatch h)
  refine ev_gf (v := .ref p45) dX2_copyFrom_66 (fun _ => am_sh c44) 4 (by decide) (by decide) kF_X2_24 (fun _ => congrArg va_rf e46) ?_
  refine ev_iconst dX2_copyFrom_69 rfl ?_
  refine ev_bipush dX2_copyFrom_70 rfl ?_
  obtain ⟨c47, h⟩ := am_gd_elim h
  obtain ⟨c48, h⟩ := am_gd_elim h
  obtain ⟨c49, h⟩ := am_gd_elim h
  refine ev_copyi dX2_copyFrom_72 kM_X2_27 k_cpN k_cpS kS_System (fun _ => am_shk c47) (fun _ => am_shk c48) (am_co_elim c49).1 (am_co_elim c49).2.1 (am_co_elim c49).2.2.1 (am_co_elim c49).2.2.2.1 (am_co_elim c49).2.2.2.2 (Nat.le_of_ble_eq_true rfl) ?_
  refine am_let_elim (P := fun g50 => am_Ev zc MX2_copyFrom 0 75 [(0, .ref a0), (1, .ref a1)] [] g50 (am_rv r)) h fun g50 h => ?_
  refine ev_aload_n 0 dX2_copyFrom_75 rfl ?_
  refine ev_aload_n 1 dX2_copyFrom_76 rfl ?_
  obtain ⟨c51, h⟩ := am_gd_elim h
  refine ev_gf (v := .int (am_I g50 a1 5)) dX2_copyFrom_77 (fun _ => am_sh c51) 5 (by decide) (by decide) kF_X2_33 (fun _ => rfl) ?_
  obtain ⟨c52, h⟩ := am_gd_elim h
  refine ev_pfi dX2_copyFrom_80 (fun _ => am_sh c52) 5 (by decide) (by decide) kF_X2_33 rfl rfl rfl (fun _ => rfl) ?_
  refine am_let_elim (P := fun g53 => am_Ev zc MX2_copyFrom 0 83 [(0, .ref a0), (1, .ref a1)] [] g53 (am_rv r)) h fun g53 h => ?_
  refine ev_aload_n 0 dX2_copyFrom_83 rfl ?_
  refine ev_aload_n 1 dX2_copyFrom_84 rfl ?_
  obtain ⟨c54, h⟩ := am_gd_elim h
  refine ev_gf (v := .int (am_I g53 a1 6)) dX2_copyFrom_85 (fun _ => am_sh c54) 6 (by decide) (by decide) kF_X2_37 (fun _ => rfl) ?_
  obtain ⟨c55, h⟩ := am_gd_elim h
  refine ev_pfi dX2_copyFrom_88 (fun _ => am_sh c55) 6 (by decide) (by decide) kF_X2_37 rfl rfl rfl (fun _ => rfl) ?_
  refine am_let_elim (P := fun g56 => am_Ev zc MX2_copyFrom 0 91 [(0, .ref a0), (1, .ref a1)] [] g56 (am_rv r)) h fun g56 h => ?_
  refine ev_aload_n 0 dX2_copyFrom_91 rfl ?_
  refine ev_aload_n 1 dX2_copyFrom_92 rfl ?_
  obtain ⟨c57, h⟩ := am_gd_elim h
  refine ev_gf (v := .int (am_I g56 a1 7)) dX2_copyFrom_93 (fun _ => am_sh c57) 7 (by decide) (by decide) kF_X2_40 (fun _ => rfl) ?_
  obtain ⟨c58, h⟩ := am_gd_elim h
  refine ev_pfi dX2_copyFrom_96 (fun _ => am_sh c58) 7 (by decide) (by decide) kF_X2_40 rfl rfl rfl (fun _ => rfl) ?_
  refine am_let_elim (P := fun g59 => am_Ev zc MX2_copyFrom 0 99 [(0, .ref a0), (1, .ref a1)] [] g59 (am_rv r)) h fun g59 h => ?_
  cases h
  exact ev_ret dX2_copyFrom_99 rfl
theorem tX2_copyFrom {a0 : Nat} {a1 : Nat} {g : am_G} {r : Unit × am_G} (h : fX2_copyFrom a0 a1 g = some r) : am_Mt zc MX2_copyFrom 0 [.ref a0, .ref a1] g (am_rv r) := am_Mt.of rfl (Nat.le_of_ble_eq_true rfl) (eX2_copyFrom _ _ _ _ h)
def fX2_press (a0 : Nat) (a1 : Int32) (a2 : Int32) (a3 : Int32) (g : am_G) : Option (Unit × am_G) :=
  am_gd (decide (am_S g a0 = (2, 8))) <|
  am_oc (am_P g a0 1) (fun p2 =>
  am_gd (decide ((am_S g p2).1 = 20)) <|
  am_gd (am_in a1 ((am_S g p2).2)) <|
  am_gd (decide ((am_S g p2).1 = 20)) <|
  am_gd (am_in a1 ((am_S g p2).2)) <|
  am_let (am_si g p2 a1.toNatClampNeg ((am_I g p2 a1.toNatClampNeg) + a3)) fun g8 =>
  am_gd (decide (am_S g8 a0 = (2, 8))) <|
  am_oc (am_P g8 a0 2) (fun p10 =>
  am_gd (decide ((am_S g8 p10).1 = 20)) <|
  am_gd (am_in ((a1 * (6 : Int32)) + a2) ((am_S g8 p10).2)) <|
  am_gd (decide ((am_S g8 p10).1 = 20)) <|
  am_gd (am_in ((a1 * (6 : Int32)) + a2) ((am_S g8 p10).2)) <|
  am_let (am_si g8 p10 ((a1 * (6 : Int32)) + a2).toNatClampNeg ((am_I g8 p10 ((a1 * (6 : Int32)) + a2).toNatClampNeg) + a3)) fun g16 =>
  some ((), g16)) none) none
set_option maxRecDepth 100000 in
set_option maxHeartbeats 4000000 in
theorem eX2_press (a0 : Nat) (a1 : Int32) (a2 : Int32) (a3 : Int32) (g : am_G) (r : Unit × am_G) (h : fX2_press a0 a1 a2 a3 g = some r) : am_Ev zc MX2_press 0 0 [(0, .ref a0), (1, .int a1), (2, .int a2), (3, .int a3)] [] g (am_rv r) := by
  unfold fX2_press at h
  refine ev_aload_n 0 dX2_press_0 rfl ?_
  obtain ⟨c1, h⟩ := am_gd_elim h
  refine am_oc_elim h (fun p2 e3 h => ?_) (fun _ h => nomatch h)
  refine ev_gf (v := .ref p2) dX2_press_1 (fun _ => am_sh c1) 1 (by decide) (by decide) kF_X2_15 (fun _ => congrArg va_rf e3) ?_
  refine ev_iload_n 1 dX2_press_4 rfl ?_
  refine ev_dup2 dX2_press_5 rfl rfl ?_
  obtain ⟨c4, h⟩ := am_gd_elim h
  obtain ⟨c5, h⟩ := am_gd_elim h
  refine ev_iald dX2_press_6 (fun _ => am_shk c4) (am_in_vp c5) ?_
  refine ev_iload_n 3 dX2_press_7 rfl ?_
  refine ev_iadd dX2_press_8 ?_
  obtain ⟨c6, h⟩ := am_gd_elim h
  obtain ⟨c7, h⟩ := am_gd_elim h
  refine ev_iast dX2_press_9 (fun _ => am_shk c6) (am_in_vp c7) ?_
  refine am_let_elim (P := fun g8 => am_Ev zc MX2_press 0 10 [(0, .ref a0), (1, .int a1), (2, .int a2), (3, .int a3)] [] g8 (am_rv r)) h fun g8 h => ?_
  refine ev_aload_n 0 dX2_press_10 rfl ?_
  obtain ⟨c9, h⟩ := am_gd_elim h
  refine am_oc_elim h (fun p10 e11 h => ?_) (fun _ h => nomatch h)
  refine ev_gf (v := .ref p10) dX2_press_11 (fun _ => am_sh c9) 2 (by decide) (by decide) kF_X2_18 (fun _ => congrArg va_rf e11) ?_
  refine ev_iload_n 1 dX2_press_14 rfl ?_
  refine ev_bipush dX2_press_15 rfl ?_
  refine ev_imul dX2_press_17 ?_
  refine ev_iload_n 2 dX2_press_18 rfl ?_
  refine ev_iadd dX2_press_19 ?_
  refine ev_dup2 dX2_press_20 rfl rfl ?_
  obtain ⟨c12, h⟩ := am_gd_elim h
  obtain ⟨c13, h⟩ := am_gd_elim h
  refine ev_iald dX2_press_21 (fun _ => am_shk c12) (am_in_vp c13) ?_
  refine ev_iload_n 3 dX2_press_22 rfl ?_
  refine ev_iadd dX2_press_23 ?_
  obtain ⟨c14, h⟩ := am_gd_elim h
  obtain ⟨c15, h⟩ := am_gd_elim h
  refine ev_iast dX2_press_24 (fun _ => am_shk c14) (am_in_vp c15) ?_
  refine am_let_elim (P := fun g16 => am_Ev zc MX2_press 0 25 [(0, .ref a0), (1, .int a1), (2, .int a2), (3, .int a3)] [] g16 (am_rv r)) h fun g16 h => ?_
  cases h
  exact ev_ret dX2_press_25 rfl
theorem tX2_press {a0 : Nat} {a1 : Int32} {a2 : Int32} {a3 : Int32} {g : am_G} {r : Unit × am_G} (h : fX2_press a0 a1 a2 a3 g = some r) : am_Mt zc MX2_press 0 [.ref a0, .int a1, .int a2, .int a3] g (am_rv r) := am_Mt.of rfl (Nat.le_of_ble_eq_true rfl) (eX2_press _ _ _ _ _ _ h)
def fX2_ease (a0 : Nat) (g : am_G) : Option (Unit × am_G) :=
  am_gd (decide (am_S g a0 = (2, 8))) <|
  am_oc (am_P g a0 1) (fun p2 =>
  am_bd (fJ7_fill_53178 zc_n p2 (0 : Int32) g) fun u4 g5 =>
  am_gd (decide (am_S g5 a0 = (2, 8))) <|
  am_oc (am_P g5 a0 2) (fun p8 =>
  am_bd (fJ7_fill_53178 zc_n p8 (0 : Int32) g5) fun u10 g11 =>
  some ((), g11)) none) none
set_option maxRecDepth 100000 in
set_option maxHeartbeats 4000000 in
theorem eX2_ease (a0 : Nat) (g : am_G) (r : Unit × am_G) (h : fX2_ease a0 g = some r) : am_Ev zc MX2_ease 1 0 [(0, .ref a0)] [] g (am_rv r) := by
  unfold fX2_ease at h
  refine ev_aload_n 0 dX2_ease_0 rfl ?_
  obtain ⟨c1, h⟩ := am_gd_elim h
  refine am_oc_elim h (fun p2 e3 h => ?_) (fun _ h => nomatch h)
  refine ev_gf (v := .ref p2) dX2_ease_1 (fun _ => am_sh c1) 1 (by decide) (by decide) kF_X2_15 (fun _ => congrArg va_rf e3) ?_
  refine ev_iconst dX2_ease_4 rfl ?_
  obtain ⟨u4, g5, e6, h⟩ := am_bd_elim h
  refine ev_callSv [.ref p2, .int (0 : Int32)] [] dX2_ease_5 (tJ7_fill_53178 (fun _ h9 => zc_fresh h9) zc_free e6) (by decide) mo_J7_fill_53178 kM_X2_43 ks_J7_fill_53178 (Nat.le_of_ble_eq_true rfl) ?_
  refine ev_aload_n 0 dX2_ease_8 rfl ?_
  obtain ⟨c7, h⟩ := am_gd_elim h
  refine am_oc_elim h (fun p8 e9 h => ?_) (fun _ h => nomatch h)
  refine ev_gf (v := .ref p8) dX2_ease_9 (fun _ => am_sh c7) 2 (by decide) (by decide) kF_X2_18 (fun _ => congrArg va_rf e9) ?_
  refine ev_iconst dX2_ease_12 rfl ?_
  obtain ⟨u10, g11, e12, h⟩ := am_bd_elim h
  refine ev_callSv [.ref p8, .int (0 : Int32)] [] dX2_ease_13 (tJ7_fill_53178 (fun _ h9 => zc_fresh h9) zc_free e12) (by decide) mo_J7_fill_53178 kM_X2_43 ks_J7_fill_53178 (Nat.le_of_ble_eq_true rfl) ?_
  cases h
  exact ev_ret dX2_ease_16 rfl
theorem tX2_ease {a0 : Nat} {g : am_G} {r : Unit × am_G} (h : fX2_ease a0 g = some r) : am_Mt zc MX2_ease 1 [.ref a0] g (am_rv r) := am_Mt.of rfl (Nat.le_of_ble_eq_true rfl) (eX2_ease _ _ _ h)
def fX2_slideOne_L115 (a0 : Nat) (a1 : Int32) : Nat → Int32 → am_G → Option (Unit × am_G)
  | 0, _, _ => none
  | n + 1, x30, g31 =>
    if ((a1 * (6 : Int32)) + (6 : Int32)) ≤ x30 then (
      some ((), g31))
    else (
      am_gd (decide (am_S g31 a0 = (2, 8))) <|
      am_oc (am_P g31 a0 3) (fun p34 =>
      am_gd (decide (am_S g31 a0 = (2, 8))) <|
      am_oc (am_P g31 a0 2) (fun p37 =>
      am_gd (decide ((am_S g31 p37).1 = 20)) <|
      am_gd (am_in x30 ((am_S g31 p37).2)) <|
      am_gd (decide ((am_S g31 p34).1 = 20)) <|
      am_gd (am_in x30 ((am_S g31 p34).2)) <|
      am_let (am_si g31 p34 x30.toNatClampNeg (am_I g31 p37 x30.toNatClampNeg)) fun g43 =>
      am_gd (decide (am_S g43 a0 = (2, 8))) <|
      am_oc (am_P g43 a0 2) (fun p45 =>
      am_gd (decide ((am_S g43 p45).1 = 20)) <|
      am_gd (am_in x30 ((am_S g43 p45).2)) <|
      am_let (am_si g43 p45 x30.toNatClampNeg (0 : Int32)) fun g49 =>
      am_let (x30 + (1 : Int32)) fun x50 =>
      fX2_slideOne_L115 a0 a1 n x50 g49) none) none) none)
def fX2_slideOne (a0 : Nat) (a1 : Int32) (g : am_G) : Option (Unit × am_G) :=
  am_gd (am_in a1 6) <|
  am_let (am_I g 9 a1.toNatClampNeg) fun x2 =>
  am_bd (fX11_isSlope x2 g) fun v3 g4 =>
  am_jn (fun  (g7 : am_G) =>
    am_gd (decide (am_S g7 a0 = (2, 8))) <|
    am_oc (am_P g7 a0 0) (fun p10 =>
    am_gd (decide ((am_S g7 p10).1 = 20)) <|
    am_gd (am_in a1 ((am_S g7 p10).2)) <|
    am_let (am_si g7 p10 a1.toNatClampNeg (0 : Int32)) fun g14 =>
    am_gd (decide (am_S g14 a0 = (2, 8))) <|
    am_oc (am_P g14 a0 1) (fun p16 =>
    am_gd (decide ((am_S g14 p16).1 = 20)) <|
    am_gd (am_in a1 ((am_S g14 p16).2)) <|
    am_let (am_si g14 p16 a1.toNatClampNeg (0 : Int32)) fun g20 =>
    am_gd (decide (am_S g20 a0 = (2, 8))) <|
    am_oc (am_P g20 a0 4) (fun p22 =>
    am_gd (decide ((am_S g20 p22).1 = 20)) <|
    am_gd (am_in a1 ((am_S g20 p22).2)) <|
    am_gd (decide ((am_S g20 p22).1 = 20)) <|
    am_gd (am_in a1 ((am_S g20 p22).2)) <|
    am_let (am_si g20 p22 a1.toNatClampNeg ((am_I g20 p22 a1.toNatClampNeg) + (1 : Int32))) fun g28 =>
    am_let (a1 * (6 : Int32)) fun x29 =>
    fX2_slideOne_L115 a0 a1 am_fu x29 g28) none) none) none) fun j8 =>
  if v3 = 0 then (
    am_gd (am_in a1 6) <|
    if (am_I g4 10 a1.toNatClampNeg) = (1 : Int32) then (
      am_gd (decide (am_S g4 a0 = (2, 8))) <|
      am_gd (decide (am_S g4 a0 = (2, 8))) <|
      am_oc (am_P g4 a0 0) (fun p63 =>
      am_gd (decide ((am_S g4 p63).1 = 20)) <|
      am_gd (am_in a1 ((am_S g4 p63).2)) <|
      am_gd (decide (am_S g4 a0 = (2, 8))) <|
      am_let (am_si g4 a0 7 ((am_I g4 a0 7) + (am_I g4 p63 a1.toNatClampNeg))) fun g68 =>
      j8 g68) none)
    else (
      am_gd (decide (am_S g4 a0 = (2, 8))) <|
      am_gd (decide (am_S g4 a0 = (2, 8))) <|
      am_oc (am_P g4 a0 0) (fun p55 =>
      am_gd (decide ((am_S g4 p55).1 = 20)) <|
      am_gd (am_in a1 ((am_S g4 p55).2)) <|
      am_gd (decide (am_S g4 a0 = (2, 8))) <|
      am_let (am_si g4 a0 6 ((am_I g4 a0 6) + (am_I g4 p55 a1.toNatClampNeg))) fun g60 =>
      j8 g60) none))
  else (
    am_gd (decide (am_S g4 a0 = (2, 8))) <|
    am_oc (am_P g4 a0 0) (fun p70 =>
    am_gd (decide (am_S g4 a0 = (2, 8))) <|
    am_oc (am_P g4 a0 0) (fun p73 =>
    am_gd (decide ((am_S g4 p73).1 = 20)) <|
    am_gd (am_in x2 ((am_S g4 p73).2)) <|
    am_gd (decide (am_S g4 a0 = (2, 8))) <|
    am_oc (am_P g4 a0 0) (fun p78 =>
    am_gd (decide ((am_S g4 p78).1 = 20)) <|
    am_gd (am_in a1 ((am_S g4 p78).2)) <|
    am_gd (decide ((am_S g4 p70).1 = 20)) <|
    am_gd (am_in x2 ((am_S g4 p70).2)) <|
    am_let (am_si g4 p70 x2.toNatClampNeg (am_min (9999 : Int32) ((am_I g4 p73 x2.toNatClampNeg) + (am_I g4 p78 a1.toNatClampNeg)))) fun g84 =>
    j8 g84) none) none) none)
set_option maxRecDepth 100000 in
set_option maxHeartbeats 4000000 in
theorem tfX2_slideOne_L115  (a0 : Nat) (a1 : Int32) : ∀ (n : Nat) (x30 : Int32) (g31 : am_G) (r : Unit × am_G), fX2_slideOne_L115 a0 a1 n x30 g31 = some r → am_Ev zc MX2_slideOne 2 115 [(0, .ref a0), (1, .int a1), (4, .int x30)] [] g31 (am_rv r) := by
  intro n
  induction n with
  | zero => intro x30 g31 r h; exact nomatch (show (none : Option (Unit × am_G)) = some r from h)
  | succ n ih =>
    intro x30 g31 r h
    rw [fX2_slideOne_L115] at h
    refine ev_iload 2 dX2_slideOne_115 rfl ?_
    refine ev_iload_n 1 dX2_slideOne_117 rfl ?_
    refine ev_bipush dX2_slideOne_118 rfl ?_
    refine ev_imul dX2_slideOne_120 ?_
    refine ev_bipush dX2_slideOne_121 rfl ?_
    refine ev_iadd dX2_slideOne_123 ?_
    refine ev_icmp_ge 155 dX2_slideOne_124 (by decide) (fun c32 => ?_) (fun c32 => ?_)
    · replace h := am_ifp c32 h
      cases h
      exact ev_ret dX2_slideOne_155 rfl
    · replace h := am_ifn c32 h
      refine ev_aload_n 0 dX2_slideOne_127 rfl ?_
      obtain ⟨c33, h⟩ := am_gd_elim h
      refine am_oc_elim h (fun p34 e35 h => ?_) (fun _ h => nomatch h)
      refine ev_gf (v := .ref p34) dX2_slideOne_128 (fun _ => am_sh c33) 3 (by decide) (by decide) kF_X2_21 (fun _ => congrArg va_rf e35) ?_
      refine ev_iload 2 dX2_slideOne_131 rfl ?_
      refine ev_aload_n 0 dX2_slideOne_133 rfl ?_
      obtain ⟨c36, h⟩ := am_gd_elim h
      refine am_oc_elim h (fun p37 e38 h => ?_) (fun _ h => nomatch h)
      refine ev_gf (v := .ref p37) dX2_slideOne_134 (fun _ => am_sh c36) 2 (by decide) (by decide) kF_X2_18 (fun _ => congrArg va_rf e38) ?_
      refine ev_iload 2 dX2_slideOne_137 rfl ?_
      obtain ⟨c39, h⟩ := am_gd_elim h
      obtain ⟨c40, h⟩ := am_gd_elim h
      refine ev_iald dX2_slideOne_139 (fun _ => am_shk c39) (am_in_vp c40) ?_
      obtain ⟨c41, h⟩ := am_gd_elim h
      obtain ⟨c42, h⟩ := am_gd_elim h
      refine ev_iast dX2_slideOne_140 (fun _ => am_shk c41) (am_in_vp c42) ?_
      refine am_let_elim (P := fun g43 => am_Ev zc MX2_slideOne 2 141 [(0, .ref a0), (1, .int a1), (4, .int x30)] [] g43 (am_rv r)) h fun g43 h => ?_
      refine ev_aload_n 0 dX2_slideOne_141 rfl ?_
      obtain ⟨c44, h⟩ := am_gd_elim h
      refine am_oc_elim h (fun p45 e46 h => ?_) (fun _ h => nomatch h)
      refine ev_gf (v := .ref p45) dX2_slideOne_142 (fun _ => am_sh c44) 2 (by decide) (by decide) kF_X2_18 (fun _ => congrArg va_rf e46) ?_
      refine ev_iload 2 dX2_slideOne_145 rfl ?_
      refine ev_iconst dX2_slideOne_147 rfl ?_
      obtain ⟨c47, h⟩ := am_gd_elim h
      obtain ⟨c48, h⟩ := am_gd_elim h
      refine ev_iast dX2_slideOne_148 (fun _ => am_shk c47) (am_in_vp c48) ?_
      refine am_let_elim (P := fun g49 => am_Ev zc MX2_slideOne 2 149 [(0, .ref a0), (1, .int a1), (4, .int x30)] [] g49 (am_rv r)) h fun g49 h => ?_
      obtain ⟨x50, ex50, h⟩ := am_let_ex h
      refine ev_iinc (ls' := [(4, .int x50), (0, .ref a0), (1, .int a1)]) 2 dX2_slideOne_149 rfl ex50 (by decide) rfl ?_
      refine ev_goto 115 dX2_slideOne_152 (by decide) ?_
      refine ev_sub [1, 2, 0] rfl ?_
      exact ih _ _ _ h
set_option maxRecDepth 100000 in
set_option maxHeartbeats 4000000 in
theorem eX2_slideOne (a0 : Nat) (a1 : Int32) (g : am_G) (r : Unit × am_G) (h : fX2_slideOne a0 a1 g = some r) : am_Ev zc MX2_slideOne 2 0 [(0, .ref a0), (1, .int a1), (2, .ref 1)] [] g (am_rv r) := by
  unfold fX2_slideOne at h
  refine ev_aload_n 2 dX2_slideOne_0 rfl ?_
  refine ev_gf (v := .ref 9) dX2_slideOne_1 (fun h9 => (h9.2.1 1 _ rfl).2) 2 (by decide) (by decide) kF_X2_58 (fun h9 => congrArg va_rf (h9.2.2 1 2 9 rfl)) ?_
  refine ev_iload_n 1 dX2_slideOne_4 rfl ?_
  obtain ⟨c1, h⟩ := am_gd_elim h
  refine ev_iald dX2_slideOne_5 (fun h9 => (h9.2.1 9 _ rfl).2) (am_in_vp c1) ?_
  refine am_let_elim (P := fun x2 => am_Ev zc MX2_slideOne 2 6 [(0, .ref a0), (1, .int a1), (2, .ref 1)] [.int x2] g (am_rv r)) h fun x2 h => ?_
  refine ev_istore_n (ls' := [(3, .int x2), (0, .ref a0), (1, .int a1), (2, .ref 1)]) dX2_slideOne_6 rfl (by decide) rfl ?_
  refine ev_iload_n 0 dX2_slideOne_7 rfl ?_
  obtain ⟨v3, g4, e5, h⟩ := am_bd_elim h
  refine ev_callSNi (v := v3) [.int x2] [] dX2_slideOne_8 (tX11_isSlope e5) (by decide) mo_X11_isSlope kN_X2_61 ks_X11_isSlope (Nat.le_of_ble_eq_true rfl) ?_
  refine am_jn_elim (fun q9 => ∀  (g7 : am_G) (r : Unit × am_G), q9  g7 = some r → am_Ev zc MX2_slideOne 2 85 [(0, .ref a0), (1, .int a1)] [] g7 (am_rv r)) h ?_ (fun j8 hj8 h => ?_)
  · intro  g7 r h
    try dsimp only at h
    refine ev_aload_n 0 dX2_slideOne_85 rfl ?_
    obtain ⟨c9, h⟩ := am_gd_elim h
    refine am_oc_elim h (fun p10 e11 h => ?_) (fun _ h => nomatch h)
    refine ev_gf (v := .ref p10) dX2_slideOne_86 (fun _ => am_sh c9) 0 (by decide) (by decide) kF_X2_9 (fun _ => congrArg va_rf e11) ?_
    refine ev_iload_n 1 dX2_slideOne_89 rfl ?_
    refine ev_iconst dX2_slideOne_90 rfl ?_
    obtain ⟨c12, h⟩ := am_gd_elim h
    obtain ⟨c13, h⟩ := am_gd_elim h
    refine ev_iast dX2_slideOne_91 (fun _ => am_shk c12) (am_in_vp c13) ?_
    refine am_let_elim (P := fun g14 => am_Ev zc MX2_slideOne 2 92 [(0, .ref a0), (1, .int a1)] [] g14 (am_rv r)) h fun g14 h => ?_
    refine ev_aload_n 0 dX2_slideOne_92 rfl ?_
    obtain ⟨c15, h⟩ := am_gd_elim h
    refine am_oc_elim h (fun p16 e17 h => ?_) (fun _ h => nomatch h)
    refine ev_gf (v := .ref p16) dX2_slideOne_93 (fun _ => am_sh c15) 1 (by decide) (by decide) kF_X2_15 (fun _ => congrArg va_rf e17) ?_
    refine ev_iload_n 1 dX2_slideOne_96 rfl ?_
    refine ev_iconst dX2_slideOne_97 rfl ?_
    obtain ⟨c18, h⟩ := am_gd_elim h
    obtain ⟨c19, h⟩ := am_gd_elim h
    refine ev_iast dX2_slideOne_98 (fun _ => am_shk c18) (am_in_vp c19) ?_
    refine am_let_elim (P := fun g20 => am_Ev zc MX2_slideOne 2 99 [(0, .ref a0), (1, .int a1)] [] g20 (am_rv r)) h fun g20 h => ?_
    refine ev_aload_n 0 dX2_slideOne_99 rfl ?_
    obtain ⟨c21, h⟩ := am_gd_elim h
    refine am_oc_elim h (fun p22 e23 h => ?_) (fun _ h => nomatch h)
    refine ev_gf (v := .ref p22) dX2_slideOne_100 (fun _ => am_sh c21) 4 (by decide) (by decide) kF_X2_24 (fun _ => congrArg va_rf e23) ?_
    refine ev_iload_n 1 dX2_slideOne_103 rfl ?_
    refine ev_dup2 dX2_slideOne_104 rfl rfl ?_
    obtain ⟨c24, h⟩ := am_gd_elim h
    obtain ⟨c25, h⟩ := am_gd_elim h
    refine ev_iald dX2_slideOne_105 (fun _ => am_shk c24) (am_in_vp c25) ?_
    refine ev_iconst dX2_slideOne_106 rfl ?_
    refine ev_iadd dX2_slideOne_107 ?_
    obtain ⟨c26, h⟩ := am_gd_elim h
    obtain ⟨c27, h⟩ := am_gd_elim h
    refine ev_iast dX2_slideOne_108 (fun _ => am_shk c26) (am_in_vp c27) ?_
    refine am_let_elim (P := fun g28 => am_Ev zc MX2_slideOne 2 109 [(0, .ref a0), (1, .int a1)] [] g28 (am_rv r)) h fun g28 h => ?_
    refine ev_iload_n 1 dX2_slideOne_109 rfl ?_
    refine ev_bipush dX2_slideOne_110 rfl ?_
    refine ev_imul dX2_slideOne_112 ?_
    refine am_let_elim (P := fun x29 => am_Ev zc MX2_slideOne 2 113 [(0, .ref a0), (1, .int a1)] [.int x29] g28 (am_rv r)) h fun x29 h => ?_
    refine ev_istore (ls' := [(4, .int x29), (0, .ref a0), (1, .int a1)]) dX2_slideOne_113 (by decide) rfl ?_
    refine ev_sub [1, 2, 0] rfl ?_
    exact tfX2_slideOne_L115 a0 a1 _ _ _ _ h
  · refine ev_if_eq 42 dX2_slideOne_11 (by decide) (fun c6 => ?_) (fun c6 => ?_)
    · replace h := am_ifp c6 h
      refine ev_aload_n 3 dX2_slideOne_42 rfl ?_
      refine ev_gf (v := .ref 10) dX2_slideOne_43 (fun h9 => (h9.2.1 1 _ rfl).2) 3 (by decide) (by decide) kF_X2_71 (fun h9 => congrArg va_rf (h9.2.2 1 3 10 rfl)) ?_
      refine ev_iload_n 2 dX2_slideOne_46 rfl ?_
      obtain ⟨c51, h⟩ := am_gd_elim h
      refine ev_iald dX2_slideOne_47 (fun h9 => (h9.2.1 10 _ rfl).2) (am_in_vp c51) ?_
      refine ev_iconst dX2_slideOne_48 rfl ?_
      refine ev_icmp_ne 70 dX2_slideOne_49 (by decide) (fun c52 => ?_) (fun c52 => ?_)
      · replace h := am_ifn c52 h
        refine ev_aload_n 1 dX2_slideOne_70 rfl ?_
        refine ev_dup dX2_slideOne_71 rfl ?_
        obtain ⟨c53, h⟩ := am_gd_elim h
        refine ev_gf (v := .int (am_I g4 a0 6)) dX2_slideOne_72 (fun _ => am_sh c53) 6 (by decide) (by decide) kF_X2_37 (fun _ => rfl) ?_
        refine ev_aload_n 1 dX2_slideOne_75 rfl ?_
        obtain ⟨c54, h⟩ := am_gd_elim h
        refine am_oc_elim h (fun p55 e56 h => ?_) (fun _ h => nomatch h)
        refine ev_gf (v := .ref p55) dX2_slideOne_76 (fun _ => am_sh c54) 0 (by decide) (by decide) kF_X2_9 (fun _ => congrArg va_rf e56) ?_
        refine ev_iload_n 2 dX2_slideOne_79 rfl ?_
        obtain ⟨c57, h⟩ := am_gd_elim h
        obtain ⟨c58, h⟩ := am_gd_elim h
        refine ev_iald dX2_slideOne_80 (fun _ => am_shk c57) (am_in_vp c58) ?_
        refine ev_iadd dX2_slideOne_81 ?_
        obtain ⟨c59, h⟩ := am_gd_elim h
        refine ev_pfi dX2_slideOne_82 (fun _ => am_sh c59) 6 (by decide) (by decide) kF_X2_37 rfl rfl rfl (fun _ => rfl) ?_
        refine am_let_elim (P := fun g60 => am_Ev zc MX2_slideOne 2 85 [(3, .int x2), (0, .ref a0), (1, .int a1), (2, .ref 1)] [] g60 (am_rv r)) h fun g60 h => ?_
        refine ev_sub [1, 2] rfl ?_
        exact hj8  _ _ h
      · replace h := am_ifp c52 h
        refine ev_aload_n 1 dX2_slideOne_52 rfl ?_
        refine ev_dup dX2_slideOne_53 rfl ?_
        obtain ⟨c61, h⟩ := am_gd_elim h
        refine ev_gf (v := .int (am_I g4 a0 7)) dX2_slideOne_54 (fun _ => am_sh c61) 7 (by decide) (by decide) kF_X2_40 (fun _ => rfl) ?_
        refine ev_aload_n 1 dX2_slideOne_57 rfl ?_
        obtain ⟨c62, h⟩ := am_gd_elim h
        refine am_oc_elim h (fun p63 e64 h => ?_) (fun _ h => nomatch h)
        refine ev_gf (v := .ref p63) dX2_slideOne_58 (fun _ => am_sh c62) 0 (by decide) (by decide) kF_X2_9 (fun _ => congrArg va_rf e64) ?_
        refine ev_iload_n 2 dX2_slideOne_61 rfl ?_
        obtain ⟨c65, h⟩ := am_gd_elim h
        obtain ⟨c66, h⟩ := am_gd_elim h
        refine ev_iald dX2_slideOne_62 (fun _ => am_shk c65) (am_in_vp c66) ?_
        refine ev_iadd dX2_slideOne_63 ?_
        obtain ⟨c67, h⟩ := am_gd_elim h
        refine ev_pfi dX2_slideOne_64 (fun _ => am_sh c67) 7 (by decide) (by decide) kF_X2_40 rfl rfl rfl (fun _ => rfl) ?_
        refine am_let_elim (P := fun g68 => am_Ev zc MX2_slideOne 2 67 [(3, .int x2), (0, .ref a0), (1, .int a1), (2, .ref 1)] [] g68 (am_rv r)) h fun g68 h => ?_
        refine ev_goto 85 dX2_slideOne_67 (by decide) ?_
        refine ev_sub [1, 2] rfl ?_
        exact hj8  _ _ h
    · replace h := am_ifn c6 h
      refine ev_aload_n 1 dX2_slideOne_14 rfl ?_
      obtain ⟨c69, h⟩ := am_gd_elim h
      refine am_oc_elim h (fun p70 e71 h => ?_) (fun _ h => nomatch h)
      refine ev_gf (v := .ref p70) dX2_slideOne_15 (fun _ => am_sh c69) 0 (by decide) (by decide) kF_X2_9 (fun _ => congrArg va_rf e71) ?_
      refine ev_iload_n 0 dX2_slideOne_18 rfl ?_
      refine ev_sipush dX2_slideOne_19 rfl ?_
      refine ev_aload_n 1 dX2_slideOne_22 rfl ?_
      obtain ⟨c72, h⟩ := am_gd_elim h
      refine am_oc_elim h (fun p73 e74 h => ?_) (fun _ h => nomatch h)
      refine ev_gf (v := .ref p73) dX2_slideOne_23 (fun _ => am_sh c72) 0 (by decide) (by decide) kF_X2_9 (fun _ => congrArg va_rf e74) ?_
      refine ev_iload_n 0 dX2_slideOne_26 rfl ?_
      obtain ⟨c75, h⟩ := am_gd_elim h
      obtain ⟨c76, h⟩ := am_gd_elim h
      refine ev_iald dX2_slideOne_27 (fun _ => am_shk c75) (am_in_vp c76) ?_
      refine ev_aload_n 1 dX2_slideOne_28 rfl ?_
      obtain ⟨c77, h⟩ := am_gd_elim h
      refine am_oc_elim h (fun p78 e79 h => ?_) (fun _ h => nomatch h)
      refine ev_gf (v := .ref p78) dX2_slideOne_29 (fun _ => am_sh c77) 0 (by decide) (by decide) kF_X2_9 (fun _ => congrArg va_rf e79) ?_
      refine ev_iload_n 2 dX2_slideOne_32 rfl ?_
      obtain ⟨c80, h⟩ := am_gd_elim h
      obtain ⟨c81, h⟩ := am_gd_elim h
      refine ev_iald dX2_slideOne_33 (fun _ => am_shk c80) (am_in_vp c81) ?_
      refine ev_iadd dX2_slideOne_34 ?_
      refine ev_min dX2_slideOne_35 kM_X2_65 k_minS kS_Math k_minC (Nat.le_of_ble_eq_true rfl) ?_
      obtain ⟨c82, h⟩ := am_gd_elim h
      obtain ⟨c83, h⟩ := am_gd_elim h
      refine ev_iast dX2_slideOne_38 (fun _ => am_shk c82) (am_in_vp c83) ?_
      refine am_let_elim (P := fun g84 => am_Ev zc MX2_slideOne 2 39 [(3, .int x2), (0, .ref a0), (1, .int a1), (2, .ref 1)] [] g84 (am_rv r)) h fun g84 h => ?_
      refine ev_goto 85 dX2_slideOne_39 (by decide) ?_
      refine ev_sub [1, 2] rfl ?_
      exact hj8  _ _ h
theorem tX2_slideOne {a0 : Nat} {a1 : Int32} {g : am_G} {r : Unit × am_G} (h : fX2_slideOne a0 a1 g = some r) : am_Mt zc MX2_slideOne 2 [.ref a0, .int a1, .ref 1] g (am_rv r) := am_Mt.of rfl (Nat.le_of_ble_eq_true rfl) (eX2_slideOne _ _ _ _ h)
def fX2_slideAll_L4 (a0 : Nat) : Nat → Int32 → Int32 → am_G → Option (Int32 × am_G)
  | 0, _, _, _ => none
  | n + 1, x1, x2, g3 =>
    if (6 : Int32) ≤ x2 then (
      some (x1, g3))
    else (
      am_gd (decide (am_S g3 a0 = (2, 8))) <|
      am_oc (am_P g3 a0 0) (fun p6 =>
      am_gd (decide ((am_S g3 p6).1 = 20)) <|
      am_gd (am_in x2 ((am_S g3 p6).2)) <|
      am_jn (fun (x11 : Int32) (g12 : am_G) =>
        am_let (x2 + (1 : Int32)) fun x14 =>
        fX2_slideAll_L4 a0 n x11 x14 g12) fun j13 =>
      if (am_I g3 p6 x2.toNatClampNeg) ≤ 0 then (
        j13 x1 g3)
      else (
        am_gd (decide (am_S g3 a0 = (2, 8))) <|
        am_oc (am_P g3 a0 0) (fun p16 =>
        am_gd (decide ((am_S g3 p16).1 = 20)) <|
        am_gd (am_in x2 ((am_S g3 p16).2)) <|
        am_gd (decide (am_S g3 a0 = (2, 8))) <|
        am_oc (am_P g3 a0 1) (fun p21 =>
        am_gd (decide ((am_S g3 p21).1 = 20)) <|
        am_gd (am_in x2 ((am_S g3 p21).2)) <|
        am_gd (am_in x2 6) <|
        if ((am_I g3 p16 x2.toNatClampNeg) + (am_I g3 p21 x2.toNatClampNeg)) ≤ (am_I g3 8 x2.toNatClampNeg) then (
          j13 x1 g3)
        else (
          am_gd (decide (am_S g3 a0 = (2, 8))) <|
          am_bd (fX2_slideOne a0 x2 g3) fun u27 g28 =>
          am_let (x1 + (1 : Int32)) fun x31 =>
          j13 x31 g28)) none) none)) none)
def fX2_slideAll (a0 : Nat) (g : am_G) : Option (Int32 × am_G) :=
  fX2_slideAll_L4 a0 am_fu (0 : Int32) (0 : Int32) g
set_option maxRecDepth 100000 in
set_option maxHeartbeats 4000000 in
theorem tfX2_slideAll_L4  (a0 : Nat) : ∀ (n : Nat) (x1 : Int32) (x2 : Int32) (g3 : am_G) (r : Int32 × am_G), fX2_slideAll_L4 a0 n x1 x2 g3 = some r → am_Ev zc MX2_slideAll 3 4 [(0, .ref a0), (1, .ref 1), (2, .int x1), (3, .int x2)] [] g3 (am_ri r) := by
  intro n
  induction n with
  | zero => intro x1 x2 g3 r h; exact nomatch (show (none : Option (Int32 × am_G)) = some r from h)
  | succ n ih =>
    intro x1 x2 g3 r h
    rw [fX2_slideAll_L4] at h
    refine ev_iload_n 3 dX2_slideAll_4 rfl ?_
    refine ev_bipush dX2_slideAll_5 rfl ?_
    refine ev_icmp_ge 56 dX2_slideAll_7 (by decide) (fun c4 => ?_) (fun c4 => ?_)
    · replace h := am_ifp c4 h
      refine ev_iload_n 2 dX2_slideAll_56 rfl ?_
      cases h
      exact ev_iret dX2_slideAll_57 rfl
    · replace h := am_ifn c4 h
      refine ev_aload_n 0 dX2_slideAll_10 rfl ?_
      obtain ⟨c5, h⟩ := am_gd_elim h
      refine am_oc_elim h (fun p6 e7 h => ?_) (fun _ h => nomatch h)
      refine ev_gf (v := .ref p6) dX2_slideAll_11 (fun _ => am_sh c5) 0 (by decide) (by decide) kF_X2_9 (fun _ => congrArg va_rf e7) ?_
      refine ev_iload_n 3 dX2_slideAll_14 rfl ?_
      obtain ⟨c8, h⟩ := am_gd_elim h
      obtain ⟨c9, h⟩ := am_gd_elim h
      refine ev_iald dX2_slideAll_15 (fun _ => am_shk c8) (am_in_vp c9) ?_
      refine am_jn_elim (fun q9 => ∀ (x11 : Int32) (g12 : am_G) (r : Int32 × am_G), q9 x11 g12 = some r → am_Ev zc MX2_slideAll 3 50 [(0, .ref a0), (1, .ref 1), (2, .int x11), (3, .int x2)] [] g12 (am_ri r)) h ?_ (fun j13 hj13 h => ?_)
      · intro x11 g12 r h
        try dsimp only at h
        obtain ⟨x14, ex14, h⟩ := am_let_ex h
        refine ev_iinc (ls' := [(3, .int x14), (0, .ref a0), (1, .ref 1), (2, .int x11)]) 3 dX2_slideAll_50 rfl ex14 (by decide) rfl ?_
        refine ev_goto 4 dX2_slideAll_53 (by decide) ?_
        refine ev_sub [1, 2, 3, 0] rfl ?_
        exact ih _ _ _ _ h
      · refine ev_if_le 50 dX2_slideAll_16 (by decide) (fun c10 => ?_) (fun c10 => ?_)
        · replace h := am_ifp c10 h
          refine ev_sub [0, 1, 2, 3] rfl ?_
          exact hj13 _ _ _ h
        · replace h := am_ifn c10 h
          refine ev_aload_n 0 dX2_slideAll_19 rfl ?_
          obtain ⟨c15, h⟩ := am_gd_elim h
          refine am_oc_elim h (fun p16 e17 h => ?_) (fun _ h => nomatch h)
          refine ev_gf (v := .ref p16) dX2_slideAll_20 (fun _ => am_sh c15) 0 (by decide) (by decide) kF_X2_9 (fun _ => congrArg va_rf e17) ?_
          refine ev_iload_n 3 dX2_slideAll_23 rfl ?_
          obtain ⟨c18, h⟩ := am_gd_elim h
          obtain ⟨c19, h⟩ := am_gd_elim h
          refine ev_iald dX2_slideAll_24 (fun _ => am_shk c18) (am_in_vp c19) ?_
          refine ev_aload_n 0 dX2_slideAll_25 rfl ?_
          obtain ⟨c20, h⟩ := am_gd_elim h
          refine am_oc_elim h (fun p21 e22 h => ?_) (fun _ h => nomatch h)
          refine ev_gf (v := .ref p21) dX2_slideAll_26 (fun _ => am_sh c20) 1 (by decide) (by decide) kF_X2_15 (fun _ => congrArg va_rf e22) ?_
          refine ev_iload_n 3 dX2_slideAll_29 rfl ?_
          obtain ⟨c23, h⟩ := am_gd_elim h
          obtain ⟨c24, h⟩ := am_gd_elim h
          refine ev_iald dX2_slideAll_30 (fun _ => am_shk c23) (am_in_vp c24) ?_
          refine ev_iadd dX2_slideAll_31 ?_
          refine ev_aload_n 1 dX2_slideAll_32 rfl ?_
          refine ev_gf (v := .ref 8) dX2_slideAll_33 (fun h9 => (h9.2.1 1 _ rfl).2) 1 (by decide) (by decide) kF_X2_49 (fun h9 => congrArg va_rf (h9.2.2 1 1 8 rfl)) ?_
          refine ev_iload_n 3 dX2_slideAll_36 rfl ?_
          obtain ⟨c25, h⟩ := am_gd_elim h
          refine ev_iald dX2_slideAll_37 (fun h9 => (h9.2.1 8 _ rfl).2) (am_in_vp c25) ?_
          refine ev_icmp_le 50 dX2_slideAll_38 (by decide) (fun c26 => ?_) (fun c26 => ?_)
          · replace h := am_ifp c26 h
            refine ev_sub [0, 1, 2, 3] rfl ?_
            exact hj13 _ _ _ h
          · replace h := am_ifn c26 h
            refine ev_aload_n 0 dX2_slideAll_41 rfl ?_
            refine ev_iload_n 3 dX2_slideAll_42 rfl ?_
            refine ev_aload_n 1 dX2_slideAll_43 rfl ?_
            obtain ⟨c30, h⟩ := am_gd_elim h
            obtain ⟨u27, g28, e29, h⟩ := am_bd_elim h
            refine ev_callVv [.int x2, .ref 1] [] dX2_slideAll_44 (tX2_slideOne e29) (by decide) mo_X2_slideOne kM_X2_54 ki_X2_slideOne kv_X2_slideOne (fun _ => am_sh c30) (by decide) rfl (Nat.le_of_ble_eq_true rfl) ?_
            obtain ⟨x31, ex31, h⟩ := am_let_ex h
            refine ev_iinc (ls' := [(2, .int x31), (0, .ref a0), (1, .ref 1), (3, .int x2)]) 2 dX2_slideAll_47 rfl ex31 (by decide) rfl ?_
            refine ev_sub [1, 2, 0, 3] rfl ?_
            exact hj13 _ _ _ h
set_option maxRecDepth 100000 in
set_option maxHeartbeats 4000000 in
theorem eX2_slideAll (a0 : Nat) (g : am_G) (r : Int32 × am_G) (h : fX2_slideAll a0 g = some r) : am_Ev zc MX2_slideAll 3 0 [(0, .ref a0), (1, .ref 1)] [] g (am_ri r) := by
  unfold fX2_slideAll at h
  refine ev_iconst dX2_slideAll_0 rfl ?_
  refine ev_istore_n (ls' := [(2, .int (0 : Int32)), (0, .ref a0), (1, .ref 1)]) dX2_slideAll_1 rfl (by decide) rfl ?_
  refine ev_iconst dX2_slideAll_2 rfl ?_
  refine ev_istore_n (ls' := [(3, .int (0 : Int32)), (2, .int (0 : Int32)), (0, .ref a0), (1, .ref 1)]) dX2_slideAll_3 rfl (by decide) rfl ?_
  refine ev_sub [2, 3, 1, 0] rfl ?_
  exact tfX2_slideAll_L4 a0 _ _ _ _ _ h
theorem tX2_slideAll {a0 : Nat} {g : am_G} {r : Int32 × am_G} (h : fX2_slideAll a0 g = some r) : am_Mt zc MX2_slideAll 3 [.ref a0, .ref 1] g (am_ri r) := am_Mt.of rfl (Nat.le_of_ble_eq_true rfl) (eX2_slideAll _ _ _ h)
def fX3_init (fx : Nat) (a0 : Nat) (a1 : Nat) (a2 : Nat) (g : am_G) : Option (Unit × am_G) :=
  am_let (am_n g) fun p1 =>
  am_let (am_new g 22 16) fun g2 =>
  am_gd (decide (am_S g2 a0 = (3, 9))) <|
  am_gd (decide (fx ≤ a0)) <|
  am_let (am_sp g2 a0 2 (some p1)) fun g4 =>
  am_let (am_n g4) fun p6 =>
  am_let (am_new g4 20 96) fun g7 =>
  am_gd (decide (am_S g7 a0 = (3, 9))) <|
  am_gd (decide (fx ≤ a0)) <|
  am_let (am_sp g7 a0 3 (some p6)) fun g9 =>
  am_let (am_n g9) fun p11 =>
  am_let (am_new g9 20 36) fun g12 =>
  am_gd (decide (am_S g12 a0 = (3, 9))) <|
  am_gd (decide (fx ≤ a0)) <|
  am_let (am_sp g12 a0 4 (some p11)) fun g14 =>
  am_let (am_n g14) fun p16 =>
  am_let (am_new g14 20 5) fun g17 =>
  am_gd (decide (am_S g17 a0 = (3, 9))) <|
  am_gd (decide (fx ≤ a0)) <|
  am_let (am_sp g17 a0 5 (some p16)) fun g19 =>
  am_let (am_n g19) fun p21 =>
  am_let (am_new g19 20 5) fun g22 =>
  am_gd (decide (am_S g22 a0 = (3, 9))) <|
  am_gd (decide (fx ≤ a0)) <|
  am_let (am_sp g22 a0 6 (some p21)) fun g24 =>
  am_gd (decide (am_S g24 a0 = (3, 9))) <|
  am_gd (decide (fx ≤ a0)) <|
  am_let (am_sp g24 a0 0 (some a1)) fun g27 =>
  am_gd (decide (am_S g27 a0 = (3, 9))) <|
  am_gd (decide (fx ≤ a0)) <|
  am_let (am_sp g27 a0 1 (some a2)) fun g30 =>
  some ((), g30)
set_option maxRecDepth 100000 in
set_option maxHeartbeats 4000000 in
theorem eX3_init {Z : am_Z} {fx : Nat} (hF : ∀ g : am_G, am_ok Z g → ∀ k, Z.2 (am_n g) k = none) (hZ : ∀ a k, fx ≤ a → Z.2 a k = none) (a0 : Nat) (a1 : Nat) (a2 : Nat) (g : am_G) (r : Unit × am_G) (h : fX3_init fx a0 a1 a2 g = some r) : am_Ev Z MX3_init 0 0 [(0, .ref a0), (1, .ref a1), (2, .ref a2)] [] g (am_rv r) := by
  unfold fX3_init at h
  refine ev_aload_n 0 dX3_init_0 rfl ?_
  refine ev_objInit dX3_init_1 kM_X3_3 k_objI k_objC (Nat.le_of_ble_eq_true rfl) ?_
  refine ev_aload_n 0 dX3_init_4 rfl ?_
  refine ev_bipush dX3_init_5 rfl ?_
  refine ev_newa 22 16 dX3_init_7 (fun h9 => hF _ h9) (by decide) (by decide) kA_boolean (by decide) rfl (by decide) ?_
  refine am_let_elim (P := fun p1 => am_Ev Z MX3_init 0 9 [(0, .ref a0), (1, .ref a1), (2, .ref a2)] [.ref p1, .ref a0] (am_new g 22 16) (am_rv r)) h fun p1 h => ?_
  refine am_let_elim (P := fun g2 => am_Ev Z MX3_init 0 9 [(0, .ref a0), (1, .ref a1), (2, .ref a2)] [.ref p1, .ref a0] g2 (am_rv r)) h fun g2 h => ?_
  obtain ⟨c3, h⟩ := am_gd_elim h
  obtain ⟨c5, h⟩ := am_gd_elim h
  refine ev_pfr dX3_init_9 (fun _ => am_sh c3) 2 (by decide) (by decide) kF_X3_9 rfl ⟨rfl, rfl⟩ (hZ _ _ (of_decide_eq_true c5)) (fun _ => rfl) (fun _ => rfl) (fun _ => rfl) ?_
  refine am_let_elim (P := fun g4 => am_Ev Z MX3_init 0 12 [(0, .ref a0), (1, .ref a1), (2, .ref a2)] [] g4 (am_rv r)) h fun g4 h => ?_
  refine ev_aload_n 0 dX3_init_12 rfl ?_
  refine ev_bipush dX3_init_13 rfl ?_
  refine ev_newa 20 96 dX3_init_15 (fun h9 => hF _ h9) (by decide) (by decide) kA_int (by decide) rfl (by decide) ?_
  refine am_let_elim (P := fun p6 => am_Ev Z MX3_init 0 17 [(0, .ref a0), (1, .ref a1), (2, .ref a2)] [.ref p6, .ref a0] (am_new g4 20 96) (am_rv r)) h fun p6 h => ?_
  refine am_let_elim (P := fun g7 => am_Ev Z MX3_init 0 17 [(0, .ref a0), (1, .ref a1), (2, .ref a2)] [.ref p6, .ref a0] g7 (am_rv r)) h fun g7 h => ?_
  obtain ⟨c8, h⟩ := am_gd_elim h
  obtain ⟨c10, h⟩ := am_gd_elim h
  refine ev_pfr dX3_init_17 (fun _ => am_sh c8) 3 (by decide) (by decide) kF_X3_15 rfl ⟨rfl, rfl⟩ (hZ _ _ (of_decide_eq_true c10)) (fun _ => rfl) (fun _ => rfl) (fun _ => rfl) ?_
  refine am_let_elim (P := fun g9 => am_Ev Z MX3_init 0 20 [(0, .ref a0), (1, .ref a1), (2, .ref a2)] [] g9 (am_rv r)) h fun g9 h => ?_
  refine ev_aload_n 0 dX3_init_20 rfl ?_
  refine ev_bipush dX3_init_21 rfl ?_
  refine ev_newa 20 36 dX3_init_23 (fun h9 => hF _ h9) (by decide) (by decide) kA_int (by decide) rfl (by decide) ?_
  refine am_let_elim (P := fun p11 => am_Ev Z MX3_init 0 25 [(0, .ref a0), (1, .ref a1), (2, .ref a2)] [.ref p11, .ref a0] (am_new g9 20 36) (am_rv r)) h fun p11 h => ?_
  refine am_let_elim (P := fun g12 => am_Ev Z MX3_init 0 25 [(0, .ref a0), (1, .ref a1), (2, .ref a2)] [.ref p11, .ref a0] g12 (am_rv r)) h fun g12 h => ?_
  obtain ⟨c13, h⟩ := am_gd_elim h
  obtain ⟨c15, h⟩ := am_gd_elim h
  refine ev_pfr dX3_init_25 (fun _ => am_sh c13) 4 (by decide) (by decide) kF_X3_19 rfl ⟨rfl, rfl⟩ (hZ _ _ (of_decide_eq_true c15)) (fun _ => rfl) (fun _ => rfl) (fun _ => rfl) ?_
  refine am_let_elim (P := fun g14 => am_Ev Z MX3_init 0 28 [(0, .ref a0), (1, .ref a1), (2, .ref a2)] [] g14 (am_rv r)) h fun g14 h => ?_
  refine ev_aload_n 0 dX3_init_28 rfl ?_
  refine ev_iconst dX3_init_29 rfl ?_
  refine ev_newa 20 5 dX3_init_30 (fun h9 => hF _ h9) (by decide) (by decide) kA_int (by decide) rfl (by decide) ?_
  refine am_let_elim (P := fun p16 => am_Ev Z MX3_init 0 32 [(0, .ref a0), (1, .ref a1), (2, .ref a2)] [.ref p16, .ref a0] (am_new g14 20 5) (am_rv r)) h fun p16 h => ?_
  refine am_let_elim (P := fun g17 => am_Ev Z MX3_init 0 32 [(0, .ref a0), (1, .ref a1), (2, .ref a2)] [.ref p16, .ref a0] g17 (am_rv r)) h fun g17 h => ?_
  obtain ⟨c18, h⟩ := am_gd_elim h
  obtain ⟨c20, h⟩ := am_gd_elim h
  refine ev_pfr dX3_init_32 (fun _ => am_sh c18) 5 (by decide) (by decide) kF_X3_22 rfl ⟨rfl, rfl⟩ (hZ _ _ (of_decide_eq_true c20)) (fun _ => rfl) (fun _ => rfl) (fun _ => rfl) ?_
  refine am_let_elim (P := fun g19 => am_Ev Z MX3_init 0 35 [(0, .ref a0), (1, .ref a1), (2, .ref a2)] [] g19 (am_rv r)) h fun g19 h => ?_
  refine ev_aload_n 0 dX3_init_35 rfl ?_
  refine ev_iconst dX3_init_36 rfl ?_
  refine ev_newa 20 5 dX3_init_37 (fun h9 => hF _ h9) (by decide) (by decide) kA_int (by decide) rfl (by decide) ?_
  refine am_let_elim (P := fun p21 => am_Ev Z MX3_init 0 39 [(0, .ref a0), (1, .ref a1), (2, .ref a2)] [.ref p21, .ref a0] (am_new g19 20 5) (am_rv r)) h fun p21 h => ?_
  refine am_let_elim (P := fun g22 => am_Ev Z MX3_init 0 39 [(0, .ref a0), (1, .ref a1), (2, .ref a2)] [.ref p21, .ref a0] g22 (am_rv r)) h fun g22 h => ?_
  obtain ⟨c23, h⟩ := am_gd_elim h
  obtain ⟨c25, h⟩ := am_gd_elim h
  refine ev_pfr dX3_init_39 (fun _ => am_sh c23) 6 (by decide) (by decide) kF_X3_25 rfl ⟨rfl, rfl⟩ (hZ _ _ (of_decide_eq_true c25)) (fun _ => rfl) (fun _ => rfl) (fun _ => rfl) ?_
  refine am_let_elim (P := fun g24 => am_Ev Z MX3_init 0 42 [(0, .ref a0), (1, .ref a1), (2, .ref a2)] [] g24 (am_rv r)) h fun g24 h => ?_
  refine ev_aload_n 0 dX3_init_42 rfl ?_
  refine ev_aload_n 1 dX3_init_43 rfl ?_
  obtain ⟨c26, h⟩ := am_gd_elim h
  obtain ⟨c28, h⟩ := am_gd_elim h
  refine ev_pfr dX3_init_44 (fun _ => am_sh c26) 0 (by decide) (by decide) kF_X3_28 rfl ⟨rfl, rfl⟩ (hZ _ _ (of_decide_eq_true c28)) (fun _ => rfl) (fun _ => rfl) (fun _ => rfl) ?_
  refine am_let_elim (P := fun g27 => am_Ev Z MX3_init 0 47 [(0, .ref a0), (1, .ref a1), (2, .ref a2)] [] g27 (am_rv r)) h fun g27 h => ?_
  refine ev_aload_n 0 dX3_init_47 rfl ?_
  refine ev_aload_n 2 dX3_init_48 rfl ?_
  obtain ⟨c29, h⟩ := am_gd_elim h
  obtain ⟨c31, h⟩ := am_gd_elim h
  refine ev_pfr dX3_init_49 (fun _ => am_sh c29) 1 (by decide) (by decide) kF_X3_32 rfl ⟨rfl, rfl⟩ (hZ _ _ (of_decide_eq_true c31)) (fun _ => rfl) (fun _ => rfl) (fun _ => rfl) ?_
  refine am_let_elim (P := fun g30 => am_Ev Z MX3_init 0 52 [(0, .ref a0), (1, .ref a1), (2, .ref a2)] [] g30 (am_rv r)) h fun g30 h => ?_
  cases h
  exact ev_ret dX3_init_52 rfl
theorem tX3_init {Z : am_Z} {fx : Nat} (hF : ∀ g : am_G, am_ok Z g → ∀ k, Z.2 (am_n g) k = none) (hZ : ∀ a k, fx ≤ a → Z.2 a k = none) {a0 : Nat} {a1 : Nat} {a2 : Nat} {g : am_G} {r : Unit × am_G} (h : fX3_init fx a0 a1 a2 g = some r) : am_Mt Z MX3_init 0 [.ref a0, .ref a1, .ref a2] g (am_rv r) := am_Mt.of rfl (Nat.le_of_ble_eq_true rfl) (eX3_init hF hZ _ _ _ _ _ h)
def fX9_roomOn (a1 : Int32) (a2 : Nat) (g : am_G) : Option (Int32 × am_G) :=
  am_gd (decide (am_S g a2 = (2, 8))) <|
  am_oc (am_P g a2 0) (fun p2 =>
  am_gd (decide ((am_S g p2).1 = 20)) <|
  am_gd (am_in a1 ((am_S g p2).2)) <|
  am_let (am_I g p2 a1.toNatClampNeg) fun x6 =>
  if x6 = 0 then (
    some ((1000000000 : Int32), g))
  else (
    am_gd (am_in a1 6) <|
    am_gd (decide (am_S g a2 = (2, 8))) <|
    am_oc (am_P g a2 1) (fun p10 =>
    am_gd (decide ((am_S g p10).1 = 20)) <|
    am_gd (am_in a1 ((am_S g p10).2)) <|
    some (((am_I g 8 a1.toNatClampNeg) - x6) - (am_I g p10 a1.toNatClampNeg), g)) none)) none
set_option maxRecDepth 100000 in
set_option maxHeartbeats 4000000 in
theorem eX9_roomOn (a1 : Int32) (a2 : Nat) (g : am_G) (r : Int32 × am_G) (h : fX9_roomOn a1 a2 g = some r) : am_Ev zc MX9_roomOn 0 0 [(0, .ref 1), (1, .int a1), (2, .ref a2)] [] g (am_ri r) := by
  unfold fX9_roomOn at h
  refine ev_aload_n 2 dX9_roomOn_0 rfl ?_
  obtain ⟨c1, h⟩ := am_gd_elim h
  refine am_oc_elim h (fun p2 e3 h => ?_) (fun _ h => nomatch h)
  refine ev_gf (v := .ref p2) dX9_roomOn_1 (fun _ => am_sh c1) 0 (by decide) (by decide) kF_X9_107 (fun _ => congrArg va_rf e3) ?_
  refine ev_iload_n 1 dX9_roomOn_4 rfl ?_
  obtain ⟨c4, h⟩ := am_gd_elim h
  obtain ⟨c5, h⟩ := am_gd_elim h
  refine ev_iald dX9_roomOn_5 (fun _ => am_shk c4) (am_in_vp c5) ?_
  refine am_let_elim (P := fun x6 => am_Ev zc MX9_roomOn 0 6 [(0, .ref 1), (1, .int a1), (2, .ref a2)] [.int x6] g (am_ri r)) h fun x6 h => ?_
  refine ev_istore_n (ls' := [(3, .int x6), (0, .ref 1), (1, .int a1), (2, .ref a2)]) dX9_roomOn_6 rfl (by decide) rfl ?_
  refine ev_iload_n 0 dX9_roomOn_7 rfl ?_
  refine ev_if_ne 16 dX9_roomOn_8 (by decide) (fun c7 => ?_) (fun c7 => ?_)
  · replace h := am_ifn c7 h
    refine ev_aload_n 1 dX9_roomOn_16 rfl ?_
    refine ev_gf (v := .ref 8) dX9_roomOn_17 (fun h9 => (h9.2.1 1 _ rfl).2) 1 (by decide) (by decide) kF_X9_18 (fun h9 => congrArg va_rf (h9.2.2 1 1 8 rfl)) ?_
    refine ev_iload_n 2 dX9_roomOn_20 rfl ?_
    obtain ⟨c8, h⟩ := am_gd_elim h
    refine ev_iald dX9_roomOn_21 (fun h9 => (h9.2.1 8 _ rfl).2) (am_in_vp c8) ?_
    refine ev_iload_n 0 dX9_roomOn_22 rfl ?_
    refine ev_isub dX9_roomOn_23 ?_
    refine ev_aload_n 3 dX9_roomOn_24 rfl ?_
    obtain ⟨c9, h⟩ := am_gd_elim h
    refine am_oc_elim h (fun p10 e11 h => ?_) (fun _ h => nomatch h)
    refine ev_gf (v := .ref p10) dX9_roomOn_25 (fun _ => am_sh c9) 1 (by decide) (by decide) kF_X9_111 (fun _ => congrArg va_rf e11) ?_
    refine ev_iload_n 2 dX9_roomOn_28 rfl ?_
    obtain ⟨c12, h⟩ := am_gd_elim h
    obtain ⟨c13, h⟩ := am_gd_elim h
    refine ev_iald dX9_roomOn_29 (fun _ => am_shk c12) (am_in_vp c13) ?_
    refine ev_isub dX9_roomOn_30 ?_
    cases h
    exact ev_iret dX9_roomOn_31 rfl
  · replace h := am_ifp c7 h
    refine ev_ldc dX9_roomOn_11 kI_X9_110 ?_
    refine ev_goto 31 dX9_roomOn_13 (by decide) ?_
    cases h
    exact ev_iret dX9_roomOn_31 rfl
theorem tX9_roomOn {a1 : Int32} {a2 : Nat} {g : am_G} {r : Int32 × am_G} (h : fX9_roomOn a1 a2 g = some r) : am_Mt zc MX9_roomOn 0 [.ref 1, .int a1, .ref a2] g (am_ri r) := am_Mt.of rfl (Nat.le_of_ble_eq_true rfl) (eX9_roomOn _ _ _ _ h)
def fX3_prepare_L30 (k : am_G → Option (Unit × am_G)) (a1 : Int32) (a2 : Int32) : Nat → Int32 → am_G → Option (Unit × am_G)
  | 0, _, _ => none
  | n + 1, x6, g7 =>
    if (6 : Int32) ≤ x6 then (
      k g7)
    else (
      am_bd (fX9_roomOn x6 2 g7) fun v10 g11 =>
      am_gd (am_in x6 36) <|
      am_let (am_si g11 42 x6.toNatClampNeg v10) fun g14 =>
      am_let (x6 + (1 : Int32)) fun x15 =>
      fX3_prepare_L30 k a1 a2 n x15 g14)
def fX3_prepare_L113 (k : am_G → Option (Unit × am_G)) (a1 : Int32) (a2 : Int32) (x17 : Int32) : Nat → Int32 → am_G → Option (Unit × am_G)
  | 0, _, _ => none
  | n + 1, x33, g34 =>
    if (6 : Int32) ≤ x33 then (
      k g34)
    else (
      am_gd (am_in x33 6) <|
      am_bd (fX0_shakes x33 (am_I g34 3 x33.toNatClampNeg) g34) fun v38 g39 =>
      am_gd (am_in ((x17 * (6 : Int32)) + x33) 96) <|
      am_let (am_si g39 41 ((x17 * (6 : Int32)) + x33).toNatClampNeg v38) fun g42 =>
      am_let (x33 + (1 : Int32)) fun x43 =>
      fX3_prepare_L113 k a1 a2 x17 n x43 g42)
def fX3_prepare_L65 (a1 : Int32) (a2 : Int32) : Nat → Int32 → am_G → Option (Unit × am_G)
  | 0, _, _ => none
  | n + 1, x17, g18 =>
    if (am_I g18 12 4) ≤ x17 then (
      some ((), g18))
    else (
      am_bd (fX0_ofSaid x17 a1 a2 g18) fun u20 g21 =>
      am_bd (fX0_bars g21) fun v23 g24 =>
      am_jn (fun (x27 : Int32) (g28 : am_G) =>
        am_gd (am_in x17 16) <|
        am_gd (am_zb x27) <|
        am_let (am_si g28 40 x17.toNatClampNeg x27) fun g32 =>
        fX3_prepare_L113 (fun  (g44 : am_G) =>
          am_let (x17 + (1 : Int32)) fun x45 =>
          fX3_prepare_L65 a1 a2 n x45 g44) a1 a2 x17 am_fu (0 : Int32) g32) fun j29 =>
      if v23 = 0 then (
        j29 (1 : Int32) g24)
      else (
        j29 (0 : Int32) g24))
def fX3_prepare (a1 : Int32) (a2 : Int32) (g : am_G) : Option (Unit × am_G) :=
  am_let (am_si g 39 7 (1000000000 : Int32)) fun g1 =>
  am_let (am_si g1 39 8 (0 : Int32)) fun g2 =>
  am_bd (fX0_onDay (am_I g2 2 5) g2) fun u3 g4 =>
  fX3_prepare_L30 (fun  (g16 : am_G) =>
    fX3_prepare_L65 a1 a2 am_fu (0 : Int32) g16) a1 a2 am_fu (0 : Int32) g4
set_option maxRecDepth 100000 in
set_option maxHeartbeats 4000000 in
theorem tfX3_prepare_L30  {k : am_G → Option (Unit × am_G)} (a1 : Int32) (a2 : Int32) (hk : ∀  (g8 : am_G) (r : Unit × am_G), k  g8 = some r → am_Ev zc MX3_prepare 4 63 [(0, .ref 39), (1, .int a1), (2, .int a2)] [] g8 (am_rv r)) : ∀ (n : Nat) (x6 : Int32) (g7 : am_G) (r : Unit × am_G), fX3_prepare_L30 k a1 a2 n x6 g7 = some r → am_Ev zc MX3_prepare 4 30 [(0, .ref 39), (1, .int a1), (2, .int a2), (3, .int x6)] [] g7 (am_rv r) := by
  intro n
  induction n with
  | zero => intro x6 g7 r h; exact nomatch (show (none : Option (Unit × am_G)) = some r from h)
  | succ n ih =>
    intro x6 g7 r h
    rw [fX3_prepare_L30] at h
    refine ev_iload_n 3 dX3_prepare_30 rfl ?_
    refine ev_bipush dX3_prepare_31 rfl ?_
    refine ev_icmp_ge 63 dX3_prepare_33 (by decide) (fun c9 => ?_) (fun c9 => ?_)
    · replace h := am_ifp c9 h
      refine ev_sub [0, 1, 2] rfl ?_
      exact hk  _ _ h
    · replace h := am_ifn c9 h
      refine ev_aload_n 0 dX3_prepare_36 rfl ?_
      refine ev_gf (v := .ref 42) dX3_prepare_37 (fun h9 => (h9.2.1 39 _ rfl).2) 4 (by decide) (by decide) kF_X3_19 (fun h9 => congrArg va_rf (h9.2.2 39 4 42 rfl)) ?_
      refine ev_iload_n 3 dX3_prepare_40 rfl ?_
      refine ev_aload_n 0 dX3_prepare_41 rfl ?_
      refine ev_gf (v := .ref 1) dX3_prepare_42 (fun h9 => (h9.2.1 39 _ rfl).2) 0 (by decide) (by decide) kF_X3_28 (fun h9 => congrArg va_rf (h9.2.2 39 0 1 rfl)) ?_
      refine ev_iload_n 3 dX3_prepare_45 rfl ?_
      refine ev_aload_n 0 dX3_prepare_46 rfl ?_
      refine ev_gf (v := .ref 1) dX3_prepare_47 (fun h9 => (h9.2.1 39 _ rfl).2) 0 (by decide) (by decide) kF_X3_28 (fun h9 => congrArg va_rf (h9.2.2 39 0 1 rfl)) ?_
      refine ev_gf (v := .ref 2) dX3_prepare_50 (fun h9 => (h9.2.1 1 _ rfl).2) 0 (by decide) (by decide) kF_X3_44 (fun h9 => congrArg va_rf (h9.2.2 1 0 2 rfl)) ?_
      obtain ⟨v10, g11, e12, h⟩ := am_bd_elim h
      refine ev_callVi (v := v10) [.int x6, .ref 2] [.int x6, .ref 42] dX3_prepare_53 (tX9_roomOn e12) (by decide) mo_X9_roomOn kM_X3_61 ki_X9_roomOn kv_X9_roomOn (fun h9 => (h9.2.1 1 _ rfl).2) (by decide) rfl (Nat.le_of_ble_eq_true rfl) ?_
      obtain ⟨c13, h⟩ := am_gd_elim h
      refine ev_iast dX3_prepare_56 (fun h9 => (h9.2.1 42 _ rfl).2) (am_in_vp c13) ?_
      refine am_let_elim (P := fun g14 => am_Ev zc MX3_prepare 4 57 [(0, .ref 39), (1, .int a1), (2, .int a2), (3, .int x6)] [] g14 (am_rv r)) h fun g14 h => ?_
      obtain ⟨x15, ex15, h⟩ := am_let_ex h
      refine ev_iinc (ls' := [(3, .int x15), (0, .ref 39), (1, .int a1), (2, .int a2)]) 3 dX3_prepare_57 rfl ex15 (by decide) rfl ?_
      refine ev_goto 30 dX3_prepare_60 (by decide) ?_
      refine ev_sub [1, 2, 3, 0] rfl ?_
      exact ih _ _ _ h
set_option maxRecDepth 100000 in
set_option maxHeartbeats 4000000 in
theorem tfX3_prepare_L113  {k : am_G → Option (Unit × am_G)} (a1 : Int32) (a2 : Int32) (x17 : Int32) (hk : ∀  (g35 : am_G) (r : Unit × am_G), k  g35 = some r → am_Ev zc MX3_prepare 4 160 [(0, .ref 39), (1, .int a1), (2, .int a2), (3, .int x17)] [] g35 (am_rv r)) : ∀ (n : Nat) (x33 : Int32) (g34 : am_G) (r : Unit × am_G), fX3_prepare_L113 k a1 a2 x17 n x33 g34 = some r → am_Ev zc MX3_prepare 4 113 [(0, .ref 39), (1, .int a1), (2, .int a2), (3, .int x17), (4, .int x33)] [] g34 (am_rv r) := by
  intro n
  induction n with
  | zero => intro x33 g34 r h; exact nomatch (show (none : Option (Unit × am_G)) = some r from h)
  | succ n ih =>
    intro x33 g34 r h
    rw [fX3_prepare_L113] at h
    refine ev_iload 4 dX3_prepare_113 rfl ?_
    refine ev_bipush dX3_prepare_115 rfl ?_
    refine ev_icmp_ge 160 dX3_prepare_117 (by decide) (fun c36 => ?_) (fun c36 => ?_)
    · replace h := am_ifp c36 h
      refine ev_sub [0, 1, 2, 3] rfl ?_
      exact hk  _ _ h
    · replace h := am_ifn c36 h
      refine ev_aload_n 0 dX3_prepare_120 rfl ?_
      refine ev_gf (v := .ref 41) dX3_prepare_121 (fun h9 => (h9.2.1 39 _ rfl).2) 3 (by decide) (by decide) kF_X3_15 (fun h9 => congrArg va_rf (h9.2.2 39 3 41 rfl)) ?_
      refine ev_iload_n 3 dX3_prepare_124 rfl ?_
      refine ev_bipush dX3_prepare_125 rfl ?_
      refine ev_imul dX3_prepare_127 ?_
      refine ev_iload 4 dX3_prepare_128 rfl ?_
      refine ev_iadd dX3_prepare_130 ?_
      refine ev_aload_n 0 dX3_prepare_131 rfl ?_
      refine ev_gf (v := .ref 36) dX3_prepare_132 (fun h9 => (h9.2.1 39 _ rfl).2) 1 (by decide) (by decide) kF_X3_32 (fun h9 => congrArg va_rf (h9.2.2 39 1 36 rfl)) ?_
      refine ev_iload 4 dX3_prepare_135 rfl ?_
      refine ev_aload_n 0 dX3_prepare_137 rfl ?_
      refine ev_gf (v := .ref 1) dX3_prepare_138 (fun h9 => (h9.2.1 39 _ rfl).2) 0 (by decide) (by decide) kF_X3_28 (fun h9 => congrArg va_rf (h9.2.2 39 0 1 rfl)) ?_
      refine ev_gf (v := .ref 2) dX3_prepare_141 (fun h9 => (h9.2.1 1 _ rfl).2) 0 (by decide) (by decide) kF_X3_44 (fun h9 => congrArg va_rf (h9.2.2 1 0 2 rfl)) ?_
      refine ev_gf (v := .ref 3) dX3_prepare_144 (fun h9 => (h9.2.1 2 _ rfl).2) 0 (by decide) (by decide) kF_X3_82 (fun h9 => congrArg va_rf (h9.2.2 2 0 3 rfl)) ?_
      refine ev_iload 4 dX3_prepare_147 rfl ?_
      obtain ⟨c37, h⟩ := am_gd_elim h
      refine ev_iald dX3_prepare_149 (fun h9 => (h9.2.1 3 _ rfl).2) (am_in_vp c37) ?_
      obtain ⟨v38, g39, e40, h⟩ := am_bd_elim h
      refine ev_callVi (v := v38) [.int x33, .int (am_I g34 3 x33.toNatClampNeg)] [.int ((x17 * (6 : Int32)) + x33), .ref 41] dX3_prepare_150 (tX0_shakes e40) (by decide) mo_X0_shakes kM_X3_85 ki_X0_shakes kv_X0_shakes (fun h9 => (h9.2.1 36 _ rfl).2) (by decide) rfl (Nat.le_of_ble_eq_true rfl) ?_
      obtain ⟨c41, h⟩ := am_gd_elim h
      refine ev_iast dX3_prepare_153 (fun h9 => (h9.2.1 41 _ rfl).2) (am_in_vp c41) ?_
      refine am_let_elim (P := fun g42 => am_Ev zc MX3_prepare 4 154 [(0, .ref 39), (1, .int a1), (2, .int a2), (3, .int x17), (4, .int x33)] [] g42 (am_rv r)) h fun g42 h => ?_
      obtain ⟨x43, ex43, h⟩ := am_let_ex h
      refine ev_iinc (ls' := [(4, .int x43), (0, .ref 39), (1, .int a1), (2, .int a2), (3, .int x17)]) 4 dX3_prepare_154 rfl ex43 (by decide) rfl ?_
      refine ev_goto 113 dX3_prepare_157 (by decide) ?_
      refine ev_sub [1, 2, 3, 4, 0] rfl ?_
      exact ih _ _ _ h
set_option maxRecDepth 100000 in
set_option maxHeartbeats 4000000 in
theorem tfX3_prepare_L65  (a1 : Int32) (a2 : Int32) : ∀ (n : Nat) (x17 : Int32) (g18 : am_G) (r : Unit × am_G), fX3_prepare_L65 a1 a2 n x17 g18 = some r → am_Ev zc MX3_prepare 4 65 [(0, .ref 39), (1, .int a1), (2, .int a2), (3, .int x17)] [] g18 (am_rv r) := by
  intro n
  induction n with
  | zero => intro x17 g18 r h; exact nomatch (show (none : Option (Unit × am_G)) = some r from h)
  | succ n ih =>
    intro x17 g18 r h
    rw [fX3_prepare_L65] at h
    refine ev_iload_n 3 dX3_prepare_65 rfl ?_
    refine ev_aload_n 0 dX3_prepare_66 rfl ?_
    refine ev_gf (v := .ref 1) dX3_prepare_67 (fun h9 => (h9.2.1 39 _ rfl).2) 0 (by decide) (by decide) kF_X3_28 (fun h9 => congrArg va_rf (h9.2.2 39 0 1 rfl)) ?_
    refine ev_gf (v := .ref 12) dX3_prepare_70 (fun h9 => (h9.2.1 1 _ rfl).2) 5 (by decide) (by decide) kF_X3_65 (fun h9 => congrArg va_rf (h9.2.2 1 5 12 rfl)) ?_
    refine ev_gf (v := .int (am_I g18 12 4)) dX3_prepare_73 (fun h9 => (h9.2.1 12 _ rfl).2) 4 (by decide) (by decide) kF_X3_69 (fun _ => rfl) ?_
    refine ev_icmp_ge 166 dX3_prepare_76 (by decide) (fun c19 => ?_) (fun c19 => ?_)
    · replace h := am_ifp c19 h
      cases h
      exact ev_ret dX3_prepare_166 rfl
    · replace h := am_ifn c19 h
      refine ev_aload_n 0 dX3_prepare_79 rfl ?_
      refine ev_gf (v := .ref 36) dX3_prepare_80 (fun h9 => (h9.2.1 39 _ rfl).2) 1 (by decide) (by decide) kF_X3_32 (fun h9 => congrArg va_rf (h9.2.2 39 1 36 rfl)) ?_
      refine ev_iload_n 3 dX3_prepare_83 rfl ?_
      refine ev_iload_n 1 dX3_prepare_84 rfl ?_
      refine ev_iload_n 2 dX3_prepare_85 rfl ?_
      obtain ⟨u20, g21, e22, h⟩ := am_bd_elim h
      refine ev_callVv [.int x17, .int a1, .int a2] [] dX3_prepare_86 (tX0_ofSaid e22) (by decide) mo_X0_ofSaid kM_X3_74 ki_X0_ofSaid kv_X0_ofSaid (fun h9 => (h9.2.1 36 _ rfl).2) (by decide) rfl (Nat.le_of_ble_eq_true rfl) ?_
      refine ev_aload_n 0 dX3_prepare_89 rfl ?_
      refine ev_gf (v := .ref 40) dX3_prepare_90 (fun h9 => (h9.2.1 39 _ rfl).2) 2 (by decide) (by decide) kF_X3_9 (fun h9 => congrArg va_rf (h9.2.2 39 2 40 rfl)) ?_
      refine ev_iload_n 3 dX3_prepare_93 rfl ?_
      refine ev_aload_n 0 dX3_prepare_94 rfl ?_
      refine ev_gf (v := .ref 36) dX3_prepare_95 (fun h9 => (h9.2.1 39 _ rfl).2) 1 (by decide) (by decide) kF_X3_32 (fun h9 => congrArg va_rf (h9.2.2 39 1 36 rfl)) ?_
      obtain ⟨v23, g24, e25, h⟩ := am_bd_elim h
      refine ev_callVi (v := v23) [] [.int x17, .ref 40] dX3_prepare_98 (tX0_bars e25) (by decide) mo_X0_bars kM_X3_78 ki_X0_bars kv_X0_bars (fun h9 => (h9.2.1 36 _ rfl).2) (by decide) rfl (Nat.le_of_ble_eq_true rfl) ?_
      refine am_jn_elim (fun q9 => ∀ (x27 : Int32) (g28 : am_G) (r : Unit × am_G), q9 x27 g28 = some r → am_Ev zc MX3_prepare 4 109 [(0, .ref 39), (1, .int a1), (2, .int a2), (3, .int x17)] [.int x27, .int x17, .ref 40] g28 (am_rv r)) h ?_ (fun j29 hj29 h => ?_)
      · intro x27 g28 r h
        try dsimp only at h
        obtain ⟨c30, h⟩ := am_gd_elim h
        obtain ⟨c31, h⟩ := am_gd_elim h
        refine ev_zast' dX3_prepare_109 (fun h9 => (h9.2.1 40 _ rfl).2) c31 (am_in_vp c30) ?_
        refine am_let_elim (P := fun g32 => am_Ev zc MX3_prepare 4 110 [(0, .ref 39), (1, .int a1), (2, .int a2), (3, .int x17)] [] g32 (am_rv r)) h fun g32 h => ?_
        refine ev_iconst dX3_prepare_110 rfl ?_
        refine ev_istore (ls' := [(4, .int (0 : Int32)), (0, .ref 39), (1, .int a1), (2, .int a2), (3, .int x17)]) dX3_prepare_111 (by decide) rfl ?_
        refine ev_sub [1, 2, 3, 4, 0] rfl ?_
        refine tfX3_prepare_L113 a1 a2 x17 ?_ _ _ _ _ h
        intro  g44 r h
        try dsimp only at h
        obtain ⟨x45, ex45, h⟩ := am_let_ex h
        refine ev_iinc (ls' := [(3, .int x45), (0, .ref 39), (1, .int a1), (2, .int a2)]) 3 dX3_prepare_160 rfl ex45 (by decide) rfl ?_
        refine ev_goto 65 dX3_prepare_163 (by decide) ?_
        refine ev_sub [1, 2, 3, 0] rfl ?_
        exact ih _ _ _ h
      · refine ev_if_ne 108 dX3_prepare_101 (by decide) (fun c26 => ?_) (fun c26 => ?_)
        · replace h := am_ifn c26 h
          refine ev_iconst dX3_prepare_108 rfl ?_
          refine ev_sub [0, 1, 2, 3] rfl ?_
          exact hj29 _ _ _ h
        · replace h := am_ifp c26 h
          refine ev_iconst dX3_prepare_104 rfl ?_
          refine ev_goto 109 dX3_prepare_105 (by decide) ?_
          refine ev_sub [0, 1, 2, 3] rfl ?_
          exact hj29 _ _ _ h
set_option maxRecDepth 100000 in
set_option maxHeartbeats 4000000 in
theorem eX3_prepare (a1 : Int32) (a2 : Int32) (g : am_G) (r : Unit × am_G) (h : fX3_prepare a1 a2 g = some r) : am_Ev zc MX3_prepare 4 0 [(0, .ref 39), (1, .int a1), (2, .int a2)] [] g (am_rv r) := by
  unfold fX3_prepare at h
  refine ev_aload_n 0 dX3_prepare_0 rfl ?_
  refine ev_ldc dX3_prepare_1 kI_X3_36 ?_
  refine ev_pfi dX3_prepare_3 (fun h9 => (h9.2.1 39 _ rfl).2) 7 (by decide) (by decide) kF_X3_37 rfl rfl rfl (fun _ => rfl) ?_
  refine am_let_elim (P := fun g1 => am_Ev zc MX3_prepare 4 6 [(0, .ref 39), (1, .int a1), (2, .int a2)] [] g1 (am_rv r)) h fun g1 h => ?_
  refine ev_aload_n 0 dX3_prepare_6 rfl ?_
  refine ev_iconst dX3_prepare_7 rfl ?_
  refine ev_pfi dX3_prepare_8 (fun h9 => (h9.2.1 39 _ rfl).2) 8 (by decide) (by decide) kF_X3_41 rfl rfl rfl (fun _ => rfl) ?_
  refine am_let_elim (P := fun g2 => am_Ev zc MX3_prepare 4 11 [(0, .ref 39), (1, .int a1), (2, .int a2)] [] g2 (am_rv r)) h fun g2 h => ?_
  refine ev_aload_n 0 dX3_prepare_11 rfl ?_
  refine ev_gf (v := .ref 36) dX3_prepare_12 (fun h9 => (h9.2.1 39 _ rfl).2) 1 (by decide) (by decide) kF_X3_32 (fun h9 => congrArg va_rf (h9.2.2 39 1 36 rfl)) ?_
  refine ev_aload_n 0 dX3_prepare_15 rfl ?_
  refine ev_gf (v := .ref 1) dX3_prepare_16 (fun h9 => (h9.2.1 39 _ rfl).2) 0 (by decide) (by decide) kF_X3_28 (fun h9 => congrArg va_rf (h9.2.2 39 0 1 rfl)) ?_
  refine ev_gf (v := .ref 2) dX3_prepare_19 (fun h9 => (h9.2.1 1 _ rfl).2) 0 (by decide) (by decide) kF_X3_44 (fun h9 => congrArg va_rf (h9.2.2 1 0 2 rfl)) ?_
  refine ev_gf (v := .int (am_I g2 2 5)) dX3_prepare_22 (fun h9 => (h9.2.1 2 _ rfl).2) 5 (by decide) (by decide) kF_X3_50 (fun _ => rfl) ?_
  obtain ⟨u3, g4, e5, h⟩ := am_bd_elim h
  refine ev_callVv [.int (am_I g2 2 5)] [] dX3_prepare_25 (tX0_onDay e5) (by decide) mo_X0_onDay kM_X3_55 ki_X0_onDay kv_X0_onDay (fun h9 => (h9.2.1 36 _ rfl).2) (by decide) rfl (Nat.le_of_ble_eq_true rfl) ?_
  refine ev_iconst dX3_prepare_28 rfl ?_
  refine ev_istore_n (ls' := [(3, .int (0 : Int32)), (0, .ref 39), (1, .int a1), (2, .int a2)]) dX3_prepare_29 rfl (by decide) rfl ?_
  refine ev_sub [1, 2, 3, 0] rfl ?_
  refine tfX3_prepare_L30 a1 a2 ?_ _ _ _ _ h
  intro  g16 r h
  try dsimp only at h
  refine ev_iconst dX3_prepare_63 rfl ?_
  refine ev_istore_n (ls' := [(3, .int (0 : Int32)), (0, .ref 39), (1, .int a1), (2, .int a2)]) dX3_prepare_64 rfl (by decide) rfl ?_
  refine ev_sub [1, 2, 3, 0] rfl ?_
  exact tfX3_prepare_L65 a1 a2 _ _ _ _ h
theorem tX3_prepare {a1 : Int32} {a2 : Int32} {g : am_G} {r : Unit × am_G} (h : fX3_prepare a1 a2 g = some r) : am_Mt zc MX3_prepare 4 [.ref 39, .int a1, .int a2] g (am_rv r) := am_Mt.of rfl (Nat.le_of_ble_eq_true rfl) (eX3_prepare _ _ _ _ h)
