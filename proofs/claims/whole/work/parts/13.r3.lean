def fX12_slides_L4 : Nat → Int32 → Int32 → am_G → Option (Int32 × am_G)
  | 0, _, _, _ => none
  | n + 1, x1, x2, g3 =>
    if (6 : Int32) ≤ x2 then (
      some (x1, g3))
    else (
      am_bd (fX12_ofSlope x2 (0 : Int32) g3) fun v5 g6 =>
      am_jn (fun  (g9 : am_G) =>
        am_let (x2 + (1 : Int32)) fun x11 =>
        fX12_slides_L4 n x1 x11 g9) fun j10 =>
      if v5 ≤ 0 then (
        j10 g6)
      else (
        am_bd (fX12_ofSlope x2 (0 : Int32) g6) fun v12 g13 =>
        am_bd (fX12_ofSlope x2 (8 : Int32) g13) fun v15 g16 =>
        am_bd (fX12_ofSlope x2 (1 : Int32) g16) fun v18 g19 =>
        if (v12 + v15) ≤ v18 then (
          j10 g19)
        else (
          am_bd (fX12_slide x2 g19) fun u22 g23 =>
          am_let (x1 + (1 : Int32)) fun x25 =>
          fX12_slides_L4 n x25 (0 : Int32) g23)))
def fX12_slides (g : am_G) : Option (Int32 × am_G) :=
  fX12_slides_L4 am_fu (0 : Int32) (0 : Int32) g
set_option maxRecDepth 100000 in
set_option maxHeartbeats 4000000 in
theorem tfX12_slides_L4  : ∀ (n : Nat) (x1 : Int32) (x2 : Int32) (g3 : am_G) (r : Int32 × am_G), fX12_slides_L4 n x1 x2 g3 = some r → am_Ev zr MX12_slides 3 4 [(0, .ref 0), (1, .int x1), (2, .int x2)] [] g3 (am_ri r) := by
  intro n
  induction n with
  | zero => intro x1 x2 g3 r h; exact nomatch (show (none : Option (Int32 × am_G)) = some r from h)
  | succ n ih =>
    intro x1 x2 g3 r h
    rw [fX12_slides_L4] at h
    refine ev_iload_n 2 dX12_slides_4 rfl ?_
    refine ev_bipush dX12_slides_5 rfl ?_
    refine ev_icmp_ge 61 dX12_slides_7 (by decide) (fun c4 => ?_) (fun c4 => ?_)
    · replace h := am_ifp c4 h
      refine ev_iload_n 1 dX12_slides_61 rfl ?_
      cases h
      exact ev_iret dX12_slides_62 rfl
    · replace h := am_ifn c4 h
      refine ev_aload_n 0 dX12_slides_10 rfl ?_
      refine ev_iload_n 2 dX12_slides_11 rfl ?_
      refine ev_iconst dX12_slides_12 rfl ?_
      obtain ⟨v5, g6, e7, h⟩ := am_bd_elim h
      refine ev_callVi (v := v5) [.int x2, .int (0 : Int32)] [] dX12_slides_13 (tX12_ofSlope e7) (by decide) mo_X12_ofSlope kM_X12_210 ki_X12_ofSlope kv_X12_ofSlope (fun h9 => (h9.2.1 0 _ rfl).2) (by decide) rfl (Nat.le_of_ble_eq_true rfl) ?_
      refine am_jn_elim (fun q9 => ∀  (g9 : am_G) (r : Int32 × am_G), q9  g9 = some r → am_Ev zr MX12_slides 3 55 [(0, .ref 0), (1, .int x1), (2, .int x2)] [] g9 (am_ri r)) h ?_ (fun j10 hj10 h => ?_)
      · intro  g9 r h
        try dsimp only at h
        obtain ⟨x11, ex11, h⟩ := am_let_ex h
        refine ev_iinc (ls' := [(2, .int x11), (0, .ref 0), (1, .int x1)]) 2 dX12_slides_55 rfl ex11 (by decide) rfl ?_
        refine ev_goto 4 dX12_slides_58 (by decide) ?_
        refine ev_sub [1, 2, 0] rfl ?_
        exact ih _ _ _ _ h
      · refine ev_if_le 55 dX12_slides_16 (by decide) (fun c8 => ?_) (fun c8 => ?_)
        · replace h := am_ifp c8 h
          refine ev_sub [0, 1, 2] rfl ?_
          exact hj10  _ _ h
        · replace h := am_ifn c8 h
          refine ev_aload_n 0 dX12_slides_19 rfl ?_
          refine ev_iload_n 2 dX12_slides_20 rfl ?_
          refine ev_iconst dX12_slides_21 rfl ?_
          obtain ⟨v12, g13, e14, h⟩ := am_bd_elim h
          refine ev_callVi (v := v12) [.int x2, .int (0 : Int32)] [] dX12_slides_22 (tX12_ofSlope e14) (by decide) mo_X12_ofSlope kM_X12_210 ki_X12_ofSlope kv_X12_ofSlope (fun h9 => (h9.2.1 0 _ rfl).2) (by decide) rfl (Nat.le_of_ble_eq_true rfl) ?_
          refine ev_aload_n 0 dX12_slides_25 rfl ?_
          refine ev_iload_n 2 dX12_slides_26 rfl ?_
          refine ev_bipush dX12_slides_27 rfl ?_
          obtain ⟨v15, g16, e17, h⟩ := am_bd_elim h
          refine ev_callVi (v := v15) [.int x2, .int (8 : Int32)] [.int v12] dX12_slides_29 (tX12_ofSlope e17) (by decide) mo_X12_ofSlope kM_X12_210 ki_X12_ofSlope kv_X12_ofSlope (fun h9 => (h9.2.1 0 _ rfl).2) (by decide) rfl (Nat.le_of_ble_eq_true rfl) ?_
          refine ev_iadd dX12_slides_32 ?_
          refine ev_aload_n 0 dX12_slides_33 rfl ?_
          refine ev_iload_n 2 dX12_slides_34 rfl ?_
          refine ev_iconst dX12_slides_35 rfl ?_
          obtain ⟨v18, g19, e20, h⟩ := am_bd_elim h
          refine ev_callVi (v := v18) [.int x2, .int (1 : Int32)] [.int (v12 + v15)] dX12_slides_36 (tX12_ofSlope e20) (by decide) mo_X12_ofSlope kM_X12_210 ki_X12_ofSlope kv_X12_ofSlope (fun h9 => (h9.2.1 0 _ rfl).2) (by decide) rfl (Nat.le_of_ble_eq_true rfl) ?_
          refine ev_icmp_le 55 dX12_slides_39 (by decide) (fun c21 => ?_) (fun c21 => ?_)
          · replace h := am_ifp c21 h
            refine ev_sub [0, 1, 2] rfl ?_
            exact hj10  _ _ h
          · replace h := am_ifn c21 h
            refine ev_aload_n 0 dX12_slides_42 rfl ?_
            refine ev_iload_n 2 dX12_slides_43 rfl ?_
            obtain ⟨u22, g23, e24, h⟩ := am_bd_elim h
            refine ev_callVv [.int x2] [] dX12_slides_44 (tX12_slide e24) (by decide) mo_X12_slide kM_X12_445 ki_X12_slide kv_X12_slide (fun h9 => (h9.2.1 0 _ rfl).2) (by decide) rfl (Nat.le_of_ble_eq_true rfl) ?_
            obtain ⟨x25, ex25, h⟩ := am_let_ex h
            refine ev_iinc (ls' := [(1, .int x25), (0, .ref 0), (2, .int x2)]) 1 dX12_slides_47 rfl ex25 (by decide) rfl ?_
            refine ev_iconst dX12_slides_50 rfl ?_
            refine ev_istore_n (ls' := [(2, .int (0 : Int32)), (1, .int x25), (0, .ref 0)]) dX12_slides_51 rfl (by decide) rfl ?_
            refine ev_goto 4 dX12_slides_52 (by decide) ?_
            refine ev_sub [2, 1, 0] rfl ?_
            exact ih _ _ _ _ h
set_option maxRecDepth 100000 in
set_option maxHeartbeats 4000000 in
theorem eX12_slides (g : am_G) (r : Int32 × am_G) (h : fX12_slides g = some r) : am_Ev zr MX12_slides 3 0 [(0, .ref 0)] [] g (am_ri r) := by
  unfold fX12_slides at h
  refine ev_iconst dX12_slides_0 rfl ?_
  refine ev_istore_n (ls' := [(1, .int (0 : Int32)), (0, .ref 0)]) dX12_slides_1 rfl (by decide) rfl ?_
  refine ev_iconst dX12_slides_2 rfl ?_
  refine ev_istore_n (ls' := [(2, .int (0 : Int32)), (1, .int (0 : Int32)), (0, .ref 0)]) dX12_slides_3 rfl (by decide) rfl ?_
  refine ev_sub [2, 1, 0] rfl ?_
  exact tfX12_slides_L4 _ _ _ _ _ h
theorem tX12_slides {g : am_G} {r : Int32 × am_G} (h : fX12_slides g = some r) : am_Mt zr MX12_slides 3 [.ref 0] g (am_ri r) := am_Mt.of rfl (Nat.le_of_ble_eq_true rfl) (eX12_slides _ _ h)
def fX12_sayIt_L3 (k : am_G → Option (Int32 × am_G)) (a1 : Int32) (a2 : Int32) (a3 : Int32) (a4 : Int32) : Nat → Int32 → am_G → Option (Int32 × am_G)
  | 0, _, _ => none
  | n + 1, x1, g2 =>
    if (6 : Int32) ≤ x1 then (
      k g2)
    else (
      am_bd (fX12_shakesOf a2 a3 a4 x1 g2) fun v5 g6 =>
      am_gd (am_in x1 6) <|
      am_let (am_si g6 21 x1.toNatClampNeg v5) fun g9 =>
      am_let (x1 + (1 : Int32)) fun x10 =>
      fX12_sayIt_L3 k a1 a2 a3 a4 n x10 g9)
def fX12_sayIt_L36 (a1 : Int32) : Nat → Int32 → am_G → Option (Int32 × am_G)
  | 0, _, _ => none
  | n + 1, x12, g13 =>
    if (6 : Int32) ≤ x12 then (
      am_bd (fX12_slides g13) fun v15 g16 =>
      some (v15, g16))
    else (
      am_bd (fX12_slopeAt x12 (8 : Int32) g13) fun v18 g19 =>
      am_gd (am_in v18 5660) <|
      am_gd (am_in x12 6) <|
      am_gd (am_in v18 5660) <|
      am_let (am_si g19 2 v18.toNatClampNeg ((am_I g19 2 v18.toNatClampNeg) + (am_I g19 21 x12.toNatClampNeg))) fun g24 =>
      am_gd (am_in (((70 : Int32) + ((6 : Int32) * x12)) + a1) 5660) <|
      am_gd (am_in x12 6) <|
      am_gd (am_in (((70 : Int32) + ((6 : Int32) * x12)) + a1) 5660) <|
      am_let (am_si g24 2 (((70 : Int32) + ((6 : Int32) * x12)) + a1).toNatClampNeg ((am_I g24 2 (((70 : Int32) + ((6 : Int32) * x12)) + a1).toNatClampNeg) + (am_I g24 21 x12.toNatClampNeg))) fun g28 =>
      am_let (x12 + (1 : Int32)) fun x29 =>
      fX12_sayIt_L36 a1 n x29 g28)
def fX12_sayIt (a1 : Int32) (a2 : Int32) (a3 : Int32) (a4 : Int32) (g : am_G) : Option (Int32 × am_G) :=
  fX12_sayIt_L3 (fun  (g11 : am_G) =>
    fX12_sayIt_L36 a1 am_fu (0 : Int32) g11) a1 a2 a3 a4 am_fu (0 : Int32) g
set_option maxRecDepth 100000 in
set_option maxHeartbeats 4000000 in
theorem tfX12_sayIt_L3  {k : am_G → Option (Int32 × am_G)} (a1 : Int32) (a2 : Int32) (a3 : Int32) (a4 : Int32) (hk : ∀  (g3 : am_G) (r : Int32 × am_G), k  g3 = some r → am_Ev zr MX12_sayIt 6 33 [(0, .ref 0), (1, .int a1)] [] g3 (am_ri r)) : ∀ (n : Nat) (x1 : Int32) (g2 : am_G) (r : Int32 × am_G), fX12_sayIt_L3 k a1 a2 a3 a4 n x1 g2 = some r → am_Ev zr MX12_sayIt 6 3 [(0, .ref 0), (1, .int a1), (2, .int a2), (3, .int a3), (4, .int a4), (5, .int x1)] [] g2 (am_ri r) := by
  intro n
  induction n with
  | zero => intro x1 g2 r h; exact nomatch (show (none : Option (Int32 × am_G)) = some r from h)
  | succ n ih =>
    intro x1 g2 r h
    rw [fX12_sayIt_L3] at h
    refine ev_iload 5 dX12_sayIt_3 rfl ?_
    refine ev_bipush dX12_sayIt_5 rfl ?_
    refine ev_icmp_ge 33 dX12_sayIt_7 (by decide) (fun c4 => ?_) (fun c4 => ?_)
    · replace h := am_ifp c4 h
      refine ev_sub [0, 1] rfl ?_
      exact hk  _ _ h
    · replace h := am_ifn c4 h
      refine ev_aload_n 0 dX12_sayIt_10 rfl ?_
      refine ev_gf (v := .ref 21) dX12_sayIt_11 (fun h9 => (h9.2.1 0 _ rfl).2) 41 (by decide) (by decide) kF_X12_114 (fun h9 => congrArg va_rf (h9.2.2 0 41 21 rfl)) ?_
      refine ev_iload 5 dX12_sayIt_14 rfl ?_
      refine ev_aload_n 0 dX12_sayIt_16 rfl ?_
      refine ev_iload_n 2 dX12_sayIt_17 rfl ?_
      refine ev_iload_n 3 dX12_sayIt_18 rfl ?_
      refine ev_iload 4 dX12_sayIt_19 rfl ?_
      refine ev_iload 5 dX12_sayIt_21 rfl ?_
      obtain ⟨v5, g6, e7, h⟩ := am_bd_elim h
      refine ev_callVi (v := v5) [.int a2, .int a3, .int a4, .int x1] [.int x1, .ref 21] dX12_sayIt_23 (tX12_shakesOf e7) (by decide) mo_X12_shakesOf kM_X12_434 ki_X12_shakesOf kv_X12_shakesOf (fun h9 => (h9.2.1 0 _ rfl).2) (by decide) rfl (Nat.le_of_ble_eq_true rfl) ?_
      obtain ⟨c8, h⟩ := am_gd_elim h
      refine ev_iast dX12_sayIt_26 (fun h9 => (h9.2.1 21 _ rfl).2) (am_in_vp c8) ?_
      refine am_let_elim (P := fun g9 => am_Ev zr MX12_sayIt 6 27 [(0, .ref 0), (1, .int a1), (2, .int a2), (3, .int a3), (4, .int a4), (5, .int x1)] [] g9 (am_ri r)) h fun g9 h => ?_
      obtain ⟨x10, ex10, h⟩ := am_let_ex h
      refine ev_iinc (ls' := [(5, .int x10), (0, .ref 0), (1, .int a1), (2, .int a2), (3, .int a3), (4, .int a4)]) 5 dX12_sayIt_27 rfl ex10 (by decide) rfl ?_
      refine ev_goto 3 dX12_sayIt_30 (by decide) ?_
      refine ev_sub [1, 2, 3, 4, 5, 0] rfl ?_
      exact ih _ _ _ h
set_option maxRecDepth 100000 in
set_option maxHeartbeats 4000000 in
theorem tfX12_sayIt_L36  (a1 : Int32) : ∀ (n : Nat) (x12 : Int32) (g13 : am_G) (r : Int32 × am_G), fX12_sayIt_L36 a1 n x12 g13 = some r → am_Ev zr MX12_sayIt 6 36 [(0, .ref 0), (1, .int a1), (5, .int x12)] [] g13 (am_ri r) := by
  intro n
  induction n with
  | zero => intro x12 g13 r h; exact nomatch (show (none : Option (Int32 × am_G)) = some r from h)
  | succ n ih =>
    intro x12 g13 r h
    rw [fX12_sayIt_L36] at h
    refine ev_iload 2 dX12_sayIt_36 rfl ?_
    refine ev_bipush dX12_sayIt_38 rfl ?_
    refine ev_icmp_ge 96 dX12_sayIt_40 (by decide) (fun c14 => ?_) (fun c14 => ?_)
    · replace h := am_ifp c14 h
      refine ev_aload_n 0 dX12_sayIt_96 rfl ?_
      obtain ⟨v15, g16, e17, h⟩ := am_bd_elim h
      refine ev_callVi (v := v15) [] [] dX12_sayIt_97 (tX12_slides e17) (by decide) mo_X12_slides kM_X12_448 ki_X12_slides kv_X12_slides (fun h9 => (h9.2.1 0 _ rfl).2) (by decide) rfl (Nat.le_of_ble_eq_true rfl) ?_
      cases h
      exact ev_iret dX12_sayIt_100 rfl
    · replace h := am_ifn c14 h
      refine ev_aload_n 0 dX12_sayIt_43 rfl ?_
      refine ev_gf (v := .ref 2) dX12_sayIt_44 (fun h9 => (h9.2.1 0 _ rfl).2) 3 (by decide) (by decide) kF_X12_13 (fun h9 => congrArg va_rf (h9.2.2 0 3 2 rfl)) ?_
      refine ev_iload 2 dX12_sayIt_47 rfl ?_
      refine ev_bipush dX12_sayIt_49 rfl ?_
      obtain ⟨v18, g19, e20, h⟩ := am_bd_elim h
      refine ev_callSi (v := v18) [.int x12, .int (8 : Int32)] [.ref 2] dX12_sayIt_51 (tX12_slopeAt e20) (by decide) mo_X12_slopeAt kM_X12_159 ks_X12_slopeAt (Nat.le_of_ble_eq_true rfl) ?_
      refine ev_dup2 dX12_sayIt_54 rfl rfl ?_
      obtain ⟨c21, h⟩ := am_gd_elim h
      refine ev_iald dX12_sayIt_55 (fun h9 => (h9.2.1 2 _ rfl).2) (am_in_vp c21) ?_
      refine ev_aload_n 0 dX12_sayIt_56 rfl ?_
      refine ev_gf (v := .ref 21) dX12_sayIt_57 (fun h9 => (h9.2.1 0 _ rfl).2) 41 (by decide) (by decide) kF_X12_114 (fun h9 => congrArg va_rf (h9.2.2 0 41 21 rfl)) ?_
      refine ev_iload 2 dX12_sayIt_60 rfl ?_
      obtain ⟨c22, h⟩ := am_gd_elim h
      refine ev_iald dX12_sayIt_62 (fun h9 => (h9.2.1 21 _ rfl).2) (am_in_vp c22) ?_
      refine ev_iadd dX12_sayIt_63 ?_
      obtain ⟨c23, h⟩ := am_gd_elim h
      refine ev_iast dX12_sayIt_64 (fun h9 => (h9.2.1 2 _ rfl).2) (am_in_vp c23) ?_
      refine am_let_elim (P := fun g24 => am_Ev zr MX12_sayIt 6 65 [(0, .ref 0), (1, .int a1), (5, .int x12)] [] g24 (am_ri r)) h fun g24 h => ?_
      refine ev_aload_n 0 dX12_sayIt_65 rfl ?_
      refine ev_gf (v := .ref 2) dX12_sayIt_66 (fun h9 => (h9.2.1 0 _ rfl).2) 3 (by decide) (by decide) kF_X12_13 (fun h9 => congrArg va_rf (h9.2.2 0 3 2 rfl)) ?_
      refine ev_bipush dX12_sayIt_69 rfl ?_
      refine ev_bipush dX12_sayIt_71 rfl ?_
      refine ev_iload 2 dX12_sayIt_73 rfl ?_
      refine ev_imul dX12_sayIt_75 ?_
      refine ev_iadd dX12_sayIt_76 ?_
      refine ev_iload_n 1 dX12_sayIt_77 rfl ?_
      refine ev_iadd dX12_sayIt_78 ?_
      refine ev_dup2 dX12_sayIt_79 rfl rfl ?_
      obtain ⟨c25, h⟩ := am_gd_elim h
      refine ev_iald dX12_sayIt_80 (fun h9 => (h9.2.1 2 _ rfl).2) (am_in_vp c25) ?_
      refine ev_aload_n 0 dX12_sayIt_81 rfl ?_
      refine ev_gf (v := .ref 21) dX12_sayIt_82 (fun h9 => (h9.2.1 0 _ rfl).2) 41 (by decide) (by decide) kF_X12_114 (fun h9 => congrArg va_rf (h9.2.2 0 41 21 rfl)) ?_
      refine ev_iload 2 dX12_sayIt_85 rfl ?_
      obtain ⟨c26, h⟩ := am_gd_elim h
      refine ev_iald dX12_sayIt_87 (fun h9 => (h9.2.1 21 _ rfl).2) (am_in_vp c26) ?_
      refine ev_iadd dX12_sayIt_88 ?_
      obtain ⟨c27, h⟩ := am_gd_elim h
      refine ev_iast dX12_sayIt_89 (fun h9 => (h9.2.1 2 _ rfl).2) (am_in_vp c27) ?_
      refine am_let_elim (P := fun g28 => am_Ev zr MX12_sayIt 6 90 [(0, .ref 0), (1, .int a1), (5, .int x12)] [] g28 (am_ri r)) h fun g28 h => ?_
      obtain ⟨x29, ex29, h⟩ := am_let_ex h
      refine ev_iinc (ls' := [(5, .int x29), (0, .ref 0), (1, .int a1)]) 2 dX12_sayIt_90 rfl ex29 (by decide) rfl ?_
      refine ev_goto 36 dX12_sayIt_93 (by decide) ?_
      refine ev_sub [1, 2, 0] rfl ?_
      exact ih _ _ _ h
set_option maxRecDepth 100000 in
set_option maxHeartbeats 4000000 in
theorem eX12_sayIt (a1 : Int32) (a2 : Int32) (a3 : Int32) (a4 : Int32) (g : am_G) (r : Int32 × am_G) (h : fX12_sayIt a1 a2 a3 a4 g = some r) : am_Ev zr MX12_sayIt 6 0 [(0, .ref 0), (1, .int a1), (2, .int a2), (3, .int a3), (4, .int a4)] [] g (am_ri r) := by
  unfold fX12_sayIt at h
  refine ev_iconst dX12_sayIt_0 rfl ?_
  refine ev_istore (ls' := [(5, .int (0 : Int32)), (0, .ref 0), (1, .int a1), (2, .int a2), (3, .int a3), (4, .int a4)]) dX12_sayIt_1 (by decide) rfl ?_
  refine ev_sub [1, 2, 3, 4, 5, 0] rfl ?_
  refine tfX12_sayIt_L3 a1 a2 a3 a4 ?_ _ _ _ _ h
  intro  g11 r h
  try dsimp only at h
  refine ev_iconst dX12_sayIt_33 rfl ?_
  refine ev_istore (ls' := [(5, .int (0 : Int32)), (0, .ref 0), (1, .int a1)]) dX12_sayIt_34 (by decide) rfl ?_
  refine ev_sub [1, 2, 0] rfl ?_
  exact tfX12_sayIt_L36 a1 _ _ _ _ h
theorem tX12_sayIt {a1 : Int32} {a2 : Int32} {a3 : Int32} {a4 : Int32} {g : am_G} {r : Int32 × am_G} (h : fX12_sayIt a1 a2 a3 a4 g = some r) : am_Mt zr MX12_sayIt 6 [.ref 0, .int a1, .int a2, .int a3, .int a4] g (am_ri r) := am_Mt.of rfl (Nat.le_of_ble_eq_true rfl) (eX12_sayIt _ _ _ _ _ _ h)
def fX12_dawnIt_L13 (k : am_G → Option (Int32 × am_G)) : Nat → Int32 → am_G → Option (Int32 × am_G)
  | 0, _, _ => none
  | n + 1, x4, g5 =>
    if (6 : Int32) ≤ x4 then (
      k g5)
    else (
      am_bd (fX12_skyTells (1 : Int32) x4 (10 : Int64) g5) fun v8 g9 =>
      am_bd (fX12_skyTells (2 : Int32) x4 (0 : Int64) g9) fun v11 g12 =>
      am_bd (fX12_ofSlope x4 (0 : Int32) g12) fun v14 g15 =>
      am_bd (fX12_within (((v14 + v8) - v11).toInt64) (0 : Int32) (9999 : Int32) g15) fun v17 g18 =>
      am_gd (am_in x4 6) <|
      am_let (am_si g18 22 x4.toNatClampNeg v17) fun g21 =>
      am_let (x4 + (1 : Int32)) fun x22 =>
      fX12_dawnIt_L13 k n x22 g21)
def fX12_dawnIt_L69 (k : am_G → Option (Int32 × am_G)) : Nat → Int32 → am_G → Option (Int32 × am_G)
  | 0, _, _ => none
  | n + 1, x24, g25 =>
    if (6 : Int32) ≤ x24 then (
      k g25)
    else (
      am_bd (fX12_slopeAt x24 (0 : Int32) g25) fun v28 g29 =>
      am_gd (am_in x24 6) <|
      am_gd (am_in v28 5660) <|
      am_let (am_si g29 2 v28.toNatClampNeg (am_I g29 22 x24.toNatClampNeg)) fun g33 =>
      am_bd (fX12_slopeAt x24 (8 : Int32) g33) fun v34 g35 =>
      am_gd (am_in v34 5660) <|
      am_let (am_si g35 2 v34.toNatClampNeg (0 : Int32)) fun g38 =>
      am_let (x24 + (1 : Int32)) fun x39 =>
      fX12_dawnIt_L69 k n x39 g38)
def fX12_dawnIt_L111 : Nat → Int32 → am_G → Option (Int32 × am_G)
  | 0, _, _ => none
  | n + 1, x41, g42 =>
    if (36 : Int32) ≤ x41 then (
      am_bd (fX12_slides g42) fun v44 g45 =>
      some (v44, g45))
    else (
      am_gd (am_in ((70 : Int32) + x41) 5660) <|
      am_let (am_si g42 2 ((70 : Int32) + x41).toNatClampNeg (0 : Int32)) fun g48 =>
      am_let (x41 + (1 : Int32)) fun x49 =>
      fX12_dawnIt_L111 n x49 g48)
def fX12_dawnIt (g : am_G) : Option (Int32 × am_G) :=
  am_gd (am_in (6 : Int32) 5660) <|
  am_gd (am_in (6 : Int32) 5660) <|
  am_let (am_si g 2 (6 : Int32).toNatClampNeg ((am_I g 2 (6 : Int32).toNatClampNeg) + (1 : Int32))) fun g3 =>
  fX12_dawnIt_L13 (fun  (g23 : am_G) =>
    fX12_dawnIt_L69 (fun  (g40 : am_G) =>
      fX12_dawnIt_L111 am_fu (0 : Int32) g40) am_fu (0 : Int32) g23) am_fu (0 : Int32) g3
set_option maxRecDepth 100000 in
set_option maxHeartbeats 4000000 in
theorem tfX12_dawnIt_L13  {k : am_G → Option (Int32 × am_G)} (hk : ∀  (g6 : am_G) (r : Int32 × am_G), k  g6 = some r → am_Ev zr MX12_dawnIt 6 67 [(0, .ref 0)] [] g6 (am_ri r)) : ∀ (n : Nat) (x4 : Int32) (g5 : am_G) (r : Int32 × am_G), fX12_dawnIt_L13 k n x4 g5 = some r → am_Ev zr MX12_dawnIt 6 13 [(0, .ref 0), (1, .int x4)] [] g5 (am_ri r) := by
  intro n
  induction n with
  | zero => intro x4 g5 r h; exact nomatch (show (none : Option (Int32 × am_G)) = some r from h)
  | succ n ih =>
    intro x4 g5 r h
    rw [fX12_dawnIt_L13] at h
    refine ev_iload_n 1 dX12_dawnIt_13 rfl ?_
    refine ev_bipush dX12_dawnIt_14 rfl ?_
    refine ev_icmp_ge 67 dX12_dawnIt_16 (by decide) (fun c7 => ?_) (fun c7 => ?_)
    · replace h := am_ifp c7 h
      refine ev_sub [0] rfl ?_
      exact hk  _ _ h
    · replace h := am_ifn c7 h
      refine ev_aload_n 0 dX12_dawnIt_19 rfl ?_
      refine ev_iconst dX12_dawnIt_20 rfl ?_
      refine ev_iload_n 1 dX12_dawnIt_21 rfl ?_
      refine ev_ldc2 dX12_dawnIt_22 kL_X12_270 ?_
      obtain ⟨v8, g9, e10, h⟩ := am_bd_elim h
      refine ev_callVi (v := v8) [.int (1 : Int32), .int x4, .long (10 : Int64)] [] dX12_dawnIt_25 (tX12_skyTells e10) (by decide) mo_X12_skyTells kM_X12_441 ki_X12_skyTells kv_X12_skyTells (fun h9 => (h9.2.1 0 _ rfl).2) (by decide) rfl (Nat.le_of_ble_eq_true rfl) ?_
      refine ev_istore_n (ls' := [(2, .int v8), (0, .ref 0), (1, .int x4)]) dX12_dawnIt_28 rfl (by decide) rfl ?_
      refine ev_aload_n 1 dX12_dawnIt_29 rfl ?_
      refine ev_iconst dX12_dawnIt_30 rfl ?_
      refine ev_iload_n 2 dX12_dawnIt_31 rfl ?_
      refine ev_lconst dX12_dawnIt_32 rfl ?_
      obtain ⟨v11, g12, e13, h⟩ := am_bd_elim h
      refine ev_callVi (v := v11) [.int (2 : Int32), .int x4, .long (0 : Int64)] [] dX12_dawnIt_33 (tX12_skyTells e13) (by decide) mo_X12_skyTells kM_X12_441 ki_X12_skyTells kv_X12_skyTells (fun h9 => (h9.2.1 0 _ rfl).2) (by decide) rfl (Nat.le_of_ble_eq_true rfl) ?_
      refine ev_istore_n (ls' := [(3, .int v11), (2, .int v8), (0, .ref 0), (1, .int x4)]) dX12_dawnIt_36 rfl (by decide) rfl ?_
      refine ev_aload_n 2 dX12_dawnIt_37 rfl ?_
      refine ev_gf (v := .ref 22) dX12_dawnIt_38 (fun h9 => (h9.2.1 0 _ rfl).2) 42 (by decide) (by decide) kF_X12_117 (fun h9 => congrArg va_rf (h9.2.2 0 42 22 rfl)) ?_
      refine ev_iload_n 3 dX12_dawnIt_41 rfl ?_
      refine ev_aload_n 2 dX12_dawnIt_42 rfl ?_
      refine ev_iload_n 3 dX12_dawnIt_43 rfl ?_
      refine ev_iconst dX12_dawnIt_44 rfl ?_
      obtain ⟨v14, g15, e16, h⟩ := am_bd_elim h
      refine ev_callVi (v := v14) [.int x4, .int (0 : Int32)] [.int x4, .ref 22] dX12_dawnIt_45 (tX12_ofSlope e16) (by decide) mo_X12_ofSlope kM_X12_210 ki_X12_ofSlope kv_X12_ofSlope (fun h9 => (h9.2.1 0 _ rfl).2) (by decide) rfl (Nat.le_of_ble_eq_true rfl) ?_
      refine ev_iload_n 1 dX12_dawnIt_48 rfl ?_
      refine ev_iadd dX12_dawnIt_49 ?_
      refine ev_iload_n 0 dX12_dawnIt_50 rfl ?_
      refine ev_isub dX12_dawnIt_51 ?_
      refine ev_i2l dX12_dawnIt_52 ?_
      refine ev_iconst dX12_dawnIt_53 rfl ?_
      refine ev_sipush dX12_dawnIt_54 rfl ?_
      obtain ⟨v17, g18, e19, h⟩ := am_bd_elim h
      refine ev_callSi (v := v17) [.long (((v14 + v8) - v11).toInt64), .int (0 : Int32), .int (9999 : Int32)] [.int x4, .ref 22] dX12_dawnIt_57 (tX12_within e19) (by decide) mo_X12_within kM_X12_424 ks_X12_within (Nat.le_of_ble_eq_true rfl) ?_
      obtain ⟨c20, h⟩ := am_gd_elim h
      refine ev_iast dX12_dawnIt_60 (fun h9 => (h9.2.1 22 _ rfl).2) (am_in_vp c20) ?_
      refine am_let_elim (P := fun g21 => am_Ev zr MX12_dawnIt 6 61 [(3, .int v11), (2, .int v8), (0, .ref 0), (1, .int x4)] [] g21 (am_ri r)) h fun g21 h => ?_
      obtain ⟨x22, ex22, h⟩ := am_let_ex h
      refine ev_iinc (ls' := [(1, .int x22), (3, .int v11), (2, .int v8), (0, .ref 0)]) 3 dX12_dawnIt_61 rfl ex22 (by decide) rfl ?_
      refine ev_goto 13 dX12_dawnIt_64 (by decide) ?_
      refine ev_sub [3, 0] rfl ?_
      exact ih _ _ _ h
set_option maxRecDepth 100000 in
set_option maxHeartbeats 4000000 in
theorem tfX12_dawnIt_L69  {k : am_G → Option (Int32 × am_G)} (hk : ∀  (g26 : am_G) (r : Int32 × am_G), k  g26 = some r → am_Ev zr MX12_dawnIt 6 109 [(0, .ref 0)] [] g26 (am_ri r)) : ∀ (n : Nat) (x24 : Int32) (g25 : am_G) (r : Int32 × am_G), fX12_dawnIt_L69 k n x24 g25 = some r → am_Ev zr MX12_dawnIt 6 69 [(0, .ref 0), (1, .int x24)] [] g25 (am_ri r) := by
  intro n
  induction n with
  | zero => intro x24 g25 r h; exact nomatch (show (none : Option (Int32 × am_G)) = some r from h)
  | succ n ih =>
    intro x24 g25 r h
    rw [fX12_dawnIt_L69] at h
    refine ev_iload_n 1 dX12_dawnIt_69 rfl ?_
    refine ev_bipush dX12_dawnIt_70 rfl ?_
    refine ev_icmp_ge 109 dX12_dawnIt_72 (by decide) (fun c27 => ?_) (fun c27 => ?_)
    · replace h := am_ifp c27 h
      refine ev_sub [0] rfl ?_
      exact hk  _ _ h
    · replace h := am_ifn c27 h
      refine ev_aload_n 0 dX12_dawnIt_75 rfl ?_
      refine ev_gf (v := .ref 2) dX12_dawnIt_76 (fun h9 => (h9.2.1 0 _ rfl).2) 3 (by decide) (by decide) kF_X12_13 (fun h9 => congrArg va_rf (h9.2.2 0 3 2 rfl)) ?_
      refine ev_iload_n 1 dX12_dawnIt_79 rfl ?_
      refine ev_iconst dX12_dawnIt_80 rfl ?_
      obtain ⟨v28, g29, e30, h⟩ := am_bd_elim h
      refine ev_callSi (v := v28) [.int x24, .int (0 : Int32)] [.ref 2] dX12_dawnIt_81 (tX12_slopeAt e30) (by decide) mo_X12_slopeAt kM_X12_159 ks_X12_slopeAt (Nat.le_of_ble_eq_true rfl) ?_
      refine ev_aload_n 0 dX12_dawnIt_84 rfl ?_
      refine ev_gf (v := .ref 22) dX12_dawnIt_85 (fun h9 => (h9.2.1 0 _ rfl).2) 42 (by decide) (by decide) kF_X12_117 (fun h9 => congrArg va_rf (h9.2.2 0 42 22 rfl)) ?_
      refine ev_iload_n 1 dX12_dawnIt_88 rfl ?_
      obtain ⟨c31, h⟩ := am_gd_elim h
      refine ev_iald dX12_dawnIt_89 (fun h9 => (h9.2.1 22 _ rfl).2) (am_in_vp c31) ?_
      obtain ⟨c32, h⟩ := am_gd_elim h
      refine ev_iast dX12_dawnIt_90 (fun h9 => (h9.2.1 2 _ rfl).2) (am_in_vp c32) ?_
      refine am_let_elim (P := fun g33 => am_Ev zr MX12_dawnIt 6 91 [(0, .ref 0), (1, .int x24)] [] g33 (am_ri r)) h fun g33 h => ?_
      refine ev_aload_n 0 dX12_dawnIt_91 rfl ?_
      refine ev_gf (v := .ref 2) dX12_dawnIt_92 (fun h9 => (h9.2.1 0 _ rfl).2) 3 (by decide) (by decide) kF_X12_13 (fun h9 => congrArg va_rf (h9.2.2 0 3 2 rfl)) ?_
      refine ev_iload_n 1 dX12_dawnIt_95 rfl ?_
      refine ev_bipush dX12_dawnIt_96 rfl ?_
      obtain ⟨v34, g35, e36, h⟩ := am_bd_elim h
      refine ev_callSi (v := v34) [.int x24, .int (8 : Int32)] [.ref 2] dX12_dawnIt_98 (tX12_slopeAt e36) (by decide) mo_X12_slopeAt kM_X12_159 ks_X12_slopeAt (Nat.le_of_ble_eq_true rfl) ?_
      refine ev_iconst dX12_dawnIt_101 rfl ?_
      obtain ⟨c37, h⟩ := am_gd_elim h
      refine ev_iast dX12_dawnIt_102 (fun h9 => (h9.2.1 2 _ rfl).2) (am_in_vp c37) ?_
      refine am_let_elim (P := fun g38 => am_Ev zr MX12_dawnIt 6 103 [(0, .ref 0), (1, .int x24)] [] g38 (am_ri r)) h fun g38 h => ?_
      obtain ⟨x39, ex39, h⟩ := am_let_ex h
      refine ev_iinc (ls' := [(1, .int x39), (0, .ref 0)]) 1 dX12_dawnIt_103 rfl ex39 (by decide) rfl ?_
      refine ev_goto 69 dX12_dawnIt_106 (by decide) ?_
      refine ev_sub [1, 0] rfl ?_
      exact ih _ _ _ h
set_option maxRecDepth 100000 in
set_option maxHeartbeats 4000000 in
theorem tfX12_dawnIt_L111  : ∀ (n : Nat) (x41 : Int32) (g42 : am_G) (r : Int32 × am_G), fX12_dawnIt_L111 n x41 g42 = some r → am_Ev zr MX12_dawnIt 6 111 [(0, .ref 0), (1, .int x41)] [] g42 (am_ri r) := by
  intro n
  induction n with
  | zero => intro x41 g42 r h; exact nomatch (show (none : Option (Int32 × am_G)) = some r from h)
  | succ n ih =>
    intro x41 g42 r h
    rw [fX12_dawnIt_L111] at h
    refine ev_iload_n 1 dX12_dawnIt_111 rfl ?_
    refine ev_bipush dX12_dawnIt_112 rfl ?_
    refine ev_icmp_ge 133 dX12_dawnIt_114 (by decide) (fun c43 => ?_) (fun c43 => ?_)
    · replace h := am_ifp c43 h
      refine ev_aload_n 0 dX12_dawnIt_133 rfl ?_
      obtain ⟨v44, g45, e46, h⟩ := am_bd_elim h
      refine ev_callVi (v := v44) [] [] dX12_dawnIt_134 (tX12_slides e46) (by decide) mo_X12_slides kM_X12_448 ki_X12_slides kv_X12_slides (fun h9 => (h9.2.1 0 _ rfl).2) (by decide) rfl (Nat.le_of_ble_eq_true rfl) ?_
      cases h
      exact ev_iret dX12_dawnIt_137 rfl
    · replace h := am_ifn c43 h
      refine ev_aload_n 0 dX12_dawnIt_117 rfl ?_
      refine ev_gf (v := .ref 2) dX12_dawnIt_118 (fun h9 => (h9.2.1 0 _ rfl).2) 3 (by decide) (by decide) kF_X12_13 (fun h9 => congrArg va_rf (h9.2.2 0 3 2 rfl)) ?_
      refine ev_bipush dX12_dawnIt_121 rfl ?_
      refine ev_iload_n 1 dX12_dawnIt_123 rfl ?_
      refine ev_iadd dX12_dawnIt_124 ?_
      refine ev_iconst dX12_dawnIt_125 rfl ?_
      obtain ⟨c47, h⟩ := am_gd_elim h
      refine ev_iast dX12_dawnIt_126 (fun h9 => (h9.2.1 2 _ rfl).2) (am_in_vp c47) ?_
      refine am_let_elim (P := fun g48 => am_Ev zr MX12_dawnIt 6 127 [(0, .ref 0), (1, .int x41)] [] g48 (am_ri r)) h fun g48 h => ?_
      obtain ⟨x49, ex49, h⟩ := am_let_ex h
      refine ev_iinc (ls' := [(1, .int x49), (0, .ref 0)]) 1 dX12_dawnIt_127 rfl ex49 (by decide) rfl ?_
      refine ev_goto 111 dX12_dawnIt_130 (by decide) ?_
      refine ev_sub [1, 0] rfl ?_
      exact ih _ _ _ h
set_option maxRecDepth 100000 in
set_option maxHeartbeats 4000000 in
theorem eX12_dawnIt (g : am_G) (r : Int32 × am_G) (h : fX12_dawnIt g = some r) : am_Ev zr MX12_dawnIt 6 0 [(0, .ref 0)] [] g (am_ri r) := by
  unfold fX12_dawnIt at h
  refine ev_aload_n 0 dX12_dawnIt_0 rfl ?_
  refine ev_gf (v := .ref 2) dX12_dawnIt_1 (fun h9 => (h9.2.1 0 _ rfl).2) 3 (by decide) (by decide) kF_X12_13 (fun h9 => congrArg va_rf (h9.2.2 0 3 2 rfl)) ?_
  refine ev_bipush dX12_dawnIt_4 rfl ?_
  refine ev_dup2 dX12_dawnIt_6 rfl rfl ?_
  obtain ⟨c1, h⟩ := am_gd_elim h
  refine ev_iald dX12_dawnIt_7 (fun h9 => (h9.2.1 2 _ rfl).2) (am_in_vp c1) ?_
  refine ev_iconst dX12_dawnIt_8 rfl ?_
  refine ev_iadd dX12_dawnIt_9 ?_
  obtain ⟨c2, h⟩ := am_gd_elim h
  refine ev_iast dX12_dawnIt_10 (fun h9 => (h9.2.1 2 _ rfl).2) (am_in_vp c2) ?_
  refine am_let_elim (P := fun g3 => am_Ev zr MX12_dawnIt 6 11 [(0, .ref 0)] [] g3 (am_ri r)) h fun g3 h => ?_
  refine ev_iconst dX12_dawnIt_11 rfl ?_
  refine ev_istore_n (ls' := [(1, .int (0 : Int32)), (0, .ref 0)]) dX12_dawnIt_12 rfl (by decide) rfl ?_
  refine ev_sub [1, 0] rfl ?_
  refine tfX12_dawnIt_L13 ?_ _ _ _ _ h
  intro  g23 r h
  try dsimp only at h
  refine ev_iconst dX12_dawnIt_67 rfl ?_
  refine ev_istore_n (ls' := [(1, .int (0 : Int32)), (0, .ref 0)]) dX12_dawnIt_68 rfl (by decide) rfl ?_
  refine ev_sub [1, 0] rfl ?_
  refine tfX12_dawnIt_L69 ?_ _ _ _ _ h
  intro  g40 r h
  try dsimp only at h
  refine ev_iconst dX12_dawnIt_109 rfl ?_
  refine ev_istore_n (ls' := [(1, .int (0 : Int32)), (0, .ref 0)]) dX12_dawnIt_110 rfl (by decide) rfl ?_
  refine ev_sub [1, 0] rfl ?_
  exact tfX12_dawnIt_L111 _ _ _ _ h
theorem tX12_dawnIt {g : am_G} {r : Int32 × am_G} (h : fX12_dawnIt g = some r) : am_Mt zr MX12_dawnIt 6 [.ref 0] g (am_ri r) := am_Mt.of rfl (Nat.le_of_ble_eq_true rfl) (eX12_dawnIt _ _ h)
def fX12_sayNow (a1 : Int32) (a2 : Int32) (a3 : Int32) (a4 : Int32) (g : am_G) : Option (Int32 × am_G) :=
  am_bd (fX12_in a1.toInt64 (0 : Int64) (5 : Int64) g) fun v1 g2 =>
  if v1 = 0 then (
    some ((-1 : Int32), g2))
  else (
    am_bd (fX12_isPlace a3 g2) fun v5 g6 =>
    if v5 = 0 then (
      some ((-1 : Int32), g6))
    else (
      am_bd (fX12_isLoud a4 g6) fun v9 g10 =>
      if v9 = 0 then (
        some ((-1 : Int32), g10))
      else (
        am_bd (fX12_isWord1 a2 g10) fun v13 g14 =>
        if v13 = 0 then (
          some ((-2 : Int32), g14))
        else (
          am_bd (fX12_isBarred a2 a3 a4 g14) fun v17 g18 =>
          if v17 = 0 then (
            am_bd (fX12_remember (0 : Int32) g18) fun u21 g22 =>
            am_bd (fX12_sayIt a1 a2 a3 a4 g22) fun v24 g25 =>
            some (v24, g25))
          else (
            some ((-3 : Int32), g18))))))
set_option maxRecDepth 100000 in
set_option maxHeartbeats 4000000 in
theorem eX12_sayNow (a1 : Int32) (a2 : Int32) (a3 : Int32) (a4 : Int32) (g : am_G) (r : Int32 × am_G) (h : fX12_sayNow a1 a2 a3 a4 g = some r) : am_Ev zr MX12_sayNow 7 0 [(0, .ref 0), (1, .int a1), (2, .int a2), (3, .int a3), (4, .int a4)] [] g (am_ri r) := by
  unfold fX12_sayNow at h
  refine ev_iload_n 1 dX12_sayNow_0 rfl ?_
  refine ev_i2l dX12_sayNow_1 ?_
  refine ev_lconst dX12_sayNow_2 rfl ?_
  refine ev_ldc2 dX12_sayNow_3 kL_X12_187 ?_
  obtain ⟨v1, g2, e3, h⟩ := am_bd_elim h
  refine ev_callSi (v := v1) [.long a1.toInt64, .long (0 : Int64), .long (5 : Int64)] [] dX12_sayNow_6 (tX12_in e3) (by decide) mo_X12_in kM_X12_183 ks_X12_in (Nat.le_of_ble_eq_true rfl) ?_
  refine ev_if_eq 27 dX12_sayNow_9 (by decide) (fun c4 => ?_) (fun c4 => ?_)
  · replace h := am_ifp c4 h
    refine ev_iconst dX12_sayNow_27 rfl ?_
    cases h
    exact ev_iret dX12_sayNow_28 rfl
  · replace h := am_ifn c4 h
    refine ev_iload_n 3 dX12_sayNow_12 rfl ?_
    obtain ⟨v5, g6, e7, h⟩ := am_bd_elim h
    refine ev_callSi (v := v5) [.int a3] [] dX12_sayNow_13 (tX12_isPlace e7) (by decide) mo_X12_isPlace kM_X12_428 ks_X12_isPlace (Nat.le_of_ble_eq_true rfl) ?_
    refine ev_if_eq 27 dX12_sayNow_16 (by decide) (fun c8 => ?_) (fun c8 => ?_)
    · replace h := am_ifp c8 h
      refine ev_iconst dX12_sayNow_27 rfl ?_
      cases h
      exact ev_iret dX12_sayNow_28 rfl
    · replace h := am_ifn c8 h
      refine ev_iload 4 dX12_sayNow_19 rfl ?_
      obtain ⟨v9, g10, e11, h⟩ := am_bd_elim h
      refine ev_callSi (v := v9) [.int a4] [] dX12_sayNow_21 (tX12_isLoud e11) (by decide) mo_X12_isLoud kM_X12_431 ks_X12_isLoud (Nat.le_of_ble_eq_true rfl) ?_
      refine ev_if_ne 29 dX12_sayNow_24 (by decide) (fun c12 => ?_) (fun c12 => ?_)
      · replace h := am_ifn c12 h
        refine ev_aload_n 0 dX12_sayNow_29 rfl ?_
        refine ev_iload_n 2 dX12_sayNow_30 rfl ?_
        obtain ⟨v13, g14, e15, h⟩ := am_bd_elim h
        refine ev_callVi (v := v13) [.int a2] [] dX12_sayNow_31 (tX12_isWord1 e15) (by decide) mo_X12_isWord1 kM_X12_217 ki_X12_isWord1 kv_X12_isWord1 (fun h9 => (h9.2.1 0 _ rfl).2) (by decide) rfl (Nat.le_of_ble_eq_true rfl) ?_
        refine ev_if_ne 40 dX12_sayNow_34 (by decide) (fun c16 => ?_) (fun c16 => ?_)
        · replace h := am_ifn c16 h
          refine ev_aload_n 0 dX12_sayNow_40 rfl ?_
          refine ev_iload_n 2 dX12_sayNow_41 rfl ?_
          refine ev_iload_n 3 dX12_sayNow_42 rfl ?_
          refine ev_iload 4 dX12_sayNow_43 rfl ?_
          obtain ⟨v17, g18, e19, h⟩ := am_bd_elim h
          refine ev_callVi (v := v17) [.int a2, .int a3, .int a4] [] dX12_sayNow_45 (tX12_isBarred e19) (by decide) mo_X12_isBarred kM_X12_438 ki_X12_isBarred kv_X12_isBarred (fun h9 => (h9.2.1 0 _ rfl).2) (by decide) rfl (Nat.le_of_ble_eq_true rfl) ?_
          refine ev_if_eq 54 dX12_sayNow_48 (by decide) (fun c20 => ?_) (fun c20 => ?_)
          · replace h := am_ifp c20 h
            refine ev_aload_n 0 dX12_sayNow_54 rfl ?_
            refine ev_iconst dX12_sayNow_55 rfl ?_
            obtain ⟨u21, g22, e23, h⟩ := am_bd_elim h
            refine ev_callVv [.int (0 : Int32)] [] dX12_sayNow_56 (tX12_remember e23) (by decide) mo_X12_remember kM_X12_451 ki_X12_remember kv_X12_remember (fun h9 => (h9.2.1 0 _ rfl).2) (by decide) rfl (Nat.le_of_ble_eq_true rfl) ?_
            refine ev_aload_n 0 dX12_sayNow_59 rfl ?_
            refine ev_iload_n 1 dX12_sayNow_60 rfl ?_
            refine ev_iload_n 2 dX12_sayNow_61 rfl ?_
            refine ev_iload_n 3 dX12_sayNow_62 rfl ?_
            refine ev_iload 4 dX12_sayNow_63 rfl ?_
            obtain ⟨v24, g25, e26, h⟩ := am_bd_elim h
            refine ev_callVi (v := v24) [.int a1, .int a2, .int a3, .int a4] [] dX12_sayNow_65 (tX12_sayIt e26) (by decide) mo_X12_sayIt kM_X12_454 ki_X12_sayIt kv_X12_sayIt (fun h9 => (h9.2.1 0 _ rfl).2) (by decide) rfl (Nat.le_of_ble_eq_true rfl) ?_
            cases h
            exact ev_iret dX12_sayNow_68 rfl
          · replace h := am_ifn c20 h
            refine ev_bipush dX12_sayNow_51 rfl ?_
            cases h
            exact ev_iret dX12_sayNow_53 rfl
        · replace h := am_ifp c16 h
          refine ev_bipush dX12_sayNow_37 rfl ?_
          cases h
          exact ev_iret dX12_sayNow_39 rfl
      · replace h := am_ifp c12 h
        refine ev_iconst dX12_sayNow_27 rfl ?_
        cases h
        exact ev_iret dX12_sayNow_28 rfl
theorem tX12_sayNow {a1 : Int32} {a2 : Int32} {a3 : Int32} {a4 : Int32} {g : am_G} {r : Int32 × am_G} (h : fX12_sayNow a1 a2 a3 a4 g = some r) : am_Mt zr MX12_sayNow 7 [.ref 0, .int a1, .int a2, .int a3, .int a4] g (am_ri r) := am_Mt.of rfl (Nat.le_of_ble_eq_true rfl) (eX12_sayNow _ _ _ _ _ _ h)
def fX12_dawnNow (g : am_G) : Option (Int32 × am_G) :=
  am_bd (fX12_day g) fun v1 g2 =>
  if v1 = (999 : Int32) then (
    some ((-3 : Int32), g2))
  else (
    am_bd (fX12_remember (1 : Int32) g2) fun u5 g6 =>
    am_bd (fX12_dawnIt g6) fun v8 g9 =>
    some (v8, g9))
set_option maxRecDepth 100000 in
set_option maxHeartbeats 4000000 in
theorem eX12_dawnNow (g : am_G) (r : Int32 × am_G) (h : fX12_dawnNow g = some r) : am_Ev zr MX12_dawnNow 7 0 [(0, .ref 0)] [] g (am_ri r) := by
  unfold fX12_dawnNow at h
  refine ev_aload_n 0 dX12_dawnNow_0 rfl ?_
  obtain ⟨v1, g2, e3, h⟩ := am_bd_elim h
  refine ev_callVi (v := v1) [] [] dX12_dawnNow_1 (tX12_day e3) (by decide) mo_X12_day kM_X12_413 ki_X12_day kv_X12_day (fun h9 => (h9.2.1 0 _ rfl).2) (by decide) rfl (Nat.le_of_ble_eq_true rfl) ?_
  refine ev_sipush dX12_dawnNow_4 rfl ?_
  refine ev_icmp_ne 13 dX12_dawnNow_7 (by decide) (fun c4 => ?_) (fun c4 => ?_)
  · replace h := am_ifn c4 h
    refine ev_aload_n 0 dX12_dawnNow_13 rfl ?_
    refine ev_iconst dX12_dawnNow_14 rfl ?_
    obtain ⟨u5, g6, e7, h⟩ := am_bd_elim h
    refine ev_callVv [.int (1 : Int32)] [] dX12_dawnNow_15 (tX12_remember e7) (by decide) mo_X12_remember kM_X12_451 ki_X12_remember kv_X12_remember (fun h9 => (h9.2.1 0 _ rfl).2) (by decide) rfl (Nat.le_of_ble_eq_true rfl) ?_
    refine ev_aload_n 0 dX12_dawnNow_18 rfl ?_
    obtain ⟨v8, g9, e10, h⟩ := am_bd_elim h
    refine ev_callVi (v := v8) [] [] dX12_dawnNow_19 (tX12_dawnIt e10) (by decide) mo_X12_dawnIt kM_X12_457 ki_X12_dawnIt kv_X12_dawnIt (fun h9 => (h9.2.1 0 _ rfl).2) (by decide) rfl (Nat.le_of_ble_eq_true rfl) ?_
    cases h
    exact ev_iret dX12_dawnNow_22 rfl
  · replace h := am_ifp c4 h
    refine ev_bipush dX12_dawnNow_10 rfl ?_
    cases h
    exact ev_iret dX12_dawnNow_12 rfl
theorem tX12_dawnNow {g : am_G} {r : Int32 × am_G} (h : fX12_dawnNow g = some r) : am_Mt zr MX12_dawnNow 7 [.ref 0] g (am_ri r) := am_Mt.of rfl (Nat.le_of_ble_eq_true rfl) (eX12_dawnNow _ _ h)
def fX12_say (a1 : Int32) (a2 : Int32) (a3 : Int32) (a4 : Int32) (g : am_G) : Option (Int32 × am_G) :=
  am_let (am_si g 0 0 (0 : Int32)) fun g1 =>
  am_bd (fX12_sayNow a1 a2 a3 a4 g1) fun v2 g3 =>
  am_bd (fX12_tell v2 g3) fun v5 g6 =>
  some (v5, g6)
set_option maxRecDepth 100000 in
set_option maxHeartbeats 4000000 in
theorem eX12_say (a1 : Int32) (a2 : Int32) (a3 : Int32) (a4 : Int32) (g : am_G) (r : Int32 × am_G) (h : fX12_say a1 a2 a3 a4 g = some r) : am_Ev zr MX12_say 8 0 [(0, .ref 0), (1, .int a1), (2, .int a2), (3, .int a3), (4, .int a4)] [] g (am_ri r) := by
  unfold fX12_say at h
  refine ev_aload_n 0 dX12_say_0 rfl ?_
  refine ev_iconst dX12_say_1 rfl ?_
  refine ev_pfi dX12_say_2 (fun h9 => (h9.2.1 0 _ rfl).2) 0 (by decide) (by decide) kF_X12_163 rfl rfl rfl (fun _ => rfl) ?_
  refine am_let_elim (P := fun g1 => am_Ev zr MX12_say 8 5 [(0, .ref 0), (1, .int a1), (2, .int a2), (3, .int a3), (4, .int a4)] [] g1 (am_ri r)) h fun g1 h => ?_
  refine ev_aload_n 0 dX12_say_5 rfl ?_
  refine ev_aload_n 0 dX12_say_6 rfl ?_
  refine ev_iload_n 1 dX12_say_7 rfl ?_
  refine ev_iload_n 2 dX12_say_8 rfl ?_
  refine ev_iload_n 3 dX12_say_9 rfl ?_
  refine ev_iload 4 dX12_say_10 rfl ?_
  obtain ⟨v2, g3, e4, h⟩ := am_bd_elim h
  refine ev_callVi (v := v2) [.int a1, .int a2, .int a3, .int a4] [.ref 0] dX12_say_12 (tX12_sayNow e4) (by decide) mo_X12_sayNow kM_X12_460 ki_X12_sayNow kv_X12_sayNow (fun h9 => (h9.2.1 0 _ rfl).2) (by decide) rfl (Nat.le_of_ble_eq_true rfl) ?_
  obtain ⟨v5, g6, e7, h⟩ := am_bd_elim h
  refine ev_callVi (v := v5) [.int v2] [] dX12_say_15 (tX12_tell e7) (by decide) mo_X12_tell kM_X12_176 ki_X12_tell kv_X12_tell (fun h9 => (h9.2.1 0 _ rfl).2) (by decide) rfl (Nat.le_of_ble_eq_true rfl) ?_
  cases h
  exact ev_iret dX12_say_18 rfl
theorem tX12_say {a1 : Int32} {a2 : Int32} {a3 : Int32} {a4 : Int32} {g : am_G} {r : Int32 × am_G} (h : fX12_say a1 a2 a3 a4 g = some r) : am_Mt zr MX12_say 8 [.ref 0, .int a1, .int a2, .int a3, .int a4] g (am_ri r) := am_Mt.of rfl (Nat.le_of_ble_eq_true rfl) (eX12_say _ _ _ _ _ _ h)
def fX12_dawn (g : am_G) : Option (Int32 × am_G) :=
  am_let (am_si g 0 0 (0 : Int32)) fun g1 =>
  am_bd (fX12_dawnNow g1) fun v2 g3 =>
  am_bd (fX12_tell v2 g3) fun v5 g6 =>
  some (v5, g6)
set_option maxRecDepth 100000 in
set_option maxHeartbeats 4000000 in
theorem eX12_dawn (g : am_G) (r : Int32 × am_G) (h : fX12_dawn g = some r) : am_Ev zr MX12_dawn 8 0 [(0, .ref 0)] [] g (am_ri r) := by
  unfold fX12_dawn at h
  refine ev_aload_n 0 dX12_dawn_0 rfl ?_
  refine ev_iconst dX12_dawn_1 rfl ?_
  refine ev_pfi dX12_dawn_2 (fun h9 => (h9.2.1 0 _ rfl).2) 0 (by decide) (by decide) kF_X12_163 rfl rfl rfl (fun _ => rfl) ?_
  refine am_let_elim (P := fun g1 => am_Ev zr MX12_dawn 8 5 [(0, .ref 0)] [] g1 (am_ri r)) h fun g1 h => ?_
  refine ev_aload_n 0 dX12_dawn_5 rfl ?_
  refine ev_aload_n 0 dX12_dawn_6 rfl ?_
  obtain ⟨v2, g3, e4, h⟩ := am_bd_elim h
  refine ev_callVi (v := v2) [] [.ref 0] dX12_dawn_7 (tX12_dawnNow e4) (by decide) mo_X12_dawnNow kM_X12_463 ki_X12_dawnNow kv_X12_dawnNow (fun h9 => (h9.2.1 0 _ rfl).2) (by decide) rfl (Nat.le_of_ble_eq_true rfl) ?_
  obtain ⟨v5, g6, e7, h⟩ := am_bd_elim h
  refine ev_callVi (v := v5) [.int v2] [] dX12_dawn_10 (tX12_tell e7) (by decide) mo_X12_tell kM_X12_176 ki_X12_tell kv_X12_tell (fun h9 => (h9.2.1 0 _ rfl).2) (by decide) rfl (Nat.le_of_ble_eq_true rfl) ?_
  cases h
  exact ev_iret dX12_dawn_13 rfl
theorem tX12_dawn {g : am_G} {r : Int32 × am_G} (h : fX12_dawn g = some r) : am_Mt zr MX12_dawn 8 [.ref 0] g (am_ri r) := am_Mt.of rfl (Nat.le_of_ble_eq_true rfl) (eX12_dawn _ _ h)
def fX12_common_L4 : Nat → Int32 → Int32 → am_G → Option (Int32 × am_G)
  | 0, _, _, _ => none
  | n + 1, x1, x2, g3 =>
    if x2 = 0 then (
      some (x1, g3))
    else (
      am_gd (!decide (x2 = 0)) <|
      am_let (x1 - x1 / x2 * x2) fun x6 =>
      fX12_common_L4 n x2 x6 g3)
def fX12_common (a0 : Int32) (a1 : Int32) (g : am_G) : Option (Int32 × am_G) :=
  fX12_common_L4 am_fu a0 a1 g
set_option maxRecDepth 100000 in
set_option maxHeartbeats 4000000 in
theorem tfX12_common_L4  : ∀ (n : Nat) (x1 : Int32) (x2 : Int32) (g3 : am_G) (r : Int32 × am_G), fX12_common_L4 n x1 x2 g3 = some r → am_Ev zr MX12_common 0 4 [(2, .int x1), (3, .int x2)] [] g3 (am_ri r) := by
  intro n
  induction n with
  | zero => intro x1 x2 g3 r h; exact nomatch (show (none : Option (Int32 × am_G)) = some r from h)
  | succ n ih =>
    intro x1 x2 g3 r h
    rw [fX12_common_L4] at h
    refine ev_iload_n 1 dX12_common_4 rfl ?_
    refine ev_if_eq 21 dX12_common_5 (by decide) (fun c4 => ?_) (fun c4 => ?_)
    · replace h := am_ifp c4 h
      refine ev_iload_n 0 dX12_common_21 rfl ?_
      cases h
      exact ev_iret dX12_common_22 rfl
    · replace h := am_ifn c4 h
      refine ev_iload_n 0 dX12_common_8 rfl ?_
      refine ev_iload_n 1 dX12_common_9 rfl ?_
      obtain ⟨c5, h⟩ := am_gd_elim h
      refine ev_irem dX12_common_10 (by simpa using c5) ?_
      refine am_let_elim (P := fun x6 => am_Ev zr MX12_common 0 11 [(2, .int x1), (3, .int x2)] [.int x6] g3 (am_ri r)) h fun x6 h => ?_
      refine ev_istore (ls' := [(4, .int x6), (2, .int x1), (3, .int x2)]) dX12_common_11 (by decide) rfl ?_
      refine ev_iload_n 2 dX12_common_13 rfl ?_
      refine ev_istore_n (ls' := [(2, .int x2), (4, .int x6), (3, .int x2)]) dX12_common_14 rfl (by decide) rfl ?_
      refine ev_iload 1 dX12_common_15 rfl ?_
      refine ev_istore_n (ls' := [(3, .int x6), (2, .int x2), (4, .int x6)]) dX12_common_17 rfl (by decide) rfl ?_
      refine ev_goto 4 dX12_common_18 (by decide) ?_
      refine ev_sub [1, 0] rfl ?_
      exact ih _ _ _ _ h
set_option maxRecDepth 100000 in
set_option maxHeartbeats 4000000 in
theorem eX12_common (a0 : Int32) (a1 : Int32) (g : am_G) (r : Int32 × am_G) (h : fX12_common a0 a1 g = some r) : am_Ev zr MX12_common 0 0 [(0, .int a0), (1, .int a1)] [] g (am_ri r) := by
  unfold fX12_common at h
  refine ev_iload_n 0 dX12_common_0 rfl ?_
  refine ev_istore_n (ls' := [(2, .int a0), (0, .int a0), (1, .int a1)]) dX12_common_1 rfl (by decide) rfl ?_
  refine ev_iload_n 2 dX12_common_2 rfl ?_
  refine ev_istore_n (ls' := [(3, .int a1), (2, .int a0), (0, .int a0), (1, .int a1)]) dX12_common_3 rfl (by decide) rfl ?_
  refine ev_sub [1, 0] rfl ?_
  exact tfX12_common_L4 _ _ _ _ _ h
theorem tX12_common {a0 : Int32} {a1 : Int32} {g : am_G} {r : Int32 × am_G} (h : fX12_common a0 a1 g = some r) : am_Mt zr MX12_common 0 [.int a0, .int a1] g (am_ri r) := am_Mt.of rfl (Nat.le_of_ble_eq_true rfl) (eX12_common _ _ _ _ h)
def fX12_share_L42 (k : Int32 → am_G → Option (Int32 × am_G)) (a1 : Int32) (a2 : Int32) (a3 : Int32) : Nat → Int32 → Int32 → am_G → Option (Int32 × am_G)
  | 0, _, _, _ => none
  | n + 1, x14, x15, g16 =>
    if (6 : Int32) ≤ x15 then (
      k x14 g16)
    else (
      am_gd (am_in (((106 : Int32) + ((6 : Int32) * a1)) + x15) 5660) <|
      am_let (x14 + (am_I g16 2 (((106 : Int32) + ((6 : Int32) * a1)) + x15).toNatClampNeg)) fun x21 =>
      am_let (x15 + (1 : Int32)) fun x22 =>
      fX12_share_L42 k a1 a2 a3 n x21 x22 g16)
def fX12_share (a1 : Int32) (a2 : Int32) (a3 : Int32) (g : am_G) : Option (Int32 × am_G) :=
  am_let (am_si g 0 0 (0 : Int32)) fun g1 =>
  am_bd (fX12_isSlope a1 g1) fun v2 g3 =>
  if v2 = 0 then (
    some ((-1 : Int32), g3))
  else (
    am_bd (fX12_in a2.toInt64 (0 : Int64) (5 : Int64) g3) fun v6 g7 =>
    if v6 = 0 then (
      some ((-1 : Int32), g7))
    else (
      am_bd (fX12_in a3.toInt64 (0 : Int64) (1 : Int64) g7) fun v10 g11 =>
      if v10 = 0 then (
        some ((-1 : Int32), g11))
      else (
        fX12_share_L42 (fun (x23 : Int32) (g24 : am_G) =>
          if x23 = 0 then (
            some ((-1 : Int32), g24))
          else (
            am_gd (am_in (((106 : Int32) + ((6 : Int32) * a1)) + a2) 5660) <|
            am_let (am_I g24 2 (((106 : Int32) + ((6 : Int32) * a1)) + a2).toNatClampNeg) fun x27 =>
            am_bd (fX12_common x27 x23 g24) fun v28 g29 =>
            if a3 = 0 then (
              am_gd (!decide (v28 = 0)) <|
              some (x27 / v28, g29))
            else (
              am_gd (!decide (v28 = 0)) <|
              some (x23 / v28, g29)))) a1 a2 a3 am_fu (0 : Int32) (0 : Int32) g11)))
set_option maxRecDepth 100000 in
set_option maxHeartbeats 4000000 in
theorem tfX12_share_L42  {k : Int32 → am_G → Option (Int32 × am_G)} (a1 : Int32) (a2 : Int32) (a3 : Int32) (hk : ∀ (x17 : Int32) (g18 : am_G) (r : Int32 × am_G), k x17 g18 = some r → am_Ev zr MX12_share 2 75 [(0, .ref 0), (1, .int a1), (2, .int a2), (3, .int a3), (4, .int x17)] [] g18 (am_ri r)) : ∀ (n : Nat) (x14 : Int32) (x15 : Int32) (g16 : am_G) (r : Int32 × am_G), fX12_share_L42 k a1 a2 a3 n x14 x15 g16 = some r → am_Ev zr MX12_share 2 42 [(0, .ref 0), (1, .int a1), (2, .int a2), (3, .int a3), (4, .int x14), (5, .int x15)] [] g16 (am_ri r) := by
  intro n
  induction n with
  | zero => intro x14 x15 g16 r h; exact nomatch (show (none : Option (Int32 × am_G)) = some r from h)
  | succ n ih =>
    intro x14 x15 g16 r h
    rw [fX12_share_L42] at h
    refine ev_iload 5 dX12_share_42 rfl ?_
    refine ev_bipush dX12_share_44 rfl ?_
    refine ev_icmp_ge 75 dX12_share_46 (by decide) (fun c19 => ?_) (fun c19 => ?_)
    · replace h := am_ifp c19 h
      refine ev_sub [0, 1, 2, 3, 4] rfl ?_
      exact hk _ _ _ h
    · replace h := am_ifn c19 h
      refine ev_iload 4 dX12_share_49 rfl ?_
      refine ev_aload_n 0 dX12_share_51 rfl ?_
      refine ev_gf (v := .ref 2) dX12_share_52 (fun h9 => (h9.2.1 0 _ rfl).2) 3 (by decide) (by decide) kF_X12_13 (fun h9 => congrArg va_rf (h9.2.2 0 3 2 rfl)) ?_
      refine ev_bipush dX12_share_55 rfl ?_
      refine ev_bipush dX12_share_57 rfl ?_
      refine ev_iload_n 1 dX12_share_59 rfl ?_
      refine ev_imul dX12_share_60 ?_
      refine ev_iadd dX12_share_61 ?_
      refine ev_iload 5 dX12_share_62 rfl ?_
      refine ev_iadd dX12_share_64 ?_
      obtain ⟨c20, h⟩ := am_gd_elim h
      refine ev_iald dX12_share_65 (fun h9 => (h9.2.1 2 _ rfl).2) (am_in_vp c20) ?_
      refine ev_iadd dX12_share_66 ?_
      refine am_let_elim (P := fun x21 => am_Ev zr MX12_share 2 67 [(0, .ref 0), (1, .int a1), (2, .int a2), (3, .int a3), (4, .int x14), (5, .int x15)] [.int x21] g16 (am_ri r)) h fun x21 h => ?_
      refine ev_istore (ls' := [(4, .int x21), (0, .ref 0), (1, .int a1), (2, .int a2), (3, .int a3), (5, .int x15)]) dX12_share_67 (by decide) rfl ?_
      obtain ⟨x22, ex22, h⟩ := am_let_ex h
      refine ev_iinc (ls' := [(5, .int x22), (4, .int x21), (0, .ref 0), (1, .int a1), (2, .int a2), (3, .int a3)]) 5 dX12_share_69 rfl ex22 (by decide) rfl ?_
      refine ev_goto 42 dX12_share_72 (by decide) ?_
      refine ev_sub [2, 3, 4, 5, 1, 0] rfl ?_
      exact ih _ _ _ _ h
set_option maxRecDepth 100000 in
set_option maxHeartbeats 4000000 in
theorem eX12_share (a1 : Int32) (a2 : Int32) (a3 : Int32) (g : am_G) (r : Int32 × am_G) (h : fX12_share a1 a2 a3 g = some r) : am_Ev zr MX12_share 2 0 [(0, .ref 0), (1, .int a1), (2, .int a2), (3, .int a3)] [] g (am_ri r) := by
  unfold fX12_share at h
  refine ev_aload_n 0 dX12_share_0 rfl ?_
  refine ev_iconst dX12_share_1 rfl ?_
  refine ev_pfi dX12_share_2 (fun h9 => (h9.2.1 0 _ rfl).2) 0 (by decide) (by decide) kF_X12_163 rfl rfl rfl (fun _ => rfl) ?_
  refine am_let_elim (P := fun g1 => am_Ev zr MX12_share 2 5 [(0, .ref 0), (1, .int a1), (2, .int a2), (3, .int a3)] [] g1 (am_ri r)) h fun g1 h => ?_
  refine ev_iload_n 1 dX12_share_5 rfl ?_
  obtain ⟨v2, g3, e4, h⟩ := am_bd_elim h
  refine ev_callSi (v := v2) [.int a1] [] dX12_share_6 (tX12_isSlope e4) (by decide) mo_X12_isSlope kM_X12_199 ks_X12_isSlope (Nat.le_of_ble_eq_true rfl) ?_
  refine ev_if_eq 34 dX12_share_9 (by decide) (fun c5 => ?_) (fun c5 => ?_)
  · replace h := am_ifp c5 h
    refine ev_iconst dX12_share_34 rfl ?_
    cases h
    exact ev_iret dX12_share_35 rfl
  · replace h := am_ifn c5 h
    refine ev_iload_n 2 dX12_share_12 rfl ?_
    refine ev_i2l dX12_share_13 ?_
    refine ev_lconst dX12_share_14 rfl ?_
    refine ev_ldc2 dX12_share_15 kL_X12_187 ?_
    obtain ⟨v6, g7, e8, h⟩ := am_bd_elim h
    refine ev_callSi (v := v6) [.long a2.toInt64, .long (0 : Int64), .long (5 : Int64)] [] dX12_share_18 (tX12_in e8) (by decide) mo_X12_in kM_X12_183 ks_X12_in (Nat.le_of_ble_eq_true rfl) ?_
    refine ev_if_eq 34 dX12_share_21 (by decide) (fun c9 => ?_) (fun c9 => ?_)
    · replace h := am_ifp c9 h
      refine ev_iconst dX12_share_34 rfl ?_
      cases h
      exact ev_iret dX12_share_35 rfl
    · replace h := am_ifn c9 h
      refine ev_iload_n 3 dX12_share_24 rfl ?_
      refine ev_i2l dX12_share_25 ?_
      refine ev_lconst dX12_share_26 rfl ?_
      refine ev_lconst dX12_share_27 rfl ?_
      obtain ⟨v10, g11, e12, h⟩ := am_bd_elim h
      refine ev_callSi (v := v10) [.long a3.toInt64, .long (0 : Int64), .long (1 : Int64)] [] dX12_share_28 (tX12_in e12) (by decide) mo_X12_in kM_X12_183 ks_X12_in (Nat.le_of_ble_eq_true rfl) ?_
      refine ev_if_ne 36 dX12_share_31 (by decide) (fun c13 => ?_) (fun c13 => ?_)
      · replace h := am_ifn c13 h
        refine ev_iconst dX12_share_36 rfl ?_
        refine ev_istore (ls' := [(4, .int (0 : Int32)), (0, .ref 0), (1, .int a1), (2, .int a2), (3, .int a3)]) dX12_share_37 (by decide) rfl ?_
        refine ev_iconst dX12_share_39 rfl ?_
        refine ev_istore (ls' := [(5, .int (0 : Int32)), (4, .int (0 : Int32)), (0, .ref 0), (1, .int a1), (2, .int a2), (3, .int a3)]) dX12_share_40 (by decide) rfl ?_
        refine ev_sub [2, 3, 4, 5, 1, 0] rfl ?_
        refine tfX12_share_L42 a1 a2 a3 ?_ _ _ _ _ _ h
        intro x23 g24 r h
        try dsimp only at h
        refine ev_iload 4 dX12_share_75 rfl ?_
        refine ev_if_ne 82 dX12_share_77 (by decide) (fun c25 => ?_) (fun c25 => ?_)
        · replace h := am_ifn c25 h
          refine ev_aload_n 0 dX12_share_82 rfl ?_
          refine ev_gf (v := .ref 2) dX12_share_83 (fun h9 => (h9.2.1 0 _ rfl).2) 3 (by decide) (by decide) kF_X12_13 (fun h9 => congrArg va_rf (h9.2.2 0 3 2 rfl)) ?_
          refine ev_bipush dX12_share_86 rfl ?_
          refine ev_bipush dX12_share_88 rfl ?_
          refine ev_iload_n 1 dX12_share_90 rfl ?_
          refine ev_imul dX12_share_91 ?_
          refine ev_iadd dX12_share_92 ?_
          refine ev_iload_n 2 dX12_share_93 rfl ?_
          refine ev_iadd dX12_share_94 ?_
          obtain ⟨c26, h⟩ := am_gd_elim h
          refine ev_iald dX12_share_95 (fun h9 => (h9.2.1 2 _ rfl).2) (am_in_vp c26) ?_
          refine am_let_elim (P := fun x27 => am_Ev zr MX12_share 2 96 [(0, .ref 0), (1, .int a1), (2, .int a2), (3, .int a3), (4, .int x23)] [.int x27] g24 (am_ri r)) h fun x27 h => ?_
          refine ev_istore (ls' := [(5, .int x27), (0, .ref 0), (1, .int a1), (2, .int a2), (3, .int a3), (4, .int x23)]) dX12_share_96 (by decide) rfl ?_
          refine ev_iload 0 dX12_share_98 rfl ?_
          refine ev_iload 5 dX12_share_100 rfl ?_
          obtain ⟨v28, g29, e30, h⟩ := am_bd_elim h
          refine ev_callSi (v := v28) [.int x27, .int x23] [] dX12_share_102 (tX12_common e30) (by decide) mo_X12_common kM_X12_466 ks_X12_common (Nat.le_of_ble_eq_true rfl) ?_
          refine ev_istore (ls' := [(6, .int v28), (5, .int x27), (0, .ref 0), (1, .int a1), (2, .int a2), (3, .int a3), (4, .int x23)]) dX12_share_105 (by decide) rfl ?_
          refine ev_iload_n 5 dX12_share_107 rfl ?_
          refine ev_if_ne 119 dX12_share_108 (by decide) (fun c31 => ?_) (fun c31 => ?_)
          · replace h := am_ifn c31 h
            refine ev_iload 6 dX12_share_119 rfl ?_
            refine ev_iload 0 dX12_share_121 rfl ?_
            obtain ⟨c32, h⟩ := am_gd_elim h
            refine ev_idiv dX12_share_123 (by simpa using c32) ?_
            cases h
            exact ev_iret dX12_share_124 rfl
          · replace h := am_ifp c31 h
            refine ev_iload 1 dX12_share_111 rfl ?_
            refine ev_iload 0 dX12_share_113 rfl ?_
            obtain ⟨c33, h⟩ := am_gd_elim h
            refine ev_idiv dX12_share_115 (by simpa using c33) ?_
            refine ev_goto 124 dX12_share_116 (by decide) ?_
            cases h
            exact ev_iret dX12_share_124 rfl
        · replace h := am_ifp c25 h
          refine ev_iconst dX12_share_80 rfl ?_
          cases h
          exact ev_iret dX12_share_81 rfl
      · replace h := am_ifp c13 h
        refine ev_iconst dX12_share_34 rfl ?_
        cases h
        exact ev_iret dX12_share_35 rfl
theorem tX12_share {a1 : Int32} {a2 : Int32} {a3 : Int32} {g : am_G} {r : Int32 × am_G} (h : fX12_share a1 a2 a3 g = some r) : am_Mt zr MX12_share 2 [.ref 0, .int a1, .int a2, .int a3] g (am_ri r) := am_Mt.of rfl (Nat.le_of_ble_eq_true rfl) (eX12_share _ _ _ _ _ h)
def fX12_mean (a1 : Int32) (g : am_G) : Option (Int32 × am_G) :=
  am_let (am_si g 0 0 (0 : Int32)) fun g1 =>
  am_bd (fX12_in a1.toInt64 (0 : Int64) (7 : Int64) g1) fun v2 g3 =>
  if v2 = 0 then (
    am_bd (fX12_tell (-1 : Int32) g3) fun v20 g21 =>
    some (v20, g21))
  else (
    am_gd (am_in (1 : Int32) 5660) <|
    am_let (am_I g3 2 (1 : Int32).toNatClampNeg) fun x7 =>
    if x7 = (5 : Int32) then (
      am_bd (fX12_tell (-5 : Int32) g3) fun v17 g18 =>
      some (v17, g18))
    else (
      am_gd (am_in ((206 : Int32) + x7) 5660) <|
      am_let (am_si g3 2 ((206 : Int32) + x7).toNatClampNeg a1) fun g10 =>
      am_gd (am_in (1 : Int32) 5660) <|
      am_gd (am_in (1 : Int32) 5660) <|
      am_let (am_si g10 2 (1 : Int32).toNatClampNeg ((am_I g10 2 (1 : Int32).toNatClampNeg) + (1 : Int32))) fun g13 =>
      am_bd (fX12_tell (x7 + (1 : Int32)) g13) fun v14 g15 =>
      some (v14, g15)))
set_option maxRecDepth 100000 in
set_option maxHeartbeats 4000000 in
theorem eX12_mean (a1 : Int32) (g : am_G) (r : Int32 × am_G) (h : fX12_mean a1 g = some r) : am_Ev zr MX12_mean 1 0 [(0, .ref 0), (1, .int a1)] [] g (am_ri r) := by
  unfold fX12_mean at h
  refine ev_aload_n 0 dX12_mean_0 rfl ?_
  refine ev_iconst dX12_mean_1 rfl ?_
  refine ev_pfi dX12_mean_2 (fun h9 => (h9.2.1 0 _ rfl).2) 0 (by decide) (by decide) kF_X12_163 rfl rfl rfl (fun _ => rfl) ?_
  refine am_let_elim (P := fun g1 => am_Ev zr MX12_mean 1 5 [(0, .ref 0), (1, .int a1)] [] g1 (am_ri r)) h fun g1 h => ?_
  refine ev_iload_n 1 dX12_mean_5 rfl ?_
  refine ev_i2l dX12_mean_6 ?_
  refine ev_lconst dX12_mean_7 rfl ?_
  refine ev_ldc2 dX12_mean_8 kL_X12_195 ?_
  obtain ⟨v2, g3, e4, h⟩ := am_bd_elim h
  refine ev_callSi (v := v2) [.long a1.toInt64, .long (0 : Int64), .long (7 : Int64)] [] dX12_mean_11 (tX12_in e4) (by decide) mo_X12_in kM_X12_183 ks_X12_in (Nat.le_of_ble_eq_true rfl) ?_
  refine ev_if_ne 23 dX12_mean_14 (by decide) (fun c5 => ?_) (fun c5 => ?_)
  · replace h := am_ifn c5 h
    refine ev_aload_n 0 dX12_mean_23 rfl ?_
    refine ev_gf (v := .ref 2) dX12_mean_24 (fun h9 => (h9.2.1 0 _ rfl).2) 3 (by decide) (by decide) kF_X12_13 (fun h9 => congrArg va_rf (h9.2.2 0 3 2 rfl)) ?_
    refine ev_iconst dX12_mean_27 rfl ?_
    obtain ⟨c6, h⟩ := am_gd_elim h
    refine ev_iald dX12_mean_28 (fun h9 => (h9.2.1 2 _ rfl).2) (am_in_vp c6) ?_
    refine am_let_elim (P := fun x7 => am_Ev zr MX12_mean 1 29 [(0, .ref 0), (1, .int a1)] [.int x7] g3 (am_ri r)) h fun x7 h => ?_
    refine ev_istore_n (ls' := [(2, .int x7), (0, .ref 0), (1, .int a1)]) dX12_mean_29 rfl (by decide) rfl ?_
    refine ev_iload_n 0 dX12_mean_30 rfl ?_
    refine ev_iconst dX12_mean_31 rfl ?_
    refine ev_icmp_ne 42 dX12_mean_32 (by decide) (fun c8 => ?_) (fun c8 => ?_)
    · replace h := am_ifn c8 h
      refine ev_aload_n 1 dX12_mean_42 rfl ?_
      refine ev_gf (v := .ref 2) dX12_mean_43 (fun h9 => (h9.2.1 0 _ rfl).2) 3 (by decide) (by decide) kF_X12_13 (fun h9 => congrArg va_rf (h9.2.2 0 3 2 rfl)) ?_
      refine ev_sipush dX12_mean_46 rfl ?_
      refine ev_iload_n 0 dX12_mean_49 rfl ?_
      refine ev_iadd dX12_mean_50 ?_
      refine ev_iload_n 2 dX12_mean_51 rfl ?_
      obtain ⟨c9, h⟩ := am_gd_elim h
      refine ev_iast dX12_mean_52 (fun h9 => (h9.2.1 2 _ rfl).2) (am_in_vp c9) ?_
      refine am_let_elim (P := fun g10 => am_Ev zr MX12_mean 1 53 [(2, .int x7), (0, .ref 0), (1, .int a1)] [] g10 (am_ri r)) h fun g10 h => ?_
      refine ev_aload_n 1 dX12_mean_53 rfl ?_
      refine ev_gf (v := .ref 2) dX12_mean_54 (fun h9 => (h9.2.1 0 _ rfl).2) 3 (by decide) (by decide) kF_X12_13 (fun h9 => congrArg va_rf (h9.2.2 0 3 2 rfl)) ?_
      refine ev_iconst dX12_mean_57 rfl ?_
      refine ev_dup2 dX12_mean_58 rfl rfl ?_
      obtain ⟨c11, h⟩ := am_gd_elim h
      refine ev_iald dX12_mean_59 (fun h9 => (h9.2.1 2 _ rfl).2) (am_in_vp c11) ?_
      refine ev_iconst dX12_mean_60 rfl ?_
      refine ev_iadd dX12_mean_61 ?_
      obtain ⟨c12, h⟩ := am_gd_elim h
      refine ev_iast dX12_mean_62 (fun h9 => (h9.2.1 2 _ rfl).2) (am_in_vp c12) ?_
      refine am_let_elim (P := fun g13 => am_Ev zr MX12_mean 1 63 [(2, .int x7), (0, .ref 0), (1, .int a1)] [] g13 (am_ri r)) h fun g13 h => ?_
      refine ev_aload_n 1 dX12_mean_63 rfl ?_
      refine ev_iload_n 0 dX12_mean_64 rfl ?_
      refine ev_iconst dX12_mean_65 rfl ?_
      refine ev_iadd dX12_mean_66 ?_
      obtain ⟨v14, g15, e16, h⟩ := am_bd_elim h
      refine ev_callVi (v := v14) [.int (x7 + (1 : Int32))] [] dX12_mean_67 (tX12_tell e16) (by decide) mo_X12_tell kM_X12_176 ki_X12_tell kv_X12_tell (fun h9 => (h9.2.1 0 _ rfl).2) (by decide) rfl (Nat.le_of_ble_eq_true rfl) ?_
      cases h
      exact ev_iret dX12_mean_70 rfl
    · replace h := am_ifp c8 h
      refine ev_aload_n 1 dX12_mean_35 rfl ?_
      refine ev_bipush dX12_mean_36 rfl ?_
      obtain ⟨v17, g18, e19, h⟩ := am_bd_elim h
      refine ev_callVi (v := v17) [.int (-5 : Int32)] [] dX12_mean_38 (tX12_tell e19) (by decide) mo_X12_tell kM_X12_176 ki_X12_tell kv_X12_tell (fun h9 => (h9.2.1 0 _ rfl).2) (by decide) rfl (Nat.le_of_ble_eq_true rfl) ?_
      cases h
      exact ev_iret dX12_mean_41 rfl
  · replace h := am_ifp c5 h
    refine ev_aload_n 0 dX12_mean_17 rfl ?_
    refine ev_iconst dX12_mean_18 rfl ?_
    obtain ⟨v20, g21, e22, h⟩ := am_bd_elim h
    refine ev_callVi (v := v20) [.int (-1 : Int32)] [] dX12_mean_19 (tX12_tell e22) (by decide) mo_X12_tell kM_X12_176 ki_X12_tell kv_X12_tell (fun h9 => (h9.2.1 0 _ rfl).2) (by decide) rfl (Nat.le_of_ble_eq_true rfl) ?_
    cases h
    exact ev_iret dX12_mean_22 rfl
theorem tX12_mean {a1 : Int32} {g : am_G} {r : Int32 × am_G} (h : fX12_mean a1 g = some r) : am_Mt zr MX12_mean 1 [.ref 0, .int a1] g (am_ri r) := am_Mt.of rfl (Nat.le_of_ble_eq_true rfl) (eX12_mean _ _ _ h)
def fX12_hush (g : am_G) : Option (Int32 × am_G) :=
  am_let (am_si g 0 0 (0 : Int32)) fun g1 =>
  am_gd (am_in (1 : Int32) 5660) <|
  am_let (am_I g1 2 (1 : Int32).toNatClampNeg) fun x3 =>
  am_gd (am_in (1 : Int32) 5660) <|
  am_let (am_si g1 2 (1 : Int32).toNatClampNeg (0 : Int32)) fun g5 =>
  some (x3, g5)
set_option maxRecDepth 100000 in
set_option maxHeartbeats 4000000 in
theorem eX12_hush (g : am_G) (r : Int32 × am_G) (h : fX12_hush g = some r) : am_Ev zr MX12_hush 0 0 [(0, .ref 0)] [] g (am_ri r) := by
  unfold fX12_hush at h
  refine ev_aload_n 0 dX12_hush_0 rfl ?_
  refine ev_iconst dX12_hush_1 rfl ?_
  refine ev_pfi dX12_hush_2 (fun h9 => (h9.2.1 0 _ rfl).2) 0 (by decide) (by decide) kF_X12_163 rfl rfl rfl (fun _ => rfl) ?_
  refine am_let_elim (P := fun g1 => am_Ev zr MX12_hush 0 5 [(0, .ref 0)] [] g1 (am_ri r)) h fun g1 h => ?_
  refine ev_aload_n 0 dX12_hush_5 rfl ?_
  refine ev_gf (v := .ref 2) dX12_hush_6 (fun h9 => (h9.2.1 0 _ rfl).2) 3 (by decide) (by decide) kF_X12_13 (fun h9 => congrArg va_rf (h9.2.2 0 3 2 rfl)) ?_
  refine ev_iconst dX12_hush_9 rfl ?_
  obtain ⟨c2, h⟩ := am_gd_elim h
  refine ev_iald dX12_hush_10 (fun h9 => (h9.2.1 2 _ rfl).2) (am_in_vp c2) ?_
  refine am_let_elim (P := fun x3 => am_Ev zr MX12_hush 0 11 [(0, .ref 0)] [.int x3] g1 (am_ri r)) h fun x3 h => ?_
  refine ev_istore_n (ls' := [(1, .int x3), (0, .ref 0)]) dX12_hush_11 rfl (by decide) rfl ?_
  refine ev_aload_n 1 dX12_hush_12 rfl ?_
  refine ev_gf (v := .ref 2) dX12_hush_13 (fun h9 => (h9.2.1 0 _ rfl).2) 3 (by decide) (by decide) kF_X12_13 (fun h9 => congrArg va_rf (h9.2.2 0 3 2 rfl)) ?_
  refine ev_iconst dX12_hush_16 rfl ?_
  refine ev_iconst dX12_hush_17 rfl ?_
  obtain ⟨c4, h⟩ := am_gd_elim h
  refine ev_iast dX12_hush_18 (fun h9 => (h9.2.1 2 _ rfl).2) (am_in_vp c4) ?_
  refine am_let_elim (P := fun g5 => am_Ev zr MX12_hush 0 19 [(1, .int x3), (0, .ref 0)] [] g5 (am_ri r)) h fun g5 h => ?_
  refine ev_iload_n 0 dX12_hush_19 rfl ?_
  cases h
  exact ev_iret dX12_hush_20 rfl
theorem tX12_hush {g : am_G} {r : Int32 × am_G} (h : fX12_hush g = some r) : am_Mt zr MX12_hush 0 [.ref 0] g (am_ri r) := am_Mt.of rfl (Nat.le_of_ble_eq_true rfl) (eX12_hush _ _ h)
def fX12_weighSaying_L4 (k : Int32 → am_G → Option (Unit × am_G)) (a1 : Int32) : Nat → Int32 → Int32 → am_G → Option (Unit × am_G)
  | 0, _, _, _ => none
  | n + 1, x1, x2, g3 =>
    if a1 ≤ x2 then (
      k x1 g3)
    else (
      am_gd (am_in x2 5) <|
      am_bd (fX12_ofWord (am_I g3 25 x2.toNatClampNeg) (0 : Int32) g3) fun v8 g9 =>
      am_let (x1 + v8) fun x11 =>
      am_let (x2 + (1 : Int32)) fun x12 =>
      fX12_weighSaying_L4 k a1 n x11 x12 g9)
def fX12_weighSaying_L69 (k : Int32 → am_G → Option (Unit × am_G)) (a1 : Int32) (x13 : Int32) (x16 : Int32) : Nat → Int32 → Int32 → am_G → Option (Unit × am_G)
  | 0, _, _, _ => none
  | n + 1, x28, x29, g30 =>
    if a1 ≤ x29 then (
      k x28 g30)
    else (
      am_gd (am_in x29 5) <|
      am_gd (am_in (((6 : Int32) * (am_I g30 25 x29.toNatClampNeg)) + x16) 96) <|
      am_let (x28 + (am_I g30 23 (((6 : Int32) * (am_I g30 25 x29.toNatClampNeg)) + x16).toNatClampNeg)) fun x36 =>
      am_let (x29 + (1 : Int32)) fun x37 =>
      fX12_weighSaying_L69 k a1 x13 x16 n x36 x37 g30)
def fX12_weighSaying_L40 (k : am_G → Option (Unit × am_G)) (a1 : Int32) (x13 : Int32) : Nat → Int32 → am_G → Option (Unit × am_G)
  | 0, _, _ => none
  | n + 1, x16, g17 =>
    if (6 : Int32) ≤ x16 then (
      k g17)
    else (
      if a1 ≤ 0 then (
        k g17)
      else (
        am_bd (fX12_ofSlope x16 (0 : Int32) g17) fun v21 g22 =>
        am_bd (fX12_ofSlope x16 (8 : Int32) g22) fun v24 g25 =>
        am_let (v21 + v24) fun x27 =>
        fX12_weighSaying_L69 (fun (x38 : Int32) (g39 : am_G) =>
          am_bd (fX12_ofSlope x16 (0 : Int32) g39) fun v40 g41 =>
          am_jn (fun  (g44 : am_G) =>
            am_let (x16 + (1 : Int32)) fun x46 =>
            fX12_weighSaying_L40 k a1 x13 n x46 g44) fun j45 =>
          if v40 ≤ 0 then (
            j45 g41)
          else (
            am_bd (fX12_ofSlope x16 (1 : Int32) g41) fun v47 g48 =>
            if x38 ≤ v47 then (
              j45 g48)
            else (
              some ((), g48)))) a1 x13 x16 am_fu x27 (0 : Int32) g25))
def fX12_weighSaying_L154 (a1 : Int32) (x13 : Int32) : Nat → Int32 → am_G → Option (Unit × am_G)
  | 0, _, _ => none
  | n + 1, x57, g58 =>
    if a1 ≤ x57 then (
      am_let (am_si g58 0 47 x13) fun g60 =>
      some ((), g60))
    else (
      if (am_I g58 0 47) ≤ x13 then (
        am_let (am_si g58 0 47 x13) fun g62 =>
        some ((), g62))
      else (
        am_gd (am_in x57 5) <|
        am_gd (am_in x57 5) <|
        am_let (am_si g58 26 x57.toNatClampNeg (am_I g58 25 x57.toNatClampNeg)) fun g65 =>
        am_let (x57 + (1 : Int32)) fun x66 =>
        fX12_weighSaying_L154 a1 x13 n x66 g65))
def fX12_weighSaying (a1 : Int32) (g : am_G) : Option (Unit × am_G) :=
  fX12_weighSaying_L4 (fun (x13 : Int32) (g14 : am_G) =>
    if x13 ≤ (am_I g14 0 47) then (
      fX12_weighSaying_L40 (fun  (g51 : am_G) =>
        am_jn (fun (x53 : Int32) (g54 : am_G) =>
          am_let (am_si g54 0 48 x53) fun g56 =>
          fX12_weighSaying_L154 a1 x13 am_fu (0 : Int32) g56) fun j55 =>
        if (am_I g51 0 47) ≤ x13 then (
          j55 ((am_I g51 0 48) + (1 : Int32)) g51)
        else (
          j55 (1 : Int32) g51)) a1 x13 am_fu (0 : Int32) g14)
    else (
      some ((), g14))) a1 am_fu (0 : Int32) (0 : Int32) g
set_option maxRecDepth 100000 in
set_option maxHeartbeats 4000000 in
theorem tfX12_weighSaying_L4  {k : Int32 → am_G → Option (Unit × am_G)} (a1 : Int32) (hk : ∀ (x4 : Int32) (g5 : am_G) (r : Unit × am_G), k x4 g5 = some r → am_Ev zr MX12_weighSaying 2 29 [(0, .ref 0), (1, .int a1), (2, .int x4)] [] g5 (am_rv r)) : ∀ (n : Nat) (x1 : Int32) (x2 : Int32) (g3 : am_G) (r : Unit × am_G), fX12_weighSaying_L4 k a1 n x1 x2 g3 = some r → am_Ev zr MX12_weighSaying 2 4 [(0, .ref 0), (1, .int a1), (2, .int x1), (3, .int x2)] [] g3 (am_rv r) := by
  intro n
  induction n with
  | zero => intro x1 x2 g3 r h; exact nomatch (show (none : Option (Unit × am_G)) = some r from h)
  | succ n ih =>
    intro x1 x2 g3 r h
    rw [fX12_weighSaying_L4] at h
    refine ev_iload_n 3 dX12_weighSaying_4 rfl ?_
    refine ev_iload_n 1 dX12_weighSaying_5 rfl ?_
    refine ev_icmp_ge 29 dX12_weighSaying_6 (by decide) (fun c6 => ?_) (fun c6 => ?_)
    · replace h := am_ifp c6 h
      refine ev_sub [0, 1, 2] rfl ?_
      exact hk _ _ _ h
    · replace h := am_ifn c6 h
      refine ev_iload_n 2 dX12_weighSaying_9 rfl ?_
      refine ev_aload_n 0 dX12_weighSaying_10 rfl ?_
      refine ev_aload_n 0 dX12_weighSaying_11 rfl ?_
      refine ev_gf (v := .ref 25) dX12_weighSaying_12 (fun h9 => (h9.2.1 0 _ rfl).2) 45 (by decide) (by decide) kF_X12_126 (fun h9 => congrArg va_rf (h9.2.2 0 45 25 rfl)) ?_
      refine ev_iload_n 3 dX12_weighSaying_15 rfl ?_
      obtain ⟨c7, h⟩ := am_gd_elim h
      refine ev_iald dX12_weighSaying_16 (fun h9 => (h9.2.1 25 _ rfl).2) (am_in_vp c7) ?_
      refine ev_iconst dX12_weighSaying_17 rfl ?_
      obtain ⟨v8, g9, e10, h⟩ := am_bd_elim h
      refine ev_callVi (v := v8) [.int (am_I g3 25 x2.toNatClampNeg), .int (0 : Int32)] [.int x1] dX12_weighSaying_18 (tX12_ofWord e10) (by decide) mo_X12_ofWord kM_X12_220 ki_X12_ofWord kv_X12_ofWord (fun h9 => (h9.2.1 0 _ rfl).2) (by decide) rfl (Nat.le_of_ble_eq_true rfl) ?_
      refine ev_iadd dX12_weighSaying_21 ?_
      refine am_let_elim (P := fun x11 => am_Ev zr MX12_weighSaying 2 22 [(0, .ref 0), (1, .int a1), (2, .int x1), (3, .int x2)] [.int x11] g9 (am_rv r)) h fun x11 h => ?_
      refine ev_istore_n (ls' := [(2, .int x11), (0, .ref 0), (1, .int a1), (3, .int x2)]) dX12_weighSaying_22 rfl (by decide) rfl ?_
      obtain ⟨x12, ex12, h⟩ := am_let_ex h
      refine ev_iinc (ls' := [(3, .int x12), (2, .int x11), (0, .ref 0), (1, .int a1)]) 3 dX12_weighSaying_23 rfl ex12 (by decide) rfl ?_
      refine ev_goto 4 dX12_weighSaying_26 (by decide) ?_
      refine ev_sub [2, 3, 1, 0] rfl ?_
      exact ih _ _ _ _ h
set_option maxRecDepth 100000 in
set_option maxHeartbeats 4000000 in
theorem tfX12_weighSaying_L69  {k : Int32 → am_G → Option (Unit × am_G)} (a1 : Int32) (x13 : Int32) (x16 : Int32) (hk : ∀ (x31 : Int32) (g32 : am_G) (r : Unit × am_G), k x31 g32 = some r → am_Ev zr MX12_weighSaying 2 103 [(0, .ref 0), (1, .int a1), (2, .int x13), (3, .int x16), (4, .int x31)] [] g32 (am_rv r)) : ∀ (n : Nat) (x28 : Int32) (x29 : Int32) (g30 : am_G) (r : Unit × am_G), fX12_weighSaying_L69 k a1 x13 x16 n x28 x29 g30 = some r → am_Ev zr MX12_weighSaying 2 69 [(0, .ref 0), (1, .int a1), (2, .int x13), (3, .int x16), (4, .int x28), (5, .int x29)] [] g30 (am_rv r) := by
  intro n
  induction n with
  | zero => intro x28 x29 g30 r h; exact nomatch (show (none : Option (Unit × am_G)) = some r from h)
  | succ n ih =>
    intro x28 x29 g30 r h
    rw [fX12_weighSaying_L69] at h
    refine ev_iload 5 dX12_weighSaying_69 rfl ?_
    refine ev_iload_n 1 dX12_weighSaying_71 rfl ?_
    refine ev_icmp_ge 103 dX12_weighSaying_72 (by decide) (fun c33 => ?_) (fun c33 => ?_)
    · replace h := am_ifp c33 h
      refine ev_sub [0, 1, 2, 3, 4] rfl ?_
      exact hk _ _ _ h
    · replace h := am_ifn c33 h
      refine ev_iload 4 dX12_weighSaying_75 rfl ?_
      refine ev_aload_n 0 dX12_weighSaying_77 rfl ?_
      refine ev_gf (v := .ref 23) dX12_weighSaying_78 (fun h9 => (h9.2.1 0 _ rfl).2) 43 (by decide) (by decide) kF_X12_120 (fun h9 => congrArg va_rf (h9.2.2 0 43 23 rfl)) ?_
      refine ev_bipush dX12_weighSaying_81 rfl ?_
      refine ev_aload_n 0 dX12_weighSaying_83 rfl ?_
      refine ev_gf (v := .ref 25) dX12_weighSaying_84 (fun h9 => (h9.2.1 0 _ rfl).2) 45 (by decide) (by decide) kF_X12_126 (fun h9 => congrArg va_rf (h9.2.2 0 45 25 rfl)) ?_
      refine ev_iload 5 dX12_weighSaying_87 rfl ?_
      obtain ⟨c34, h⟩ := am_gd_elim h
      refine ev_iald dX12_weighSaying_89 (fun h9 => (h9.2.1 25 _ rfl).2) (am_in_vp c34) ?_
      refine ev_imul dX12_weighSaying_90 ?_
      refine ev_iload_n 3 dX12_weighSaying_91 rfl ?_
      refine ev_iadd dX12_weighSaying_92 ?_
      obtain ⟨c35, h⟩ := am_gd_elim h
      refine ev_iald dX12_weighSaying_93 (fun h9 => (h9.2.1 23 _ rfl).2) (am_in_vp c35) ?_
      refine ev_iadd dX12_weighSaying_94 ?_
      refine am_let_elim (P := fun x36 => am_Ev zr MX12_weighSaying 2 95 [(0, .ref 0), (1, .int a1), (2, .int x13), (3, .int x16), (4, .int x28), (5, .int x29)] [.int x36] g30 (am_rv r)) h fun x36 h => ?_
      refine ev_istore (ls' := [(4, .int x36), (0, .ref 0), (1, .int a1), (2, .int x13), (3, .int x16), (5, .int x29)]) dX12_weighSaying_95 (by decide) rfl ?_
      obtain ⟨x37, ex37, h⟩ := am_let_ex h
      refine ev_iinc (ls' := [(5, .int x37), (4, .int x36), (0, .ref 0), (1, .int a1), (2, .int x13), (3, .int x16)]) 5 dX12_weighSaying_97 rfl ex37 (by decide) rfl ?_
      refine ev_goto 69 dX12_weighSaying_100 (by decide) ?_
      refine ev_sub [2, 3, 4, 5, 1, 0] rfl ?_
      exact ih _ _ _ _ h
set_option maxRecDepth 100000 in
set_option maxHeartbeats 4000000 in
theorem tfX12_weighSaying_L40  {k : am_G → Option (Unit × am_G)} (a1 : Int32) (x13 : Int32) (hk : ∀  (g18 : am_G) (r : Unit × am_G), k  g18 = some r → am_Ev zr MX12_weighSaying 2 130 [(0, .ref 0), (1, .int a1), (2, .int x13)] [] g18 (am_rv r)) : ∀ (n : Nat) (x16 : Int32) (g17 : am_G) (r : Unit × am_G), fX12_weighSaying_L40 k a1 x13 n x16 g17 = some r → am_Ev zr MX12_weighSaying 2 40 [(0, .ref 0), (1, .int a1), (2, .int x13), (3, .int x16)] [] g17 (am_rv r) := by
  intro n
  induction n with
  | zero => intro x16 g17 r h; exact nomatch (show (none : Option (Unit × am_G)) = some r from h)
  | succ n ih =>
    intro x16 g17 r h
    rw [fX12_weighSaying_L40] at h
    refine ev_iload_n 3 dX12_weighSaying_40 rfl ?_
    refine ev_bipush dX12_weighSaying_41 rfl ?_
    refine ev_icmp_ge 130 dX12_weighSaying_43 (by decide) (fun c19 => ?_) (fun c19 => ?_)
    · replace h := am_ifp c19 h
      refine ev_sub [0, 1, 2] rfl ?_
      exact hk  _ _ h
    · replace h := am_ifn c19 h
      refine ev_iload_n 1 dX12_weighSaying_46 rfl ?_
      refine ev_if_le 130 dX12_weighSaying_47 (by decide) (fun c20 => ?_) (fun c20 => ?_)
      · replace h := am_ifp c20 h
        refine ev_sub [0, 1, 2] rfl ?_
        exact hk  _ _ h
      · replace h := am_ifn c20 h
        refine ev_aload_n 0 dX12_weighSaying_50 rfl ?_
        refine ev_iload_n 3 dX12_weighSaying_51 rfl ?_
        refine ev_iconst dX12_weighSaying_52 rfl ?_
        obtain ⟨v21, g22, e23, h⟩ := am_bd_elim h
        refine ev_callVi (v := v21) [.int x16, .int (0 : Int32)] [] dX12_weighSaying_53 (tX12_ofSlope e23) (by decide) mo_X12_ofSlope kM_X12_210 ki_X12_ofSlope kv_X12_ofSlope (fun h9 => (h9.2.1 0 _ rfl).2) (by decide) rfl (Nat.le_of_ble_eq_true rfl) ?_
        refine ev_aload_n 0 dX12_weighSaying_56 rfl ?_
        refine ev_iload_n 3 dX12_weighSaying_57 rfl ?_
        refine ev_bipush dX12_weighSaying_58 rfl ?_
        obtain ⟨v24, g25, e26, h⟩ := am_bd_elim h
        refine ev_callVi (v := v24) [.int x16, .int (8 : Int32)] [.int v21] dX12_weighSaying_60 (tX12_ofSlope e26) (by decide) mo_X12_ofSlope kM_X12_210 ki_X12_ofSlope kv_X12_ofSlope (fun h9 => (h9.2.1 0 _ rfl).2) (by decide) rfl (Nat.le_of_ble_eq_true rfl) ?_
        refine ev_iadd dX12_weighSaying_63 ?_
        refine am_let_elim (P := fun x27 => am_Ev zr MX12_weighSaying 2 64 [(0, .ref 0), (1, .int a1), (2, .int x13), (3, .int x16)] [.int x27] g25 (am_rv r)) h fun x27 h => ?_
        refine ev_istore (ls' := [(4, .int x27), (0, .ref 0), (1, .int a1), (2, .int x13), (3, .int x16)]) dX12_weighSaying_64 (by decide) rfl ?_
        refine ev_iconst dX12_weighSaying_66 rfl ?_
        refine ev_istore (ls' := [(5, .int (0 : Int32)), (4, .int x27), (0, .ref 0), (1, .int a1), (2, .int x13), (3, .int x16)]) dX12_weighSaying_67 (by decide) rfl ?_
        refine ev_sub [2, 3, 4, 5, 1, 0] rfl ?_
        refine tfX12_weighSaying_L69 a1 x13 x16 ?_ _ _ _ _ _ h
        intro x38 g39 r h
        try dsimp only at h
        refine ev_aload_n 0 dX12_weighSaying_103 rfl ?_
        refine ev_iload_n 3 dX12_weighSaying_104 rfl ?_
        refine ev_iconst dX12_weighSaying_105 rfl ?_
        obtain ⟨v40, g41, e42, h⟩ := am_bd_elim h
        refine ev_callVi (v := v40) [.int x16, .int (0 : Int32)] [] dX12_weighSaying_106 (tX12_ofSlope e42) (by decide) mo_X12_ofSlope kM_X12_210 ki_X12_ofSlope kv_X12_ofSlope (fun h9 => (h9.2.1 0 _ rfl).2) (by decide) rfl (Nat.le_of_ble_eq_true rfl) ?_
        refine am_jn_elim (fun q9 => ∀  (g44 : am_G) (r : Unit × am_G), q9  g44 = some r → am_Ev zr MX12_weighSaying 2 124 [(0, .ref 0), (1, .int a1), (2, .int x13), (3, .int x16)] [] g44 (am_rv r)) h ?_ (fun j45 hj45 h => ?_)
        · intro  g44 r h
          try dsimp only at h
          obtain ⟨x46, ex46, h⟩ := am_let_ex h
          refine ev_iinc (ls' := [(3, .int x46), (0, .ref 0), (1, .int a1), (2, .int x13)]) 3 dX12_weighSaying_124 rfl ex46 (by decide) rfl ?_
          refine ev_goto 40 dX12_weighSaying_127 (by decide) ?_
          refine ev_sub [1, 2, 3, 0] rfl ?_
          exact ih _ _ _ h
        · refine ev_if_le 124 dX12_weighSaying_109 (by decide) (fun c43 => ?_) (fun c43 => ?_)
          · replace h := am_ifp c43 h
            refine ev_sub [0, 1, 2, 3] rfl ?_
            exact hj45  _ _ h
          · replace h := am_ifn c43 h
            refine ev_iload 4 dX12_weighSaying_112 rfl ?_
            refine ev_aload_n 0 dX12_weighSaying_114 rfl ?_
            refine ev_iload_n 3 dX12_weighSaying_115 rfl ?_
            refine ev_iconst dX12_weighSaying_116 rfl ?_
            obtain ⟨v47, g48, e49, h⟩ := am_bd_elim h
            refine ev_callVi (v := v47) [.int x16, .int (1 : Int32)] [.int x38] dX12_weighSaying_117 (tX12_ofSlope e49) (by decide) mo_X12_ofSlope kM_X12_210 ki_X12_ofSlope kv_X12_ofSlope (fun h9 => (h9.2.1 0 _ rfl).2) (by decide) rfl (Nat.le_of_ble_eq_true rfl) ?_
            refine ev_icmp_le 124 dX12_weighSaying_120 (by decide) (fun c50 => ?_) (fun c50 => ?_)
            · replace h := am_ifp c50 h
              refine ev_sub [0, 1, 2, 3] rfl ?_
              exact hj45  _ _ h
            · replace h := am_ifn c50 h
              cases h
              exact ev_ret dX12_weighSaying_123 rfl
set_option maxRecDepth 100000 in
set_option maxHeartbeats 4000000 in
theorem tfX12_weighSaying_L154  (a1 : Int32) (x13 : Int32) : ∀ (n : Nat) (x57 : Int32) (g58 : am_G) (r : Unit × am_G), fX12_weighSaying_L154 a1 x13 n x57 g58 = some r → am_Ev zr MX12_weighSaying 2 154 [(0, .ref 0), (1, .int a1), (2, .int x13), (3, .int x57)] [] g58 (am_rv r) := by
  intro n
  induction n with
  | zero => intro x57 g58 r h; exact nomatch (show (none : Option (Unit × am_G)) = some r from h)
  | succ n ih =>
    intro x57 g58 r h
    rw [fX12_weighSaying_L154] at h
    refine ev_iload_n 3 dX12_weighSaying_154 rfl ?_
    refine ev_iload_n 1 dX12_weighSaying_155 rfl ?_
    refine ev_icmp_ge 185 dX12_weighSaying_156 (by decide) (fun c59 => ?_) (fun c59 => ?_)
    · replace h := am_ifp c59 h
      refine ev_aload_n 0 dX12_weighSaying_185 rfl ?_
      refine ev_iload_n 2 dX12_weighSaying_186 rfl ?_
      refine ev_pfi dX12_weighSaying_187 (fun h9 => (h9.2.1 0 _ rfl).2) 47 (by decide) (by decide) kF_X12_469 rfl rfl rfl (fun _ => rfl) ?_
      refine am_let_elim (P := fun g60 => am_Ev zr MX12_weighSaying 2 190 [(0, .ref 0), (1, .int a1), (2, .int x13), (3, .int x57)] [] g60 (am_rv r)) h fun g60 h => ?_
      cases h
      exact ev_ret dX12_weighSaying_190 rfl
    · replace h := am_ifn c59 h
      refine ev_iload_n 2 dX12_weighSaying_159 rfl ?_
      refine ev_aload_n 0 dX12_weighSaying_160 rfl ?_
      refine ev_gf (v := .int (am_I g58 0 47)) dX12_weighSaying_161 (fun h9 => (h9.2.1 0 _ rfl).2) 47 (by decide) (by decide) kF_X12_469 (fun _ => rfl) ?_
      refine ev_icmp_ge 185 dX12_weighSaying_164 (by decide) (fun c61 => ?_) (fun c61 => ?_)
      · replace h := am_ifp c61 h
        refine ev_aload_n 0 dX12_weighSaying_185 rfl ?_
        refine ev_iload_n 2 dX12_weighSaying_186 rfl ?_
        refine ev_pfi dX12_weighSaying_187 (fun h9 => (h9.2.1 0 _ rfl).2) 47 (by decide) (by decide) kF_X12_469 rfl rfl rfl (fun _ => rfl) ?_
        refine am_let_elim (P := fun g62 => am_Ev zr MX12_weighSaying 2 190 [(0, .ref 0), (1, .int a1), (2, .int x13), (3, .int x57)] [] g62 (am_rv r)) h fun g62 h => ?_
        cases h
        exact ev_ret dX12_weighSaying_190 rfl
      · replace h := am_ifn c61 h
        refine ev_aload_n 0 dX12_weighSaying_167 rfl ?_
        refine ev_gf (v := .ref 26) dX12_weighSaying_168 (fun h9 => (h9.2.1 0 _ rfl).2) 46 (by decide) (by decide) kF_X12_129 (fun h9 => congrArg va_rf (h9.2.2 0 46 26 rfl)) ?_
        refine ev_iload_n 3 dX12_weighSaying_171 rfl ?_
        refine ev_aload_n 0 dX12_weighSaying_172 rfl ?_
        refine ev_gf (v := .ref 25) dX12_weighSaying_173 (fun h9 => (h9.2.1 0 _ rfl).2) 45 (by decide) (by decide) kF_X12_126 (fun h9 => congrArg va_rf (h9.2.2 0 45 25 rfl)) ?_
        refine ev_iload_n 3 dX12_weighSaying_176 rfl ?_
        obtain ⟨c63, h⟩ := am_gd_elim h
        refine ev_iald dX12_weighSaying_177 (fun h9 => (h9.2.1 25 _ rfl).2) (am_in_vp c63) ?_
        obtain ⟨c64, h⟩ := am_gd_elim h
        refine ev_iast dX12_weighSaying_178 (fun h9 => (h9.2.1 26 _ rfl).2) (am_in_vp c64) ?_
        refine am_let_elim (P := fun g65 => am_Ev zr MX12_weighSaying 2 179 [(0, .ref 0), (1, .int a1), (2, .int x13), (3, .int x57)] [] g65 (am_rv r)) h fun g65 h => ?_
        obtain ⟨x66, ex66, h⟩ := am_let_ex h
        refine ev_iinc (ls' := [(3, .int x66), (0, .ref 0), (1, .int a1), (2, .int x13)]) 3 dX12_weighSaying_179 rfl ex66 (by decide) rfl ?_
        refine ev_goto 154 dX12_weighSaying_182 (by decide) ?_
        refine ev_sub [1, 2, 3, 0] rfl ?_
        exact ih _ _ _ h
set_option maxRecDepth 100000 in
set_option maxHeartbeats 4000000 in
theorem eX12_weighSaying (a1 : Int32) (g : am_G) (r : Unit × am_G) (h : fX12_weighSaying a1 g = some r) : am_Ev zr MX12_weighSaying 2 0 [(0, .ref 0), (1, .int a1)] [] g (am_rv r) := by
  unfold fX12_weighSaying at h
  refine ev_iconst dX12_weighSaying_0 rfl ?_
  refine ev_istore_n (ls' := [(2, .int (0 : Int32)), (0, .ref 0), (1, .int a1)]) dX12_weighSaying_1 rfl (by decide) rfl ?_
  refine ev_iconst dX12_weighSaying_2 rfl ?_
  refine ev_istore_n (ls' := [(3, .int (0 : Int32)), (2, .int (0 : Int32)), (0, .ref 0), (1, .int a1)]) dX12_weighSaying_3 rfl (by decide) rfl ?_
  refine ev_sub [2, 3, 1, 0] rfl ?_
  refine tfX12_weighSaying_L4 a1 ?_ _ _ _ _ _ h
  intro x13 g14 r h
  try dsimp only at h
  refine ev_iload_n 2 dX12_weighSaying_29 rfl ?_
  refine ev_aload_n 0 dX12_weighSaying_30 rfl ?_
  refine ev_gf (v := .int (am_I g14 0 47)) dX12_weighSaying_31 (fun h9 => (h9.2.1 0 _ rfl).2) 47 (by decide) (by decide) kF_X12_469 (fun _ => rfl) ?_
  refine ev_icmp_le 38 dX12_weighSaying_34 (by decide) (fun c15 => ?_) (fun c15 => ?_)
  · replace h := am_ifp c15 h
    refine ev_iconst dX12_weighSaying_38 rfl ?_
    refine ev_istore_n (ls' := [(3, .int (0 : Int32)), (0, .ref 0), (1, .int a1), (2, .int x13)]) dX12_weighSaying_39 rfl (by decide) rfl ?_
    refine ev_sub [1, 2, 3, 0] rfl ?_
    refine tfX12_weighSaying_L40 a1 x13 ?_ _ _ _ _ h
    intro  g51 r h
    try dsimp only at h
    refine ev_aload_n 0 dX12_weighSaying_130 rfl ?_
    refine ev_iload_n 2 dX12_weighSaying_131 rfl ?_
    refine ev_aload_n 0 dX12_weighSaying_132 rfl ?_
    refine ev_gf (v := .int (am_I g51 0 47)) dX12_weighSaying_133 (fun h9 => (h9.2.1 0 _ rfl).2) 47 (by decide) (by decide) kF_X12_469 (fun _ => rfl) ?_
    refine am_jn_elim (fun q9 => ∀ (x53 : Int32) (g54 : am_G) (r : Unit × am_G), q9 x53 g54 = some r → am_Ev zr MX12_weighSaying 2 149 [(0, .ref 0), (1, .int a1), (2, .int x13)] [.int x53, .ref 0] g54 (am_rv r)) h ?_ (fun j55 hj55 h => ?_)
    · intro x53 g54 r h
      try dsimp only at h
      refine ev_pfi dX12_weighSaying_149 (fun h9 => (h9.2.1 0 _ rfl).2) 48 (by decide) (by decide) kF_X12_472 rfl rfl rfl (fun _ => rfl) ?_
      refine am_let_elim (P := fun g56 => am_Ev zr MX12_weighSaying 2 152 [(0, .ref 0), (1, .int a1), (2, .int x13)] [] g56 (am_rv r)) h fun g56 h => ?_
      refine ev_iconst dX12_weighSaying_152 rfl ?_
      refine ev_istore_n (ls' := [(3, .int (0 : Int32)), (0, .ref 0), (1, .int a1), (2, .int x13)]) dX12_weighSaying_153 rfl (by decide) rfl ?_
      refine ev_sub [1, 2, 3, 0] rfl ?_
      exact tfX12_weighSaying_L154 a1 x13 _ _ _ _ h
    · refine ev_icmp_ge 143 dX12_weighSaying_136 (by decide) (fun c52 => ?_) (fun c52 => ?_)
      · replace h := am_ifp c52 h
        refine ev_aload_n 0 dX12_weighSaying_143 rfl ?_
        refine ev_gf (v := .int (am_I g51 0 48)) dX12_weighSaying_144 (fun h9 => (h9.2.1 0 _ rfl).2) 48 (by decide) (by decide) kF_X12_472 (fun _ => rfl) ?_
        refine ev_iconst dX12_weighSaying_147 rfl ?_
        refine ev_iadd dX12_weighSaying_148 ?_
        refine ev_sub [0, 1, 2] rfl ?_
        exact hj55 _ _ _ h
      · replace h := am_ifn c52 h
        refine ev_iconst dX12_weighSaying_139 rfl ?_
        refine ev_goto 149 dX12_weighSaying_140 (by decide) ?_
        refine ev_sub [0, 1, 2] rfl ?_
        exact hj55 _ _ _ h
  · replace h := am_ifn c15 h
    cases h
    exact ev_ret dX12_weighSaying_37 rfl
theorem tX12_weighSaying {a1 : Int32} {g : am_G} {r : Unit × am_G} (h : fX12_weighSaying a1 g = some r) : am_Mt zr MX12_weighSaying 2 [.ref 0, .int a1] g (am_rv r) := am_Mt.of rfl (Nat.le_of_ble_eq_true rfl) (eX12_weighSaying _ _ _ h)
/-- more rounds than 16 words in 5 places need -/
def am_fv : Nat := 2097152
def fX12_findSaying_L47 (k : am_G → Option (Unit × am_G)) (a1 : Int32) (a2 : Int32) (x2 : Int32) (x3 : Int32) : Nat → Int32 → am_G → Option (Unit × am_G)
  | 0, _, _ => none
  | n + 1, x18, g19 =>
    if (6 : Int32) ≤ x18 then (
      k g19)
    else (
      am_bd (fX12_shakesOf x3 a1 a2 x18 g19) fun v22 g23 =>
      am_gd (am_in (((6 : Int32) * x3) + x18) 96) <|
      am_let (am_si g23 23 (((6 : Int32) * x3) + x18).toNatClampNeg v22) fun g26 =>
      am_let (x18 + (1 : Int32)) fun x27 =>
      fX12_findSaying_L47 k a1 a2 x2 x3 n x27 g26)
def fX12_findSaying_L10 (k : am_G → Option (Unit × am_G)) (a1 : Int32) (a2 : Int32) (x2 : Int32) : Nat → Int32 → am_G → Option (Unit × am_G)
  | 0, _, _ => none
  | n + 1, x3, g4 =>
    am_gd (am_in (0 : Int32) 5660) <|
    if (am_I g4 2 (0 : Int32).toNatClampNeg) ≤ x3 then (
      k g4)
    else (
      am_bd (fX12_isBarred x3 a1 a2 g4) fun v8 g9 =>
      am_jn (fun (x12 : Int32) (g13 : am_G) =>
        am_gd (am_in x3 16) <|
        am_gd (am_zb x12) <|
        am_let (am_si g13 24 x3.toNatClampNeg x12) fun g17 =>
        fX12_findSaying_L47 (fun  (g28 : am_G) =>
          am_let (x3 + (1 : Int32)) fun x29 =>
          fX12_findSaying_L10 k a1 a2 x2 n x29 g28) a1 a2 x2 x3 am_fu (0 : Int32) g17) fun j14 =>
      if v8 = 0 then (
        j14 (1 : Int32) g9)
      else (
        j14 (0 : Int32) g9))
def fX12_findSaying_L121 (x2 : Int32) : Nat → Int32 → am_G → Option (Unit × am_G)
  | 0, _, _ => none
  | n + 1, x36, g37 =>
    if x36 < 0 then (
      some ((), g37))
    else (
      am_gd (am_in x36 5) <|
      am_gd (am_in x36 5) <|
      am_let (am_si g37 25 x36.toNatClampNeg ((am_I g37 25 x36.toNatClampNeg) + (1 : Int32))) fun g41 =>
      am_gd (am_in x36 5) <|
      am_let (am_I g41 25 x36.toNatClampNeg) fun x43 =>
      am_gd (am_in (0 : Int32) 5660) <|
      am_jn (fun (x46 : Int32) (g47 : am_G) =>
        fX12_findSaying_L121 x2 n x46 g47) fun j48 =>
      if x43 = (am_I g41 2 (0 : Int32).toNatClampNeg) then (
        am_let (x36 + (-1 : Int32)) fun x63 =>
        j48 x63 g41)
      else (
        am_gd (am_in x43 16) <|
        if (am_I g41 24 x43.toNatClampNeg) = 0 then (
          j48 x36 g41)
        else (
          am_bd (fX12_ofWord x43 (2 : Int32) g41) fun v51 g52 =>
          am_gd (am_in ((206 : Int32) + x36) 5660) <|
          if v51 = (am_I g52 2 ((206 : Int32) + x36).toNatClampNeg) then (
            if x36 = (x2 - (1 : Int32)) then (
              am_bd (fX12_weighSaying x2 g52) fun u60 g61 =>
              j48 x36 g61)
            else (
              am_let (x36 + (1 : Int32)) fun x57 =>
              am_gd (am_in x57 5) <|
              am_let (am_si g52 25 x57.toNatClampNeg (-1 : Int32)) fun g59 =>
              j48 x57 g59))
          else (
            j48 x36 g52))))
def fX12_findSaying (a1 : Int32) (a2 : Int32) (g : am_G) : Option (Unit × am_G) :=
  am_gd (am_in (1 : Int32) 5660) <|
  am_let (am_I g 2 (1 : Int32).toNatClampNeg) fun x2 =>
  fX12_findSaying_L10 (fun  (g30 : am_G) =>
    am_let (am_si g30 0 47 (100000000 : Int32)) fun g31 =>
    am_let (am_si g31 0 48 (0 : Int32)) fun g32 =>
    if x2 = 0 then (
      am_bd (fX12_weighSaying (0 : Int32) g32) fun u64 g65 =>
      some ((), g65))
    else (
      am_gd (am_in (0 : Int32) 5) <|
      am_let (am_si g32 25 (0 : Int32).toNatClampNeg (-1 : Int32)) fun g35 =>
      fX12_findSaying_L121 x2 am_fv (0 : Int32) g35)) a1 a2 x2 am_fu (0 : Int32) g
set_option maxRecDepth 100000 in
set_option maxHeartbeats 4000000 in
theorem tfX12_findSaying_L47  {k : am_G → Option (Unit × am_G)} (a1 : Int32) (a2 : Int32) (x2 : Int32) (x3 : Int32) (hk : ∀  (g20 : am_G) (r : Unit × am_G), k  g20 = some r → am_Ev zr MX12_findSaying 6 83 [(0, .ref 0), (1, .int a1), (2, .int a2), (3, .int x2), (4, .int x3)] [] g20 (am_rv r)) : ∀ (n : Nat) (x18 : Int32) (g19 : am_G) (r : Unit × am_G), fX12_findSaying_L47 k a1 a2 x2 x3 n x18 g19 = some r → am_Ev zr MX12_findSaying 6 47 [(0, .ref 0), (1, .int a1), (2, .int a2), (3, .int x2), (4, .int x3), (5, .int x18)] [] g19 (am_rv r) := by
  intro n
  induction n with
  | zero => intro x18 g19 r h; exact nomatch (show (none : Option (Unit × am_G)) = some r from h)
  | succ n ih =>
    intro x18 g19 r h
    rw [fX12_findSaying_L47] at h
    refine ev_iload 5 dX12_findSaying_47 rfl ?_
    refine ev_bipush dX12_findSaying_49 rfl ?_
    refine ev_icmp_ge 83 dX12_findSaying_51 (by decide) (fun c21 => ?_) (fun c21 => ?_)
    · replace h := am_ifp c21 h
      refine ev_sub [0, 1, 2, 3, 4] rfl ?_
      exact hk  _ _ h
    · replace h := am_ifn c21 h
      refine ev_aload_n 0 dX12_findSaying_54 rfl ?_
      refine ev_gf (v := .ref 23) dX12_findSaying_55 (fun h9 => (h9.2.1 0 _ rfl).2) 43 (by decide) (by decide) kF_X12_120 (fun h9 => congrArg va_rf (h9.2.2 0 43 23 rfl)) ?_
      refine ev_bipush dX12_findSaying_58 rfl ?_
      refine ev_iload 4 dX12_findSaying_60 rfl ?_
      refine ev_imul dX12_findSaying_62 ?_
      refine ev_iload 5 dX12_findSaying_63 rfl ?_
      refine ev_iadd dX12_findSaying_65 ?_
      refine ev_aload_n 0 dX12_findSaying_66 rfl ?_
      refine ev_iload 4 dX12_findSaying_67 rfl ?_
      refine ev_iload_n 1 dX12_findSaying_69 rfl ?_
      refine ev_iload_n 2 dX12_findSaying_70 rfl ?_
      refine ev_iload 5 dX12_findSaying_71 rfl ?_
      obtain ⟨v22, g23, e24, h⟩ := am_bd_elim h
      refine ev_callVi (v := v22) [.int x3, .int a1, .int a2, .int x18] [.int (((6 : Int32) * x3) + x18), .ref 23] dX12_findSaying_73 (tX12_shakesOf e24) (by decide) mo_X12_shakesOf kM_X12_434 ki_X12_shakesOf kv_X12_shakesOf (fun h9 => (h9.2.1 0 _ rfl).2) (by decide) rfl (Nat.le_of_ble_eq_true rfl) ?_
      obtain ⟨c25, h⟩ := am_gd_elim h
      refine ev_iast dX12_findSaying_76 (fun h9 => (h9.2.1 23 _ rfl).2) (am_in_vp c25) ?_
      refine am_let_elim (P := fun g26 => am_Ev zr MX12_findSaying 6 77 [(0, .ref 0), (1, .int a1), (2, .int a2), (3, .int x2), (4, .int x3), (5, .int x18)] [] g26 (am_rv r)) h fun g26 h => ?_
      obtain ⟨x27, ex27, h⟩ := am_let_ex h
      refine ev_iinc (ls' := [(5, .int x27), (0, .ref 0), (1, .int a1), (2, .int a2), (3, .int x2), (4, .int x3)]) 5 dX12_findSaying_77 rfl ex27 (by decide) rfl ?_
      refine ev_goto 47 dX12_findSaying_80 (by decide) ?_
      refine ev_sub [1, 2, 3, 4, 5, 0] rfl ?_
      exact ih _ _ _ h
set_option maxRecDepth 100000 in
set_option maxHeartbeats 4000000 in
theorem tfX12_findSaying_L10  {k : am_G → Option (Unit × am_G)} (a1 : Int32) (a2 : Int32) (x2 : Int32) (hk : ∀  (g5 : am_G) (r : Unit × am_G), k  g5 = some r → am_Ev zr MX12_findSaying 6 89 [(0, .ref 0), (3, .int x2)] [] g5 (am_rv r)) : ∀ (n : Nat) (x3 : Int32) (g4 : am_G) (r : Unit × am_G), fX12_findSaying_L10 k a1 a2 x2 n x3 g4 = some r → am_Ev zr MX12_findSaying 6 10 [(0, .ref 0), (1, .int a1), (2, .int a2), (3, .int x2), (4, .int x3)] [] g4 (am_rv r) := by
  intro n
  induction n with
  | zero => intro x3 g4 r h; exact nomatch (show (none : Option (Unit × am_G)) = some r from h)
  | succ n ih =>
    intro x3 g4 r h
    rw [fX12_findSaying_L10] at h
    refine ev_iload 4 dX12_findSaying_10 rfl ?_
    refine ev_aload_n 0 dX12_findSaying_12 rfl ?_
    refine ev_gf (v := .ref 2) dX12_findSaying_13 (fun h9 => (h9.2.1 0 _ rfl).2) 3 (by decide) (by decide) kF_X12_13 (fun h9 => congrArg va_rf (h9.2.2 0 3 2 rfl)) ?_
    refine ev_iconst dX12_findSaying_16 rfl ?_
    obtain ⟨c6, h⟩ := am_gd_elim h
    refine ev_iald dX12_findSaying_17 (fun h9 => (h9.2.1 2 _ rfl).2) (am_in_vp c6) ?_
    refine ev_icmp_ge 89 dX12_findSaying_18 (by decide) (fun c7 => ?_) (fun c7 => ?_)
    · replace h := am_ifp c7 h
      refine ev_sub [0, 3] rfl ?_
      exact hk  _ _ h
    · replace h := am_ifn c7 h
      refine ev_aload_n 0 dX12_findSaying_21 rfl ?_
      refine ev_gf (v := .ref 24) dX12_findSaying_22 (fun h9 => (h9.2.1 0 _ rfl).2) 44 (by decide) (by decide) kF_X12_123 (fun h9 => congrArg va_rf (h9.2.2 0 44 24 rfl)) ?_
      refine ev_iload 4 dX12_findSaying_25 rfl ?_
      refine ev_aload_n 0 dX12_findSaying_27 rfl ?_
      refine ev_iload 4 dX12_findSaying_28 rfl ?_
      refine ev_iload_n 1 dX12_findSaying_30 rfl ?_
      refine ev_iload_n 2 dX12_findSaying_31 rfl ?_
      obtain ⟨v8, g9, e10, h⟩ := am_bd_elim h
      refine ev_callVi (v := v8) [.int x3, .int a1, .int a2] [.int x3, .ref 24] dX12_findSaying_32 (tX12_isBarred e10) (by decide) mo_X12_isBarred kM_X12_438 ki_X12_isBarred kv_X12_isBarred (fun h9 => (h9.2.1 0 _ rfl).2) (by decide) rfl (Nat.le_of_ble_eq_true rfl) ?_
      refine am_jn_elim (fun q9 => ∀ (x12 : Int32) (g13 : am_G) (r : Unit × am_G), q9 x12 g13 = some r → am_Ev zr MX12_findSaying 6 43 [(0, .ref 0), (1, .int a1), (2, .int a2), (3, .int x2), (4, .int x3)] [.int x12, .int x3, .ref 24] g13 (am_rv r)) h ?_ (fun j14 hj14 h => ?_)
      · intro x12 g13 r h
        try dsimp only at h
        obtain ⟨c15, h⟩ := am_gd_elim h
        obtain ⟨c16, h⟩ := am_gd_elim h
        refine ev_zast' dX12_findSaying_43 (fun h9 => (h9.2.1 24 _ rfl).2) c16 (am_in_vp c15) ?_
        refine am_let_elim (P := fun g17 => am_Ev zr MX12_findSaying 6 44 [(0, .ref 0), (1, .int a1), (2, .int a2), (3, .int x2), (4, .int x3)] [] g17 (am_rv r)) h fun g17 h => ?_
        refine ev_iconst dX12_findSaying_44 rfl ?_
        refine ev_istore (ls' := [(5, .int (0 : Int32)), (0, .ref 0), (1, .int a1), (2, .int a2), (3, .int x2), (4, .int x3)]) dX12_findSaying_45 (by decide) rfl ?_
        refine ev_sub [1, 2, 3, 4, 5, 0] rfl ?_
        refine tfX12_findSaying_L47 a1 a2 x2 x3 ?_ _ _ _ _ h
        intro  g28 r h
        try dsimp only at h
        obtain ⟨x29, ex29, h⟩ := am_let_ex h
        refine ev_iinc (ls' := [(4, .int x29), (0, .ref 0), (1, .int a1), (2, .int a2), (3, .int x2)]) 4 dX12_findSaying_83 rfl ex29 (by decide) rfl ?_
        refine ev_goto 10 dX12_findSaying_86 (by decide) ?_
        refine ev_sub [1, 2, 3, 4, 0] rfl ?_
        exact ih _ _ _ h
      · refine ev_if_ne 42 dX12_findSaying_35 (by decide) (fun c11 => ?_) (fun c11 => ?_)
        · replace h := am_ifn c11 h
          refine ev_iconst dX12_findSaying_42 rfl ?_
          refine ev_sub [0, 1, 2, 3, 4] rfl ?_
          exact hj14 _ _ _ h
        · replace h := am_ifp c11 h
          refine ev_iconst dX12_findSaying_38 rfl ?_
          refine ev_goto 43 dX12_findSaying_39 (by decide) ?_
          refine ev_sub [0, 1, 2, 3, 4] rfl ?_
          exact hj14 _ _ _ h
set_option maxRecDepth 100000 in
set_option maxHeartbeats 4000000 in
theorem tfX12_findSaying_L121  (x2 : Int32) : ∀ (n : Nat) (x36 : Int32) (g37 : am_G) (r : Unit × am_G), fX12_findSaying_L121 x2 n x36 g37 = some r → am_Ev zr MX12_findSaying 6 121 [(0, .ref 0), (3, .int x2), (4, .int x36)] [] g37 (am_rv r) := by
  intro n
  induction n with
  | zero => intro x36 g37 r h; exact nomatch (show (none : Option (Unit × am_G)) = some r from h)
  | succ n ih =>
    intro x36 g37 r h
    rw [fX12_findSaying_L121] at h
    refine ev_iload 2 dX12_findSaying_121 rfl ?_
    refine ev_if_lt 224 dX12_findSaying_123 (by decide) (fun c38 => ?_) (fun c38 => ?_)
    · replace h := am_ifp c38 h
      cases h
      exact ev_ret dX12_findSaying_224 rfl
    · replace h := am_ifn c38 h
      refine ev_aload_n 0 dX12_findSaying_126 rfl ?_
      refine ev_gf (v := .ref 25) dX12_findSaying_127 (fun h9 => (h9.2.1 0 _ rfl).2) 45 (by decide) (by decide) kF_X12_126 (fun h9 => congrArg va_rf (h9.2.2 0 45 25 rfl)) ?_
      refine ev_iload 2 dX12_findSaying_130 rfl ?_
      refine ev_dup2 dX12_findSaying_132 rfl rfl ?_
      obtain ⟨c39, h⟩ := am_gd_elim h
      refine ev_iald dX12_findSaying_133 (fun h9 => (h9.2.1 25 _ rfl).2) (am_in_vp c39) ?_
      refine ev_iconst dX12_findSaying_134 rfl ?_
      refine ev_iadd dX12_findSaying_135 ?_
      obtain ⟨c40, h⟩ := am_gd_elim h
      refine ev_iast dX12_findSaying_136 (fun h9 => (h9.2.1 25 _ rfl).2) (am_in_vp c40) ?_
      refine am_let_elim (P := fun g41 => am_Ev zr MX12_findSaying 6 137 [(0, .ref 0), (3, .int x2), (4, .int x36)] [] g41 (am_rv r)) h fun g41 h => ?_
      refine ev_aload_n 0 dX12_findSaying_137 rfl ?_
      refine ev_gf (v := .ref 25) dX12_findSaying_138 (fun h9 => (h9.2.1 0 _ rfl).2) 45 (by decide) (by decide) kF_X12_126 (fun h9 => congrArg va_rf (h9.2.2 0 45 25 rfl)) ?_
      refine ev_iload 2 dX12_findSaying_141 rfl ?_
      obtain ⟨c42, h⟩ := am_gd_elim h
      refine ev_iald dX12_findSaying_143 (fun h9 => (h9.2.1 25 _ rfl).2) (am_in_vp c42) ?_
      refine am_let_elim (P := fun x43 => am_Ev zr MX12_findSaying 6 144 [(0, .ref 0), (3, .int x2), (4, .int x36)] [.int x43] g41 (am_rv r)) h fun x43 h => ?_
      refine ev_istore (ls' := [(5, .int x43), (0, .ref 0), (3, .int x2), (4, .int x36)]) dX12_findSaying_144 (by decide) rfl ?_
      refine ev_iload 0 dX12_findSaying_146 rfl ?_
      refine ev_aload_n 1 dX12_findSaying_148 rfl ?_
      refine ev_gf (v := .ref 2) dX12_findSaying_149 (fun h9 => (h9.2.1 0 _ rfl).2) 3 (by decide) (by decide) kF_X12_13 (fun h9 => congrArg va_rf (h9.2.2 0 3 2 rfl)) ?_
      refine ev_iconst dX12_findSaying_152 rfl ?_
      obtain ⟨c44, h⟩ := am_gd_elim h
      refine ev_iald dX12_findSaying_153 (fun h9 => (h9.2.1 2 _ rfl).2) (am_in_vp c44) ?_
      refine am_jn_elim (fun q9 => ∀ (x46 : Int32) (g47 : am_G) (r : Unit × am_G), q9 x46 g47 = some r → am_Ev zr MX12_findSaying 6 221 [(0, .ref 0), (3, .int x2), (4, .int x46)] [] g47 (am_rv r)) h ?_ (fun j48 hj48 h => ?_)
      · intro x46 g47 r h
        try dsimp only at h
        refine ev_goto 121 dX12_findSaying_221 (by decide) ?_
        refine ev_sub [0, 1, 2] rfl ?_
        exact ih _ _ _ h
      · refine ev_icmp_ne 163 dX12_findSaying_154 (by decide) (fun c45 => ?_) (fun c45 => ?_)
        · replace h := am_ifn c45 h
          refine ev_aload_n 1 dX12_findSaying_163 rfl ?_
          refine ev_gf (v := .ref 24) dX12_findSaying_164 (fun h9 => (h9.2.1 0 _ rfl).2) 44 (by decide) (by decide) kF_X12_123 (fun h9 => congrArg va_rf (h9.2.2 0 44 24 rfl)) ?_
          refine ev_iload 0 dX12_findSaying_167 rfl ?_
          obtain ⟨c49, h⟩ := am_gd_elim h
          refine ev_zald dX12_findSaying_169 (fun h9 => (h9.2.1 24 _ rfl).2) (am_in_vp c49) ?_
          refine ev_if_eq 221 dX12_findSaying_170 (by decide) (fun c50 => ?_) (fun c50 => ?_)
          · replace h := am_ifp c50 h
            refine ev_sub [1, 2, 3] rfl ?_
            exact hj48 _ _ _ h
          · replace h := am_ifn c50 h
            refine ev_aload_n 1 dX12_findSaying_173 rfl ?_
            refine ev_iload 0 dX12_findSaying_174 rfl ?_
            refine ev_iconst dX12_findSaying_176 rfl ?_
            obtain ⟨v51, g52, e53, h⟩ := am_bd_elim h
            refine ev_callVi (v := v51) [.int x43, .int (2 : Int32)] [] dX12_findSaying_177 (tX12_ofWord e53) (by decide) mo_X12_ofWord kM_X12_220 ki_X12_ofWord kv_X12_ofWord (fun h9 => (h9.2.1 0 _ rfl).2) (by decide) rfl (Nat.le_of_ble_eq_true rfl) ?_
            refine ev_aload_n 1 dX12_findSaying_180 rfl ?_
            refine ev_gf (v := .ref 2) dX12_findSaying_181 (fun h9 => (h9.2.1 0 _ rfl).2) 3 (by decide) (by decide) kF_X12_13 (fun h9 => congrArg va_rf (h9.2.2 0 3 2 rfl)) ?_
            refine ev_sipush dX12_findSaying_184 rfl ?_
            refine ev_iload 3 dX12_findSaying_187 rfl ?_
            refine ev_iadd dX12_findSaying_189 ?_
            obtain ⟨c54, h⟩ := am_gd_elim h
            refine ev_iald dX12_findSaying_190 (fun h9 => (h9.2.1 2 _ rfl).2) (am_in_vp c54) ?_
            refine ev_icmp_ne 221 dX12_findSaying_191 (by decide) (fun c55 => ?_) (fun c55 => ?_)
            · replace h := am_ifn c55 h
              refine ev_sub [1, 2, 3] rfl ?_
              exact hj48 _ _ _ h
            · replace h := am_ifp c55 h
              refine ev_iload 3 dX12_findSaying_194 rfl ?_
              refine ev_iload_n 2 dX12_findSaying_196 rfl ?_
              refine ev_iconst dX12_findSaying_197 rfl ?_
              refine ev_isub dX12_findSaying_198 ?_
              refine ev_icmp_ne 210 dX12_findSaying_199 (by decide) (fun c56 => ?_) (fun c56 => ?_)
              · replace h := am_ifn c56 h
                obtain ⟨x57, ex57, h⟩ := am_let_ex h
                refine ev_iinc (ls' := [(4, .int x57), (5, .int x43), (0, .ref 0), (3, .int x2)]) 3 dX12_findSaying_210 rfl ex57 (by decide) rfl ?_
                refine ev_aload_n 2 dX12_findSaying_213 rfl ?_
                refine ev_gf (v := .ref 25) dX12_findSaying_214 (fun h9 => (h9.2.1 0 _ rfl).2) 45 (by decide) (by decide) kF_X12_126 (fun h9 => congrArg va_rf (h9.2.2 0 45 25 rfl)) ?_
                refine ev_iload 0 dX12_findSaying_217 rfl ?_
                refine ev_iconst dX12_findSaying_219 rfl ?_
                obtain ⟨c58, h⟩ := am_gd_elim h
                refine ev_iast dX12_findSaying_220 (fun h9 => (h9.2.1 25 _ rfl).2) (am_in_vp c58) ?_
                refine am_let_elim (P := fun g59 => am_Ev zr MX12_findSaying 6 221 [(4, .int x57), (5, .int x43), (0, .ref 0), (3, .int x2)] [] g59 (am_rv r)) h fun g59 h => ?_
                refine ev_sub [2, 3, 0] rfl ?_
                exact hj48 _ _ _ h
              · replace h := am_ifp c56 h
                refine ev_aload_n 1 dX12_findSaying_202 rfl ?_
                refine ev_iload_n 2 dX12_findSaying_203 rfl ?_
                obtain ⟨u60, g61, e62, h⟩ := am_bd_elim h
                refine ev_callVv [.int x2] [] dX12_findSaying_204 (tX12_weighSaying e62) (by decide) mo_X12_weighSaying kM_X12_476 ki_X12_weighSaying kv_X12_weighSaying (fun h9 => (h9.2.1 0 _ rfl).2) (by decide) rfl (Nat.le_of_ble_eq_true rfl) ?_
                refine ev_goto 221 dX12_findSaying_207 (by decide) ?_
                refine ev_sub [1, 2, 3] rfl ?_
                exact hj48 _ _ _ h
        · replace h := am_ifp c45 h
          obtain ⟨x63, ex63, h⟩ := am_let_ex h
          refine ev_iinc (ls' := [(4, .int x63), (5, .int x43), (0, .ref 0), (3, .int x2)]) 3 dX12_findSaying_157 rfl ex63 (by decide) rfl ?_
          refine ev_goto 221 dX12_findSaying_160 (by decide) ?_
          refine ev_sub [2, 3, 0] rfl ?_
          exact hj48 _ _ _ h
set_option maxRecDepth 100000 in
set_option maxHeartbeats 4000000 in
theorem eX12_findSaying (a1 : Int32) (a2 : Int32) (g : am_G) (r : Unit × am_G) (h : fX12_findSaying a1 a2 g = some r) : am_Ev zr MX12_findSaying 6 0 [(0, .ref 0), (1, .int a1), (2, .int a2)] [] g (am_rv r) := by
  unfold fX12_findSaying at h
  refine ev_aload_n 0 dX12_findSaying_0 rfl ?_
  refine ev_gf (v := .ref 2) dX12_findSaying_1 (fun h9 => (h9.2.1 0 _ rfl).2) 3 (by decide) (by decide) kF_X12_13 (fun h9 => congrArg va_rf (h9.2.2 0 3 2 rfl)) ?_
  refine ev_iconst dX12_findSaying_4 rfl ?_
  obtain ⟨c1, h⟩ := am_gd_elim h
  refine ev_iald dX12_findSaying_5 (fun h9 => (h9.2.1 2 _ rfl).2) (am_in_vp c1) ?_
  refine am_let_elim (P := fun x2 => am_Ev zr MX12_findSaying 6 6 [(0, .ref 0), (1, .int a1), (2, .int a2)] [.int x2] g (am_rv r)) h fun x2 h => ?_
  refine ev_istore_n (ls' := [(3, .int x2), (0, .ref 0), (1, .int a1), (2, .int a2)]) dX12_findSaying_6 rfl (by decide) rfl ?_
  refine ev_iconst dX12_findSaying_7 rfl ?_
  refine ev_istore (ls' := [(4, .int (0 : Int32)), (3, .int x2), (0, .ref 0), (1, .int a1), (2, .int a2)]) dX12_findSaying_8 (by decide) rfl ?_
  refine ev_sub [2, 3, 4, 1, 0] rfl ?_
  refine tfX12_findSaying_L10 a1 a2 x2 ?_ _ _ _ _ h
  intro  g30 r h
  try dsimp only at h
  refine ev_aload_n 0 dX12_findSaying_89 rfl ?_
  refine ev_ldcw dX12_findSaying_90 kI_X12_475 ?_
  refine ev_pfi dX12_findSaying_93 (fun h9 => (h9.2.1 0 _ rfl).2) 47 (by decide) (by decide) kF_X12_469 rfl rfl rfl (fun _ => rfl) ?_
  refine am_let_elim (P := fun g31 => am_Ev zr MX12_findSaying 6 96 [(0, .ref 0), (3, .int x2)] [] g31 (am_rv r)) h fun g31 h => ?_
  refine ev_aload_n 0 dX12_findSaying_96 rfl ?_
  refine ev_iconst dX12_findSaying_97 rfl ?_
  refine ev_pfi dX12_findSaying_98 (fun h9 => (h9.2.1 0 _ rfl).2) 48 (by decide) (by decide) kF_X12_472 rfl rfl rfl (fun _ => rfl) ?_
  refine am_let_elim (P := fun g32 => am_Ev zr MX12_findSaying 6 101 [(0, .ref 0), (3, .int x2)] [] g32 (am_rv r)) h fun g32 h => ?_
  refine ev_iconst dX12_findSaying_101 rfl ?_
  refine ev_istore (ls' := [(4, .int (0 : Int32)), (0, .ref 0), (3, .int x2)]) dX12_findSaying_102 (by decide) rfl ?_
  refine ev_iload_n 2 dX12_findSaying_104 rfl ?_
  refine ev_if_ne 114 dX12_findSaying_105 (by decide) (fun c33 => ?_) (fun c33 => ?_)
  · replace h := am_ifn c33 h
    refine ev_aload_n 1 dX12_findSaying_114 rfl ?_
    refine ev_gf (v := .ref 25) dX12_findSaying_115 (fun h9 => (h9.2.1 0 _ rfl).2) 45 (by decide) (by decide) kF_X12_126 (fun h9 => congrArg va_rf (h9.2.2 0 45 25 rfl)) ?_
    refine ev_iconst dX12_findSaying_118 rfl ?_
    refine ev_iconst dX12_findSaying_119 rfl ?_
    obtain ⟨c34, h⟩ := am_gd_elim h
    refine ev_iast dX12_findSaying_120 (fun h9 => (h9.2.1 25 _ rfl).2) (am_in_vp c34) ?_
    refine am_let_elim (P := fun g35 => am_Ev zr MX12_findSaying 6 121 [(4, .int (0 : Int32)), (0, .ref 0), (3, .int x2)] [] g35 (am_rv r)) h fun g35 h => ?_
    refine ev_sub [1, 2, 0] rfl ?_
    exact tfX12_findSaying_L121 x2 _ _ _ _ h
  · replace h := am_ifp c33 h
    refine ev_aload_n 1 dX12_findSaying_108 rfl ?_
    refine ev_iconst dX12_findSaying_109 rfl ?_
    obtain ⟨u64, g65, e66, h⟩ := am_bd_elim h
    refine ev_callVv [.int (0 : Int32)] [] dX12_findSaying_110 (tX12_weighSaying e66) (by decide) mo_X12_weighSaying kM_X12_476 ki_X12_weighSaying kv_X12_weighSaying (fun h9 => (h9.2.1 0 _ rfl).2) (by decide) rfl (Nat.le_of_ble_eq_true rfl) ?_
    cases h
    exact ev_ret dX12_findSaying_113 rfl
theorem tX12_findSaying {a1 : Int32} {a2 : Int32} {g : am_G} {r : Unit × am_G} (h : fX12_findSaying a1 a2 g = some r) : am_Mt zr MX12_findSaying 6 [.ref 0, .int a1, .int a2] g (am_rv r) := am_Mt.of rfl (Nat.le_of_ble_eq_true rfl) (eX12_findSaying _ _ _ _ h)
def fX12_saying (a1 : Int32) (a2 : Int32) (a3 : Int32) (g : am_G) : Option (Int32 × am_G) :=
  am_let (am_si g 0 0 (0 : Int32)) fun g1 =>
  am_bd (fX12_isPlace a1 g1) fun v2 g3 =>
  if v2 = 0 then (
    some ((-1 : Int32), g3))
  else (
    am_bd (fX12_isLoud a2 g3) fun v6 g7 =>
    if v6 = 0 then (
      some ((-1 : Int32), g7))
    else (
      am_gd (am_in (1 : Int32) 5660) <|
      am_bd (fX12_in a3.toInt64 (0 : Int64) ((1 : Int64) + ((am_I g7 2 (1 : Int32).toNatClampNeg).toInt64)) g7) fun v11 g12 =>
      if v11 = 0 then (
        some ((-1 : Int32), g12))
      else (
        am_bd (fX12_findSaying a1 a2 g12) fun u15 g16 =>
        am_jn (fun  (g19 : am_G) =>
          if a3 = (1 : Int32) then (
            some (am_I g19 0 48, g19))
          else (
            some ((-1 : Int32), g19))) fun j20 =>
        if a3 = (1 : Int32) then (
          j20 g16)
        else (
          if (am_I g16 0 48) = 0 then (
            j20 g16)
          else (
            if a3 = 0 then (
              some (am_I g16 0 47, g16))
            else (
              am_gd (am_in (a3 - (2 : Int32)) 5) <|
              some (am_I g16 26 (a3 - (2 : Int32)).toNatClampNeg, g16)))))))
set_option maxRecDepth 100000 in
set_option maxHeartbeats 4000000 in
theorem eX12_saying (a1 : Int32) (a2 : Int32) (a3 : Int32) (g : am_G) (r : Int32 × am_G) (h : fX12_saying a1 a2 a3 g = some r) : am_Ev zr MX12_saying 7 0 [(0, .ref 0), (1, .int a1), (2, .int a2), (3, .int a3)] [] g (am_ri r) := by
  unfold fX12_saying at h
  refine ev_aload_n 0 dX12_saying_0 rfl ?_
  refine ev_iconst dX12_saying_1 rfl ?_
  refine ev_pfi dX12_saying_2 (fun h9 => (h9.2.1 0 _ rfl).2) 0 (by decide) (by decide) kF_X12_163 rfl rfl rfl (fun _ => rfl) ?_
  refine am_let_elim (P := fun g1 => am_Ev zr MX12_saying 7 5 [(0, .ref 0), (1, .int a1), (2, .int a2), (3, .int a3)] [] g1 (am_ri r)) h fun g1 h => ?_
  refine ev_iload_n 1 dX12_saying_5 rfl ?_
  obtain ⟨v2, g3, e4, h⟩ := am_bd_elim h
  refine ev_callSi (v := v2) [.int a1] [] dX12_saying_6 (tX12_isPlace e4) (by decide) mo_X12_isPlace kM_X12_428 ks_X12_isPlace (Nat.le_of_ble_eq_true rfl) ?_
  refine ev_if_eq 37 dX12_saying_9 (by decide) (fun c5 => ?_) (fun c5 => ?_)
  · replace h := am_ifp c5 h
    refine ev_iconst dX12_saying_37 rfl ?_
    cases h
    exact ev_iret dX12_saying_38 rfl
  · replace h := am_ifn c5 h
    refine ev_iload_n 2 dX12_saying_12 rfl ?_
    obtain ⟨v6, g7, e8, h⟩ := am_bd_elim h
    refine ev_callSi (v := v6) [.int a2] [] dX12_saying_13 (tX12_isLoud e8) (by decide) mo_X12_isLoud kM_X12_431 ks_X12_isLoud (Nat.le_of_ble_eq_true rfl) ?_
    refine ev_if_eq 37 dX12_saying_16 (by decide) (fun c9 => ?_) (fun c9 => ?_)
    · replace h := am_ifp c9 h
      refine ev_iconst dX12_saying_37 rfl ?_
      cases h
      exact ev_iret dX12_saying_38 rfl
    · replace h := am_ifn c9 h
      refine ev_iload_n 3 dX12_saying_19 rfl ?_
      refine ev_i2l dX12_saying_20 ?_
      refine ev_lconst dX12_saying_21 rfl ?_
      refine ev_lconst dX12_saying_22 rfl ?_
      refine ev_aload_n 0 dX12_saying_23 rfl ?_
      refine ev_gf (v := .ref 2) dX12_saying_24 (fun h9 => (h9.2.1 0 _ rfl).2) 3 (by decide) (by decide) kF_X12_13 (fun h9 => congrArg va_rf (h9.2.2 0 3 2 rfl)) ?_
      refine ev_iconst dX12_saying_27 rfl ?_
      obtain ⟨c10, h⟩ := am_gd_elim h
      refine ev_iald dX12_saying_28 (fun h9 => (h9.2.1 2 _ rfl).2) (am_in_vp c10) ?_
      refine ev_i2l dX12_saying_29 ?_
      refine ev_ladd dX12_saying_30 ?_
      obtain ⟨v11, g12, e13, h⟩ := am_bd_elim h
      refine ev_callSi (v := v11) [.long a3.toInt64, .long (0 : Int64), .long ((1 : Int64) + ((am_I g7 2 (1 : Int32).toNatClampNeg).toInt64))] [] dX12_saying_31 (tX12_in e13) (by decide) mo_X12_in kM_X12_183 ks_X12_in (Nat.le_of_ble_eq_true rfl) ?_
      refine ev_if_ne 39 dX12_saying_34 (by decide) (fun c14 => ?_) (fun c14 => ?_)
      · replace h := am_ifn c14 h
        refine ev_aload_n 0 dX12_saying_39 rfl ?_
        refine ev_iload_n 1 dX12_saying_40 rfl ?_
        refine ev_iload_n 2 dX12_saying_41 rfl ?_
        obtain ⟨u15, g16, e17, h⟩ := am_bd_elim h
        refine ev_callVv [.int a1, .int a2] [] dX12_saying_42 (tX12_findSaying e17) (by decide) mo_X12_findSaying kM_X12_479 ki_X12_findSaying kv_X12_findSaying (fun h9 => (h9.2.1 0 _ rfl).2) (by decide) rfl (Nat.le_of_ble_eq_true rfl) ?_
        refine ev_iload_n 3 dX12_saying_45 rfl ?_
        refine ev_iconst dX12_saying_46 rfl ?_
        refine am_jn_elim (fun q9 => ∀  (g19 : am_G) (r : Int32 × am_G), q9  g19 = some r → am_Ev zr MX12_saying 7 57 [(0, .ref 0), (3, .int a3)] [] g19 (am_ri r)) h ?_ (fun j20 hj20 h => ?_)
        · intro  g19 r h
          try dsimp only at h
          refine ev_iload_n 1 dX12_saying_57 rfl ?_
          refine ev_iconst dX12_saying_58 rfl ?_
          refine ev_icmp_ne 69 dX12_saying_59 (by decide) (fun c21 => ?_) (fun c21 => ?_)
          · replace h := am_ifn c21 h
            refine ev_iconst dX12_saying_69 rfl ?_
            cases h
            exact ev_iret dX12_saying_70 rfl
          · replace h := am_ifp c21 h
            refine ev_aload_n 0 dX12_saying_62 rfl ?_
            refine ev_gf (v := .int (am_I g19 0 48)) dX12_saying_63 (fun h9 => (h9.2.1 0 _ rfl).2) 48 (by decide) (by decide) kF_X12_472 (fun _ => rfl) ?_
            refine ev_goto 70 dX12_saying_66 (by decide) ?_
            cases h
            exact ev_iret dX12_saying_70 rfl
        · refine ev_icmp_eq 57 dX12_saying_47 (by decide) (fun c18 => ?_) (fun c18 => ?_)
          · replace h := am_ifp c18 h
            refine ev_sub [0, 3] rfl ?_
            exact hj20  _ _ h
          · replace h := am_ifn c18 h
            refine ev_aload_n 0 dX12_saying_50 rfl ?_
            refine ev_gf (v := .int (am_I g16 0 48)) dX12_saying_51 (fun h9 => (h9.2.1 0 _ rfl).2) 48 (by decide) (by decide) kF_X12_472 (fun _ => rfl) ?_
            refine ev_if_ne 71 dX12_saying_54 (by decide) (fun c22 => ?_) (fun c22 => ?_)
            · replace h := am_ifn c22 h
              refine ev_iload_n 3 dX12_saying_71 rfl ?_
              refine ev_if_ne 82 dX12_saying_72 (by decide) (fun c23 => ?_) (fun c23 => ?_)
              · replace h := am_ifn c23 h
                refine ev_aload_n 0 dX12_saying_82 rfl ?_
                refine ev_gf (v := .ref 26) dX12_saying_83 (fun h9 => (h9.2.1 0 _ rfl).2) 46 (by decide) (by decide) kF_X12_129 (fun h9 => congrArg va_rf (h9.2.2 0 46 26 rfl)) ?_
                refine ev_iload_n 3 dX12_saying_86 rfl ?_
                refine ev_iconst dX12_saying_87 rfl ?_
                refine ev_isub dX12_saying_88 ?_
                obtain ⟨c24, h⟩ := am_gd_elim h
                refine ev_iald dX12_saying_89 (fun h9 => (h9.2.1 26 _ rfl).2) (am_in_vp c24) ?_
                cases h
                exact ev_iret dX12_saying_90 rfl
              · replace h := am_ifp c23 h
                refine ev_aload_n 0 dX12_saying_75 rfl ?_
                refine ev_gf (v := .int (am_I g16 0 47)) dX12_saying_76 (fun h9 => (h9.2.1 0 _ rfl).2) 47 (by decide) (by decide) kF_X12_469 (fun _ => rfl) ?_
                refine ev_goto 90 dX12_saying_79 (by decide) ?_
                cases h
                exact ev_iret dX12_saying_90 rfl
            · replace h := am_ifp c22 h
              refine ev_sub [0, 3] rfl ?_
              exact hj20  _ _ h
      · replace h := am_ifp c14 h
        refine ev_iconst dX12_saying_37 rfl ?_
        cases h
        exact ev_iret dX12_saying_38 rfl
theorem tX12_saying {a1 : Int32} {a2 : Int32} {a3 : Int32} {g : am_G} {r : Int32 × am_G} (h : fX12_saying a1 a2 a3 g = some r) : am_Mt zr MX12_saying 7 [.ref 0, .int a1, .int a2, .int a3] g (am_ri r) := am_Mt.of rfl (Nat.le_of_ble_eq_true rfl) (eX12_saying _ _ _ _ _ h)
def fX12_talk (a1 : Int32) (a2 : Int32) (a3 : Int32) (g : am_G) : Option (Int32 × am_G) :=
  am_let (am_si g 0 0 (0 : Int32)) fun g1 =>
  am_bd (fX12_isPlace a2 g1) fun v2 g3 =>
  if v2 = 0 then (
    am_bd (fX12_tell (-1 : Int32) g3) fun v6 g7 =>
    some (v6, g7))
  else (
    am_bd (fX12_isLoud a3 g3) fun v9 g10 =>
    if v9 = 0 then (
      am_bd (fX12_tell (-1 : Int32) g10) fun v38 g39 =>
      some (v38, g39))
    else (
      am_bd (fX12_isWord1 a1 g10) fun v13 g14 =>
      if v13 = 0 then (
        am_bd (fX12_tell (-2 : Int32) g14) fun v35 g36 =>
        some (v35, g36))
      else (
        am_gd (am_in (2 : Int32) 5660) <|
        am_let (am_I g14 2 (2 : Int32).toNatClampNeg) fun x18 =>
        if x18 = (6 : Int32) then (
          am_bd (fX12_tell (-5 : Int32) g14) fun v32 g33 =>
          some (v32, g33))
        else (
          am_gd (am_in ((211 : Int32) + ((3 : Int32) * x18)) 5660) <|
          am_let (am_si g14 2 ((211 : Int32) + ((3 : Int32) * x18)).toNatClampNeg a1) fun g21 =>
          am_gd (am_in (((211 : Int32) + ((3 : Int32) * x18)) + (1 : Int32)) 5660) <|
          am_let (am_si g21 2 (((211 : Int32) + ((3 : Int32) * x18)) + (1 : Int32)).toNatClampNeg a2) fun g23 =>
          am_gd (am_in (((211 : Int32) + ((3 : Int32) * x18)) + (2 : Int32)) 5660) <|
          am_let (am_si g23 2 (((211 : Int32) + ((3 : Int32) * x18)) + (2 : Int32)).toNatClampNeg a3) fun g25 =>
          am_gd (am_in (2 : Int32) 5660) <|
          am_gd (am_in (2 : Int32) 5660) <|
          am_let (am_si g25 2 (2 : Int32).toNatClampNeg ((am_I g25 2 (2 : Int32).toNatClampNeg) + (1 : Int32))) fun g28 =>
          am_bd (fX12_tell x18 g28) fun v29 g30 =>
          some (v29, g30)))))
set_option maxRecDepth 100000 in
set_option maxHeartbeats 4000000 in
theorem eX12_talk (a1 : Int32) (a2 : Int32) (a3 : Int32) (g : am_G) (r : Int32 × am_G) (h : fX12_talk a1 a2 a3 g = some r) : am_Ev zr MX12_talk 2 0 [(0, .ref 0), (1, .int a1), (2, .int a2), (3, .int a3)] [] g (am_ri r) := by
  unfold fX12_talk at h
  refine ev_aload_n 0 dX12_talk_0 rfl ?_
  refine ev_iconst dX12_talk_1 rfl ?_
  refine ev_pfi dX12_talk_2 (fun h9 => (h9.2.1 0 _ rfl).2) 0 (by decide) (by decide) kF_X12_163 rfl rfl rfl (fun _ => rfl) ?_
  refine am_let_elim (P := fun g1 => am_Ev zr MX12_talk 2 5 [(0, .ref 0), (1, .int a1), (2, .int a2), (3, .int a3)] [] g1 (am_ri r)) h fun g1 h => ?_
  refine ev_iload_n 2 dX12_talk_5 rfl ?_
  obtain ⟨v2, g3, e4, h⟩ := am_bd_elim h
  refine ev_callSi (v := v2) [.int a2] [] dX12_talk_6 (tX12_isPlace e4) (by decide) mo_X12_isPlace kM_X12_428 ks_X12_isPlace (Nat.le_of_ble_eq_true rfl) ?_
  refine ev_if_eq 19 dX12_talk_9 (by decide) (fun c5 => ?_) (fun c5 => ?_)
  · replace h := am_ifp c5 h
    refine ev_aload_n 0 dX12_talk_19 rfl ?_
    refine ev_iconst dX12_talk_20 rfl ?_
    obtain ⟨v6, g7, e8, h⟩ := am_bd_elim h
    refine ev_callVi (v := v6) [.int (-1 : Int32)] [] dX12_talk_21 (tX12_tell e8) (by decide) mo_X12_tell kM_X12_176 ki_X12_tell kv_X12_tell (fun h9 => (h9.2.1 0 _ rfl).2) (by decide) rfl (Nat.le_of_ble_eq_true rfl) ?_
    cases h
    exact ev_iret dX12_talk_24 rfl
  · replace h := am_ifn c5 h
    refine ev_iload_n 3 dX12_talk_12 rfl ?_
    obtain ⟨v9, g10, e11, h⟩ := am_bd_elim h
    refine ev_callSi (v := v9) [.int a3] [] dX12_talk_13 (tX12_isLoud e11) (by decide) mo_X12_isLoud kM_X12_431 ks_X12_isLoud (Nat.le_of_ble_eq_true rfl) ?_
    refine ev_if_ne 25 dX12_talk_16 (by decide) (fun c12 => ?_) (fun c12 => ?_)
    · replace h := am_ifn c12 h
      refine ev_aload_n 0 dX12_talk_25 rfl ?_
      refine ev_iload_n 1 dX12_talk_26 rfl ?_
      obtain ⟨v13, g14, e15, h⟩ := am_bd_elim h
      refine ev_callVi (v := v13) [.int a1] [] dX12_talk_27 (tX12_isWord1 e15) (by decide) mo_X12_isWord1 kM_X12_217 ki_X12_isWord1 kv_X12_isWord1 (fun h9 => (h9.2.1 0 _ rfl).2) (by decide) rfl (Nat.le_of_ble_eq_true rfl) ?_
      refine ev_if_ne 40 dX12_talk_30 (by decide) (fun c16 => ?_) (fun c16 => ?_)
      · replace h := am_ifn c16 h
        refine ev_aload_n 0 dX12_talk_40 rfl ?_
        refine ev_gf (v := .ref 2) dX12_talk_41 (fun h9 => (h9.2.1 0 _ rfl).2) 3 (by decide) (by decide) kF_X12_13 (fun h9 => congrArg va_rf (h9.2.2 0 3 2 rfl)) ?_
        refine ev_iconst dX12_talk_44 rfl ?_
        obtain ⟨c17, h⟩ := am_gd_elim h
        refine ev_iald dX12_talk_45 (fun h9 => (h9.2.1 2 _ rfl).2) (am_in_vp c17) ?_
        refine am_let_elim (P := fun x18 => am_Ev zr MX12_talk 2 46 [(0, .ref 0), (1, .int a1), (2, .int a2), (3, .int a3)] [.int x18] g14 (am_ri r)) h fun x18 h => ?_
        refine ev_istore (ls' := [(4, .int x18), (0, .ref 0), (1, .int a1), (2, .int a2), (3, .int a3)]) dX12_talk_46 (by decide) rfl ?_
        refine ev_iload 0 dX12_talk_48 rfl ?_
        refine ev_bipush dX12_talk_50 rfl ?_
        refine ev_icmp_ne 62 dX12_talk_52 (by decide) (fun c19 => ?_) (fun c19 => ?_)
        · replace h := am_ifn c19 h
          refine ev_aload_n 1 dX12_talk_62 rfl ?_
          refine ev_gf (v := .ref 2) dX12_talk_63 (fun h9 => (h9.2.1 0 _ rfl).2) 3 (by decide) (by decide) kF_X12_13 (fun h9 => congrArg va_rf (h9.2.2 0 3 2 rfl)) ?_
          refine ev_sipush dX12_talk_66 rfl ?_
          refine ev_iconst dX12_talk_69 rfl ?_
          refine ev_iload 0 dX12_talk_70 rfl ?_
          refine ev_imul dX12_talk_72 ?_
          refine ev_iadd dX12_talk_73 ?_
          refine ev_iload_n 2 dX12_talk_74 rfl ?_
          obtain ⟨c20, h⟩ := am_gd_elim h
          refine ev_iast dX12_talk_75 (fun h9 => (h9.2.1 2 _ rfl).2) (am_in_vp c20) ?_
          refine am_let_elim (P := fun g21 => am_Ev zr MX12_talk 2 76 [(4, .int x18), (0, .ref 0), (1, .int a1), (2, .int a2), (3, .int a3)] [] g21 (am_ri r)) h fun g21 h => ?_
          refine ev_aload_n 1 dX12_talk_76 rfl ?_
          refine ev_gf (v := .ref 2) dX12_talk_77 (fun h9 => (h9.2.1 0 _ rfl).2) 3 (by decide) (by decide) kF_X12_13 (fun h9 => congrArg va_rf (h9.2.2 0 3 2 rfl)) ?_
          refine ev_sipush dX12_talk_80 rfl ?_
          refine ev_iconst dX12_talk_83 rfl ?_
          refine ev_iload 0 dX12_talk_84 rfl ?_
          refine ev_imul dX12_talk_86 ?_
          refine ev_iadd dX12_talk_87 ?_
          refine ev_iconst dX12_talk_88 rfl ?_
          refine ev_iadd dX12_talk_89 ?_
          refine ev_iload_n 3 dX12_talk_90 rfl ?_
          obtain ⟨c22, h⟩ := am_gd_elim h
          refine ev_iast dX12_talk_91 (fun h9 => (h9.2.1 2 _ rfl).2) (am_in_vp c22) ?_
          refine am_let_elim (P := fun g23 => am_Ev zr MX12_talk 2 92 [(4, .int x18), (0, .ref 0), (1, .int a1), (2, .int a2), (3, .int a3)] [] g23 (am_ri r)) h fun g23 h => ?_
          refine ev_aload_n 1 dX12_talk_92 rfl ?_
          refine ev_gf (v := .ref 2) dX12_talk_93 (fun h9 => (h9.2.1 0 _ rfl).2) 3 (by decide) (by decide) kF_X12_13 (fun h9 => congrArg va_rf (h9.2.2 0 3 2 rfl)) ?_
          refine ev_sipush dX12_talk_96 rfl ?_
          refine ev_iconst dX12_talk_99 rfl ?_
          refine ev_iload 0 dX12_talk_100 rfl ?_
          refine ev_imul dX12_talk_102 ?_
          refine ev_iadd dX12_talk_103 ?_
          refine ev_iconst dX12_talk_104 rfl ?_
          refine ev_iadd dX12_talk_105 ?_
          refine ev_iload_n 4 dX12_talk_106 rfl ?_
          obtain ⟨c24, h⟩ := am_gd_elim h
          refine ev_iast dX12_talk_107 (fun h9 => (h9.2.1 2 _ rfl).2) (am_in_vp c24) ?_
          refine am_let_elim (P := fun g25 => am_Ev zr MX12_talk 2 108 [(4, .int x18), (0, .ref 0), (1, .int a1), (2, .int a2), (3, .int a3)] [] g25 (am_ri r)) h fun g25 h => ?_
          refine ev_aload_n 1 dX12_talk_108 rfl ?_
          refine ev_gf (v := .ref 2) dX12_talk_109 (fun h9 => (h9.2.1 0 _ rfl).2) 3 (by decide) (by decide) kF_X12_13 (fun h9 => congrArg va_rf (h9.2.2 0 3 2 rfl)) ?_
          refine ev_iconst dX12_talk_112 rfl ?_
          refine ev_dup2 dX12_talk_113 rfl rfl ?_
          obtain ⟨c26, h⟩ := am_gd_elim h
          refine ev_iald dX12_talk_114 (fun h9 => (h9.2.1 2 _ rfl).2) (am_in_vp c26) ?_
          refine ev_iconst dX12_talk_115 rfl ?_
          refine ev_iadd dX12_talk_116 ?_
          obtain ⟨c27, h⟩ := am_gd_elim h
          refine ev_iast dX12_talk_117 (fun h9 => (h9.2.1 2 _ rfl).2) (am_in_vp c27) ?_
          refine am_let_elim (P := fun g28 => am_Ev zr MX12_talk 2 118 [(4, .int x18), (0, .ref 0), (1, .int a1), (2, .int a2), (3, .int a3)] [] g28 (am_ri r)) h fun g28 h => ?_
          refine ev_aload_n 1 dX12_talk_118 rfl ?_
          refine ev_iload 0 dX12_talk_119 rfl ?_
          obtain ⟨v29, g30, e31, h⟩ := am_bd_elim h
          refine ev_callVi (v := v29) [.int x18] [] dX12_talk_121 (tX12_tell e31) (by decide) mo_X12_tell kM_X12_176 ki_X12_tell kv_X12_tell (fun h9 => (h9.2.1 0 _ rfl).2) (by decide) rfl (Nat.le_of_ble_eq_true rfl) ?_
          cases h
          exact ev_iret dX12_talk_124 rfl
        · replace h := am_ifp c19 h
          refine ev_aload_n 1 dX12_talk_55 rfl ?_
          refine ev_bipush dX12_talk_56 rfl ?_
          obtain ⟨v32, g33, e34, h⟩ := am_bd_elim h
          refine ev_callVi (v := v32) [.int (-5 : Int32)] [] dX12_talk_58 (tX12_tell e34) (by decide) mo_X12_tell kM_X12_176 ki_X12_tell kv_X12_tell (fun h9 => (h9.2.1 0 _ rfl).2) (by decide) rfl (Nat.le_of_ble_eq_true rfl) ?_
          cases h
          exact ev_iret dX12_talk_61 rfl
      · replace h := am_ifp c16 h
        refine ev_aload_n 0 dX12_talk_33 rfl ?_
        refine ev_bipush dX12_talk_34 rfl ?_
        obtain ⟨v35, g36, e37, h⟩ := am_bd_elim h
        refine ev_callVi (v := v35) [.int (-2 : Int32)] [] dX12_talk_36 (tX12_tell e37) (by decide) mo_X12_tell kM_X12_176 ki_X12_tell kv_X12_tell (fun h9 => (h9.2.1 0 _ rfl).2) (by decide) rfl (Nat.le_of_ble_eq_true rfl) ?_
        cases h
        exact ev_iret dX12_talk_39 rfl
    · replace h := am_ifp c12 h
      refine ev_aload_n 0 dX12_talk_19 rfl ?_
      refine ev_iconst dX12_talk_20 rfl ?_
      obtain ⟨v38, g39, e40, h⟩ := am_bd_elim h
      refine ev_callVi (v := v38) [.int (-1 : Int32)] [] dX12_talk_21 (tX12_tell e40) (by decide) mo_X12_tell kM_X12_176 ki_X12_tell kv_X12_tell (fun h9 => (h9.2.1 0 _ rfl).2) (by decide) rfl (Nat.le_of_ble_eq_true rfl) ?_
      cases h
      exact ev_iret dX12_talk_24 rfl
theorem tX12_talk {a1 : Int32} {a2 : Int32} {a3 : Int32} {g : am_G} {r : Int32 × am_G} (h : fX12_talk a1 a2 a3 g = some r) : am_Mt zr MX12_talk 2 [.ref 0, .int a1, .int a2, .int a3] g (am_ri r) := am_Mt.of rfl (Nat.le_of_ble_eq_true rfl) (eX12_talk _ _ _ _ _ h)
def fX12_cancel (g : am_G) : Option (Int32 × am_G) :=
  am_let (am_si g 0 0 (0 : Int32)) fun g1 =>
  am_gd (am_in (2 : Int32) 5660) <|
  am_let (am_I g1 2 (2 : Int32).toNatClampNeg) fun x3 =>
  am_gd (am_in (2 : Int32) 5660) <|
  am_let (am_si g1 2 (2 : Int32).toNatClampNeg (0 : Int32)) fun g5 =>
  some (x3, g5)
set_option maxRecDepth 100000 in
set_option maxHeartbeats 4000000 in
theorem eX12_cancel (g : am_G) (r : Int32 × am_G) (h : fX12_cancel g = some r) : am_Ev zr MX12_cancel 0 0 [(0, .ref 0)] [] g (am_ri r) := by
  unfold fX12_cancel at h
  refine ev_aload_n 0 dX12_cancel_0 rfl ?_
  refine ev_iconst dX12_cancel_1 rfl ?_
  refine ev_pfi dX12_cancel_2 (fun h9 => (h9.2.1 0 _ rfl).2) 0 (by decide) (by decide) kF_X12_163 rfl rfl rfl (fun _ => rfl) ?_
  refine am_let_elim (P := fun g1 => am_Ev zr MX12_cancel 0 5 [(0, .ref 0)] [] g1 (am_ri r)) h fun g1 h => ?_
  refine ev_aload_n 0 dX12_cancel_5 rfl ?_
  refine ev_gf (v := .ref 2) dX12_cancel_6 (fun h9 => (h9.2.1 0 _ rfl).2) 3 (by decide) (by decide) kF_X12_13 (fun h9 => congrArg va_rf (h9.2.2 0 3 2 rfl)) ?_
  refine ev_iconst dX12_cancel_9 rfl ?_
  obtain ⟨c2, h⟩ := am_gd_elim h
  refine ev_iald dX12_cancel_10 (fun h9 => (h9.2.1 2 _ rfl).2) (am_in_vp c2) ?_
  refine am_let_elim (P := fun x3 => am_Ev zr MX12_cancel 0 11 [(0, .ref 0)] [.int x3] g1 (am_ri r)) h fun x3 h => ?_
  refine ev_istore_n (ls' := [(1, .int x3), (0, .ref 0)]) dX12_cancel_11 rfl (by decide) rfl ?_
  refine ev_aload_n 1 dX12_cancel_12 rfl ?_
  refine ev_gf (v := .ref 2) dX12_cancel_13 (fun h9 => (h9.2.1 0 _ rfl).2) 3 (by decide) (by decide) kF_X12_13 (fun h9 => congrArg va_rf (h9.2.2 0 3 2 rfl)) ?_
  refine ev_iconst dX12_cancel_16 rfl ?_
  refine ev_iconst dX12_cancel_17 rfl ?_
  obtain ⟨c4, h⟩ := am_gd_elim h
  refine ev_iast dX12_cancel_18 (fun h9 => (h9.2.1 2 _ rfl).2) (am_in_vp c4) ?_
  refine am_let_elim (P := fun g5 => am_Ev zr MX12_cancel 0 19 [(1, .int x3), (0, .ref 0)] [] g5 (am_ri r)) h fun g5 h => ?_
  refine ev_iload_n 0 dX12_cancel_19 rfl ?_
  cases h
  exact ev_iret dX12_cancel_20 rfl
theorem tX12_cancel {g : am_G} {r : Int32 × am_G} (h : fX12_cancel g = some r) : am_Mt zr MX12_cancel 0 [.ref 0] g (am_ri r) := am_Mt.of rfl (Nat.le_of_ble_eq_true rfl) (eX12_cancel _ _ h)
def fX12_isQuiet_L43 (k : Int32 → am_G → Option (Int32 × am_G)) (a1 : Int32) (x2 : Int32) : Nat → Int32 → Int32 → am_G → Option (Int32 × am_G)
  | 0, _, _, _ => none
  | n + 1, x12, x13, g14 =>
    am_gd (am_in (2 : Int32) 5660) <|
    if (am_I g14 2 (2 : Int32).toNatClampNeg) ≤ x13 then (
      k x12 g14)
    else (
      if x12 = 0 then (
        k x12 g14)
      else (
        am_let ((211 : Int32) + ((3 : Int32) * x13)) fun x20 =>
        am_gd (am_in x13 6) <|
        am_jn (fun (x23 : Int32) (g24 : am_G) =>
          am_let (x13 + (1 : Int32)) fun x26 =>
          fX12_isQuiet_L43 k a1 x2 n x23 x26 g24) fun j25 =>
        if (am_I g14 27 x13.toNatClampNeg) = x2 then (
          am_gd (am_in x20 5660) <|
          am_gd (am_in (x20 + (1 : Int32)) 5660) <|
          am_gd (am_in (x20 + (2 : Int32)) 5660) <|
          am_bd (fX12_isBarred (am_I g14 2 x20.toNatClampNeg) (am_I g14 2 (x20 + (1 : Int32)).toNatClampNeg) (am_I g14 2 (x20 + (2 : Int32)).toNatClampNeg) g14) fun v30 g31 =>
          am_jn (fun (x34 : Int32) (g35 : am_G) =>
            j25 x34 g35) fun j36 =>
          am_jn (fun  (g37 : am_G) =>
            j36 (0 : Int32) g37) fun j38 =>
          if v30 = 0 then (
            am_gd (am_in x20 5660) <|
            am_gd (am_in (x20 + (1 : Int32)) 5660) <|
            am_gd (am_in (x20 + (2 : Int32)) 5660) <|
            am_bd (fX12_sayIt (0 : Int32) (am_I g31 2 x20.toNatClampNeg) (am_I g31 2 (x20 + (1 : Int32)).toNatClampNeg) (am_I g31 2 (x20 + (2 : Int32)).toNatClampNeg) g31) fun v42 g43 =>
            if v42 = 0 then (
              j36 (1 : Int32) g43)
            else (
              j38 g43))
          else (
            j38 g31))
        else (
          j25 x12 g14)))
def fX12_isQuiet_L4 (a1 : Int32) : Nat → Int32 → Int32 → am_G → Option (Int32 × am_G)
  | 0, _, _, _ => none
  | n + 1, x1, x2, g3 =>
    if a1 ≤ x2 then (
      am_gd (am_zb x1) <|
      some (x1, g3))
    else (
      if x1 = 0 then (
        am_gd (am_zb x1) <|
        some (x1, g3))
      else (
        am_jn (fun (x9 : Int32) (g10 : am_G) =>
          fX12_isQuiet_L43 (fun (x46 : Int32) (g47 : am_G) =>
            am_let (x2 + (1 : Int32)) fun x48 =>
            fX12_isQuiet_L4 a1 n x46 x48 g47) a1 x2 am_fu x9 (0 : Int32) g10) fun j11 =>
        if x2 ≤ 0 then (
          j11 x1 g3)
        else (
          am_bd (fX12_day g3) fun v49 g50 =>
          am_jn (fun (x53 : Int32) (g54 : am_G) =>
            j11 x53 g54) fun j55 =>
          am_jn (fun  (g56 : am_G) =>
            j55 (0 : Int32) g56) fun j57 =>
          if (999 : Int32) ≤ v49 then (
            j57 g50)
          else (
            am_bd (fX12_dawnIt g50) fun v58 g59 =>
            if v58 = 0 then (
              j55 (1 : Int32) g59)
            else (
              j57 g59)))))
def fX12_isQuiet (a1 : Int32) (g : am_G) : Option (Int32 × am_G) :=
  fX12_isQuiet_L4 a1 am_fu (1 : Int32) (0 : Int32) g
set_option maxRecDepth 100000 in
set_option maxHeartbeats 4000000 in
theorem tfX12_isQuiet_L43  {k : Int32 → am_G → Option (Int32 × am_G)} (a1 : Int32) (x2 : Int32) (hk : ∀ (x15 : Int32) (g16 : am_G) (r : Int32 × am_G), k x15 g16 = some r → am_Ev zr MX12_isQuiet 7 156 [(0, .ref 0), (1, .int a1), (2, .int x15), (3, .int x2)] [] g16 (am_ri r)) : ∀ (n : Nat) (x12 : Int32) (x13 : Int32) (g14 : am_G) (r : Int32 × am_G), fX12_isQuiet_L43 k a1 x2 n x12 x13 g14 = some r → am_Ev zr MX12_isQuiet 7 43 [(0, .ref 0), (1, .int a1), (2, .int x12), (3, .int x2), (4, .int x13)] [] g14 (am_ri r) := by
  intro n
  induction n with
  | zero => intro x12 x13 g14 r h; exact nomatch (show (none : Option (Int32 × am_G)) = some r from h)
  | succ n ih =>
    intro x12 x13 g14 r h
    rw [fX12_isQuiet_L43] at h
    refine ev_iload 4 dX12_isQuiet_43 rfl ?_
    refine ev_aload_n 0 dX12_isQuiet_45 rfl ?_
    refine ev_gf (v := .ref 2) dX12_isQuiet_46 (fun h9 => (h9.2.1 0 _ rfl).2) 3 (by decide) (by decide) kF_X12_13 (fun h9 => congrArg va_rf (h9.2.2 0 3 2 rfl)) ?_
    refine ev_iconst dX12_isQuiet_49 rfl ?_
    obtain ⟨c17, h⟩ := am_gd_elim h
    refine ev_iald dX12_isQuiet_50 (fun h9 => (h9.2.1 2 _ rfl).2) (am_in_vp c17) ?_
    refine ev_icmp_ge 156 dX12_isQuiet_51 (by decide) (fun c18 => ?_) (fun c18 => ?_)
    · replace h := am_ifp c18 h
      refine ev_sub [0, 1, 2, 3] rfl ?_
      exact hk _ _ _ h
    · replace h := am_ifn c18 h
      refine ev_iload_n 2 dX12_isQuiet_54 rfl ?_
      refine ev_if_eq 156 dX12_isQuiet_55 (by decide) (fun c19 => ?_) (fun c19 => ?_)
      · replace h := am_ifp c19 h
        refine ev_sub [0, 1, 2, 3] rfl ?_
        exact hk _ _ _ h
      · replace h := am_ifn c19 h
        refine ev_sipush dX12_isQuiet_58 rfl ?_
        refine ev_iconst dX12_isQuiet_61 rfl ?_
        refine ev_iload 4 dX12_isQuiet_62 rfl ?_
        refine ev_imul dX12_isQuiet_64 ?_
        refine ev_iadd dX12_isQuiet_65 ?_
        refine am_let_elim (P := fun x20 => am_Ev zr MX12_isQuiet 7 66 [(0, .ref 0), (1, .int a1), (2, .int x12), (3, .int x2), (4, .int x13)] [.int x20] g14 (am_ri r)) h fun x20 h => ?_
        refine ev_istore (ls' := [(5, .int x20), (0, .ref 0), (1, .int a1), (2, .int x12), (3, .int x2), (4, .int x13)]) dX12_isQuiet_66 (by decide) rfl ?_
        refine ev_aload_n 1 dX12_isQuiet_68 rfl ?_
        refine ev_gf (v := .ref 27) dX12_isQuiet_69 (fun h9 => (h9.2.1 0 _ rfl).2) 49 (by decide) (by decide) kF_X12_132 (fun h9 => congrArg va_rf (h9.2.2 0 49 27 rfl)) ?_
        refine ev_iload 5 dX12_isQuiet_72 rfl ?_
        obtain ⟨c21, h⟩ := am_gd_elim h
        refine ev_iald dX12_isQuiet_74 (fun h9 => (h9.2.1 27 _ rfl).2) (am_in_vp c21) ?_
        refine ev_iload_n 4 dX12_isQuiet_75 rfl ?_
        refine am_jn_elim (fun q9 => ∀ (x23 : Int32) (g24 : am_G) (r : Int32 × am_G), q9 x23 g24 = some r → am_Ev zr MX12_isQuiet 7 150 [(0, .ref 0), (1, .int a1), (2, .int x23), (3, .int x2), (4, .int x13)] [] g24 (am_ri r)) h ?_ (fun j25 hj25 h => ?_)
        · intro x23 g24 r h
          try dsimp only at h
          obtain ⟨x26, ex26, h⟩ := am_let_ex h
          refine ev_iinc (ls' := [(4, .int x26), (0, .ref 0), (1, .int a1), (2, .int x23), (3, .int x2)]) 4 dX12_isQuiet_150 rfl ex26 (by decide) rfl ?_
          refine ev_goto 43 dX12_isQuiet_153 (by decide) ?_
          refine ev_sub [1, 2, 3, 4, 0] rfl ?_
          exact ih _ _ _ _ h
        · refine ev_icmp_ne 150 dX12_isQuiet_76 (by decide) (fun c22 => ?_) (fun c22 => ?_)
          · replace h := am_ifn c22 h
            refine ev_sub [1, 2, 3, 4, 5] rfl ?_
            exact hj25 _ _ _ h
          · replace h := am_ifp c22 h
            refine ev_aload_n 1 dX12_isQuiet_79 rfl ?_
            refine ev_aload_n 1 dX12_isQuiet_80 rfl ?_
            refine ev_gf (v := .ref 2) dX12_isQuiet_81 (fun h9 => (h9.2.1 0 _ rfl).2) 3 (by decide) (by decide) kF_X12_13 (fun h9 => congrArg va_rf (h9.2.2 0 3 2 rfl)) ?_
            refine ev_iload 0 dX12_isQuiet_84 rfl ?_
            obtain ⟨c27, h⟩ := am_gd_elim h
            refine ev_iald dX12_isQuiet_86 (fun h9 => (h9.2.1 2 _ rfl).2) (am_in_vp c27) ?_
            refine ev_aload_n 1 dX12_isQuiet_87 rfl ?_
            refine ev_gf (v := .ref 2) dX12_isQuiet_88 (fun h9 => (h9.2.1 0 _ rfl).2) 3 (by decide) (by decide) kF_X12_13 (fun h9 => congrArg va_rf (h9.2.2 0 3 2 rfl)) ?_
            refine ev_iload 0 dX12_isQuiet_91 rfl ?_
            refine ev_iconst dX12_isQuiet_93 rfl ?_
            refine ev_iadd dX12_isQuiet_94 ?_
            obtain ⟨c28, h⟩ := am_gd_elim h
            refine ev_iald dX12_isQuiet_95 (fun h9 => (h9.2.1 2 _ rfl).2) (am_in_vp c28) ?_
            refine ev_aload_n 1 dX12_isQuiet_96 rfl ?_
            refine ev_gf (v := .ref 2) dX12_isQuiet_97 (fun h9 => (h9.2.1 0 _ rfl).2) 3 (by decide) (by decide) kF_X12_13 (fun h9 => congrArg va_rf (h9.2.2 0 3 2 rfl)) ?_
            refine ev_iload 0 dX12_isQuiet_100 rfl ?_
            refine ev_iconst dX12_isQuiet_102 rfl ?_
            refine ev_iadd dX12_isQuiet_103 ?_
            obtain ⟨c29, h⟩ := am_gd_elim h
            refine ev_iald dX12_isQuiet_104 (fun h9 => (h9.2.1 2 _ rfl).2) (am_in_vp c29) ?_
            obtain ⟨v30, g31, e32, h⟩ := am_bd_elim h
            refine ev_callVi (v := v30) [.int (am_I g14 2 x20.toNatClampNeg), .int (am_I g14 2 (x20 + (1 : Int32)).toNatClampNeg), .int (am_I g14 2 (x20 + (2 : Int32)).toNatClampNeg)] [] dX12_isQuiet_105 (tX12_isBarred e32) (by decide) mo_X12_isBarred kM_X12_438 ki_X12_isBarred kv_X12_isBarred (fun h9 => (h9.2.1 0 _ rfl).2) (by decide) rfl (Nat.le_of_ble_eq_true rfl) ?_
            refine am_jn_elim (fun q9 => ∀ (x34 : Int32) (g35 : am_G) (r : Int32 × am_G), q9 x34 g35 = some r → am_Ev zr MX12_isQuiet 7 149 [(0, .ref 0), (1, .int a1), (3, .int x2), (4, .int x13)] [.int x34] g35 (am_ri r)) h ?_ (fun j36 hj36 h => ?_)
            · intro x34 g35 r h
              try dsimp only at h
              refine ev_istore_n (ls' := [(2, .int x34), (0, .ref 0), (1, .int a1), (3, .int x2), (4, .int x13)]) dX12_isQuiet_149 rfl (by decide) rfl ?_
              refine ev_sub [1, 2, 0, 3, 4] rfl ?_
              exact hj25 _ _ _ h
            · refine am_jn_elim (fun q9 => ∀  (g37 : am_G) (r : Int32 × am_G), q9  g37 = some r → am_Ev zr MX12_isQuiet 7 148 [(0, .ref 0), (1, .int a1), (3, .int x2), (4, .int x13)] [] g37 (am_ri r)) h ?_ (fun j38 hj38 h => ?_)
              · intro  g37 r h
                try dsimp only at h
                refine ev_iconst dX12_isQuiet_148 rfl ?_
                refine ev_sub [0, 1, 2, 3] rfl ?_
                exact hj36 _ _ _ h
              · refine ev_if_ne 148 dX12_isQuiet_108 (by decide) (fun c33 => ?_) (fun c33 => ?_)
                · replace h := am_ifn c33 h
                  refine ev_sub [1, 2, 4, 5] rfl ?_
                  exact hj38  _ _ h
                · replace h := am_ifp c33 h
                  refine ev_aload_n 1 dX12_isQuiet_111 rfl ?_
                  refine ev_iconst dX12_isQuiet_112 rfl ?_
                  refine ev_aload_n 1 dX12_isQuiet_113 rfl ?_
                  refine ev_gf (v := .ref 2) dX12_isQuiet_114 (fun h9 => (h9.2.1 0 _ rfl).2) 3 (by decide) (by decide) kF_X12_13 (fun h9 => congrArg va_rf (h9.2.2 0 3 2 rfl)) ?_
                  refine ev_iload 0 dX12_isQuiet_117 rfl ?_
                  obtain ⟨c39, h⟩ := am_gd_elim h
                  refine ev_iald dX12_isQuiet_119 (fun h9 => (h9.2.1 2 _ rfl).2) (am_in_vp c39) ?_
                  refine ev_aload_n 1 dX12_isQuiet_120 rfl ?_
                  refine ev_gf (v := .ref 2) dX12_isQuiet_121 (fun h9 => (h9.2.1 0 _ rfl).2) 3 (by decide) (by decide) kF_X12_13 (fun h9 => congrArg va_rf (h9.2.2 0 3 2 rfl)) ?_
                  refine ev_iload 0 dX12_isQuiet_124 rfl ?_
                  refine ev_iconst dX12_isQuiet_126 rfl ?_
                  refine ev_iadd dX12_isQuiet_127 ?_
                  obtain ⟨c40, h⟩ := am_gd_elim h
                  refine ev_iald dX12_isQuiet_128 (fun h9 => (h9.2.1 2 _ rfl).2) (am_in_vp c40) ?_
                  refine ev_aload_n 1 dX12_isQuiet_129 rfl ?_
                  refine ev_gf (v := .ref 2) dX12_isQuiet_130 (fun h9 => (h9.2.1 0 _ rfl).2) 3 (by decide) (by decide) kF_X12_13 (fun h9 => congrArg va_rf (h9.2.2 0 3 2 rfl)) ?_
                  refine ev_iload 0 dX12_isQuiet_133 rfl ?_
                  refine ev_iconst dX12_isQuiet_135 rfl ?_
                  refine ev_iadd dX12_isQuiet_136 ?_
                  obtain ⟨c41, h⟩ := am_gd_elim h
                  refine ev_iald dX12_isQuiet_137 (fun h9 => (h9.2.1 2 _ rfl).2) (am_in_vp c41) ?_
                  obtain ⟨v42, g43, e44, h⟩ := am_bd_elim h
                  refine ev_callVi (v := v42) [.int (0 : Int32), .int (am_I g31 2 x20.toNatClampNeg), .int (am_I g31 2 (x20 + (1 : Int32)).toNatClampNeg), .int (am_I g31 2 (x20 + (2 : Int32)).toNatClampNeg)] [] dX12_isQuiet_138 (tX12_sayIt e44) (by decide) mo_X12_sayIt kM_X12_454 ki_X12_sayIt kv_X12_sayIt (fun h9 => (h9.2.1 0 _ rfl).2) (by decide) rfl (Nat.le_of_ble_eq_true rfl) ?_
                  refine ev_if_ne 148 dX12_isQuiet_141 (by decide) (fun c45 => ?_) (fun c45 => ?_)
                  · replace h := am_ifn c45 h
                    refine ev_sub [1, 2, 4, 5] rfl ?_
                    exact hj38  _ _ h
                  · replace h := am_ifp c45 h
                    refine ev_iconst dX12_isQuiet_144 rfl ?_
                    refine ev_goto 149 dX12_isQuiet_145 (by decide) ?_
                    refine ev_sub [1, 2, 4, 5] rfl ?_
                    exact hj36 _ _ _ h
set_option maxRecDepth 100000 in
set_option maxHeartbeats 4000000 in
theorem tfX12_isQuiet_L4  (a1 : Int32) : ∀ (n : Nat) (x1 : Int32) (x2 : Int32) (g3 : am_G) (r : Int32 × am_G), fX12_isQuiet_L4 a1 n x1 x2 g3 = some r → am_Ev zr MX12_isQuiet 7 4 [(0, .ref 0), (1, .int a1), (2, .int x1), (3, .int x2)] [] g3 (am_ri r) := by
  intro n
  induction n with
  | zero => intro x1 x2 g3 r h; exact nomatch (show (none : Option (Int32 × am_G)) = some r from h)
  | succ n ih =>
    intro x1 x2 g3 r h
    rw [fX12_isQuiet_L4] at h
    refine ev_iload_n 3 dX12_isQuiet_4 rfl ?_
    refine ev_iload_n 1 dX12_isQuiet_5 rfl ?_
    refine ev_icmp_ge 162 dX12_isQuiet_6 (by decide) (fun c4 => ?_) (fun c4 => ?_)
    · replace h := am_ifp c4 h
      refine ev_iload_n 2 dX12_isQuiet_162 rfl ?_
      obtain ⟨c5, h⟩ := am_gd_elim h
      cases h
      exact ev_zret dX12_isQuiet_163 rfl (am_zb_n c5)
    · replace h := am_ifn c4 h
      refine ev_iload_n 2 dX12_isQuiet_9 rfl ?_
      refine ev_if_eq 162 dX12_isQuiet_10 (by decide) (fun c6 => ?_) (fun c6 => ?_)
      · replace h := am_ifp c6 h
        refine ev_iload_n 2 dX12_isQuiet_162 rfl ?_
        obtain ⟨c7, h⟩ := am_gd_elim h
        cases h
        exact ev_zret dX12_isQuiet_163 rfl (am_zb_n c7)
      · replace h := am_ifn c6 h
        refine ev_iload_n 3 dX12_isQuiet_13 rfl ?_
        refine am_jn_elim (fun q9 => ∀ (x9 : Int32) (g10 : am_G) (r : Int32 × am_G), q9 x9 g10 = some r → am_Ev zr MX12_isQuiet 7 40 [(0, .ref 0), (1, .int a1), (2, .int x9), (3, .int x2)] [] g10 (am_ri r)) h ?_ (fun j11 hj11 h => ?_)
        · intro x9 g10 r h
          try dsimp only at h
          refine ev_iconst dX12_isQuiet_40 rfl ?_
          refine ev_istore (ls' := [(4, .int (0 : Int32)), (0, .ref 0), (1, .int a1), (2, .int x9), (3, .int x2)]) dX12_isQuiet_41 (by decide) rfl ?_
          refine ev_sub [1, 2, 3, 4, 0] rfl ?_
          refine tfX12_isQuiet_L43 a1 x2 ?_ _ _ _ _ _ h
          intro x46 g47 r h
          try dsimp only at h
          obtain ⟨x48, ex48, h⟩ := am_let_ex h
          refine ev_iinc (ls' := [(3, .int x48), (0, .ref 0), (1, .int a1), (2, .int x46)]) 3 dX12_isQuiet_156 rfl ex48 (by decide) rfl ?_
          refine ev_goto 4 dX12_isQuiet_159 (by decide) ?_
          refine ev_sub [1, 2, 3, 0] rfl ?_
          exact ih _ _ _ _ h
        · refine ev_if_le 40 dX12_isQuiet_14 (by decide) (fun c8 => ?_) (fun c8 => ?_)
          · replace h := am_ifp c8 h
            refine ev_sub [0, 1, 2, 3] rfl ?_
            exact hj11 _ _ _ h
          · replace h := am_ifn c8 h
            refine ev_aload_n 0 dX12_isQuiet_17 rfl ?_
            obtain ⟨v49, g50, e51, h⟩ := am_bd_elim h
            refine ev_callVi (v := v49) [] [] dX12_isQuiet_18 (tX12_day e51) (by decide) mo_X12_day kM_X12_413 ki_X12_day kv_X12_day (fun h9 => (h9.2.1 0 _ rfl).2) (by decide) rfl (Nat.le_of_ble_eq_true rfl) ?_
            refine ev_sipush dX12_isQuiet_21 rfl ?_
            refine am_jn_elim (fun q9 => ∀ (x53 : Int32) (g54 : am_G) (r : Int32 × am_G), q9 x53 g54 = some r → am_Ev zr MX12_isQuiet 7 39 [(0, .ref 0), (1, .int a1), (3, .int x2)] [.int x53] g54 (am_ri r)) h ?_ (fun j55 hj55 h => ?_)
            · intro x53 g54 r h
              try dsimp only at h
              refine ev_istore_n (ls' := [(2, .int x53), (0, .ref 0), (1, .int a1), (3, .int x2)]) dX12_isQuiet_39 rfl (by decide) rfl ?_
              refine ev_sub [1, 2, 0, 3] rfl ?_
              exact hj11 _ _ _ h
            · refine am_jn_elim (fun q9 => ∀  (g56 : am_G) (r : Int32 × am_G), q9  g56 = some r → am_Ev zr MX12_isQuiet 7 38 [(0, .ref 0), (1, .int a1), (3, .int x2)] [] g56 (am_ri r)) h ?_ (fun j57 hj57 h => ?_)
              · intro  g56 r h
                try dsimp only at h
                refine ev_iconst dX12_isQuiet_38 rfl ?_
                refine ev_sub [0, 1, 2] rfl ?_
                exact hj55 _ _ _ h
              · refine ev_icmp_ge 38 dX12_isQuiet_24 (by decide) (fun c52 => ?_) (fun c52 => ?_)
                · replace h := am_ifp c52 h
                  refine ev_sub [0, 1, 3] rfl ?_
                  exact hj57  _ _ h
                · replace h := am_ifn c52 h
                  refine ev_aload_n 0 dX12_isQuiet_27 rfl ?_
                  obtain ⟨v58, g59, e60, h⟩ := am_bd_elim h
                  refine ev_callVi (v := v58) [] [] dX12_isQuiet_28 (tX12_dawnIt e60) (by decide) mo_X12_dawnIt kM_X12_457 ki_X12_dawnIt kv_X12_dawnIt (fun h9 => (h9.2.1 0 _ rfl).2) (by decide) rfl (Nat.le_of_ble_eq_true rfl) ?_
                  refine ev_if_ne 38 dX12_isQuiet_31 (by decide) (fun c61 => ?_) (fun c61 => ?_)
                  · replace h := am_ifn c61 h
                    refine ev_sub [0, 1, 3] rfl ?_
                    exact hj57  _ _ h
                  · replace h := am_ifp c61 h
                    refine ev_iconst dX12_isQuiet_34 rfl ?_
                    refine ev_goto 39 dX12_isQuiet_35 (by decide) ?_
                    refine ev_sub [0, 1, 3] rfl ?_
                    exact hj55 _ _ _ h
set_option maxRecDepth 100000 in
set_option maxHeartbeats 4000000 in
theorem eX12_isQuiet (a1 : Int32) (g : am_G) (r : Int32 × am_G) (h : fX12_isQuiet a1 g = some r) : am_Ev zr MX12_isQuiet 7 0 [(0, .ref 0), (1, .int a1)] [] g (am_ri r) := by
  unfold fX12_isQuiet at h
  refine ev_iconst dX12_isQuiet_0 rfl ?_
  refine ev_istore_n (ls' := [(2, .int (1 : Int32)), (0, .ref 0), (1, .int a1)]) dX12_isQuiet_1 rfl (by decide) rfl ?_
  refine ev_iconst dX12_isQuiet_2 rfl ?_
  refine ev_istore_n (ls' := [(3, .int (0 : Int32)), (2, .int (1 : Int32)), (0, .ref 0), (1, .int a1)]) dX12_isQuiet_3 rfl (by decide) rfl ?_
  refine ev_sub [2, 3, 1, 0] rfl ?_
  exact tfX12_isQuiet_L4 a1 _ _ _ _ _ h
theorem tX12_isQuiet {a1 : Int32} {g : am_G} {r : Int32 × am_G} (h : fX12_isQuiet a1 g = some r) : am_Mt zr MX12_isQuiet 7 [.ref 0, .int a1] g (am_ri r) := am_Mt.of rfl (Nat.le_of_ble_eq_true rfl) (eX12_isQuiet _ _ _ h)
