def fX11_plan (a1 : Int32) (a2 : Int32) (g : am_G) : Option (Int32 × am_G) :=
  am_bd (fX11_within a1 (1 : Int32) (4 : Int32) g) fun v1 g2 =>
  if v1 = 0 then (
    some ((-1 : Int32), g2))
  else (
    am_bd (fX11_within a2 (-1 : Int32) ((am_I g2 1 15) - (1 : Int32)) g2) fun v5 g6 =>
    if v5 = 0 then (
      some ((-1 : Int32), g6))
    else (
      am_bd (fX11_lookAhead a1 g6) fun v9 g10 =>
      if v9 = 0 then (
        some ((-1 : Int32), g10))
      else (
        am_bd (fX4_begin a1 g10) fun u13 g14 =>
        am_bd (fX4_search 64 (0 : Int32) g14) fun u16 g17 =>
        if (am_I g17 45 8) = 0 then (
          some ((-1 : Int32), g17))
        else (
          if a2 = (-1 : Int32) then (
            some (am_I g17 45 8, g17))
          else (
            am_gd (am_in a2 6) <|
            some (am_I g17 50 a2.toNatClampNeg, g17))))))
set_option maxRecDepth 100000 in
set_option maxHeartbeats 4000000 in
theorem eX11_plan (a1 : Int32) (a2 : Int32) (g : am_G) (r : Int32 × am_G) (h : fX11_plan a1 a2 g = some r) : am_Ev zc MX11_plan 65 0 [(0, .ref 0), (1, .int a1), (2, .int a2)] [] g (am_ri r) := by
  unfold fX11_plan at h
  refine ev_iload_n 1 dX11_plan_0 rfl ?_
  refine ev_iconst dX11_plan_1 rfl ?_
  refine ev_iconst dX11_plan_2 rfl ?_
  obtain ⟨v1, g2, e3, h⟩ := am_bd_elim h
  refine ev_callSi (v := v1) [.int a1, .int (1 : Int32), .int (4 : Int32)] [] dX11_plan_3 (tX11_within e3) (by decide) mo_X11_within kM_X11_136 ks_X11_within (Nat.le_of_ble_eq_true rfl) ?_
  refine ev_if_eq 34 dX11_plan_6 (by decide) (fun c4 => ?_) (fun c4 => ?_)
  · replace h := am_ifp c4 h
    refine ev_iconst dX11_plan_34 rfl ?_
    cases h
    exact ev_iret dX11_plan_35 rfl
  · replace h := am_ifn c4 h
    refine ev_iload_n 2 dX11_plan_9 rfl ?_
    refine ev_iconst dX11_plan_10 rfl ?_
    refine ev_aload_n 0 dX11_plan_11 rfl ?_
    refine ev_gf (v := .ref 1) dX11_plan_12 (fun h9 => (h9.2.1 0 _ rfl).2) 0 (by decide) (by decide) kF_X11_14 (fun h9 => congrArg va_rf (h9.2.2 0 0 1 rfl)) ?_
    refine ev_gf (v := .int (am_I g2 1 15)) dX11_plan_15 (fun h9 => (h9.2.1 1 _ rfl).2) 15 (by decide) (by decide) kF_X11_369 (fun _ => rfl) ?_
    refine ev_iconst dX11_plan_18 rfl ?_
    refine ev_isub dX11_plan_19 ?_
    obtain ⟨v5, g6, e7, h⟩ := am_bd_elim h
    refine ev_callSi (v := v5) [.int a2, .int (-1 : Int32), .int ((am_I g2 1 15) - (1 : Int32))] [] dX11_plan_20 (tX11_within e7) (by decide) mo_X11_within kM_X11_136 ks_X11_within (Nat.le_of_ble_eq_true rfl) ?_
    refine ev_if_eq 34 dX11_plan_23 (by decide) (fun c8 => ?_) (fun c8 => ?_)
    · replace h := am_ifp c8 h
      refine ev_iconst dX11_plan_34 rfl ?_
      cases h
      exact ev_iret dX11_plan_35 rfl
    · replace h := am_ifn c8 h
      refine ev_aload_n 0 dX11_plan_26 rfl ?_
      refine ev_iload_n 1 dX11_plan_27 rfl ?_
      obtain ⟨v9, g10, e11, h⟩ := am_bd_elim h
      refine ev_callVi (v := v9) [.int a1] [] dX11_plan_28 (tX11_lookAhead e11) (by decide) mo_X11_lookAhead kM_X11_381 ki_X11_lookAhead kv_X11_lookAhead (fun h9 => (h9.2.1 0 _ rfl).2) (by decide) rfl (Nat.le_of_ble_eq_true rfl) ?_
      refine ev_if_ne 36 dX11_plan_31 (by decide) (fun c12 => ?_) (fun c12 => ?_)
      · replace h := am_ifn c12 h
        refine ev_aload_n 0 dX11_plan_36 rfl ?_
        refine ev_gf (v := .ref 45) dX11_plan_37 (fun h9 => (h9.2.1 0 _ rfl).2) 6 (by decide) (by decide) kF_X11_57 (fun h9 => congrArg va_rf (h9.2.2 0 6 45 rfl)) ?_
        refine ev_iload_n 1 dX11_plan_40 rfl ?_
        obtain ⟨u13, g14, e15, h⟩ := am_bd_elim h
        refine ev_callVv [.int a1] [] dX11_plan_41 (tX4_begin e15) (by decide) mo_X4_begin kM_X11_384 ki_X4_begin kv_X4_begin (fun h9 => (h9.2.1 45 _ rfl).2) (by decide) rfl (Nat.le_of_ble_eq_true rfl) ?_
        refine ev_aload_n 0 dX11_plan_44 rfl ?_
        refine ev_gf (v := .ref 45) dX11_plan_45 (fun h9 => (h9.2.1 0 _ rfl).2) 6 (by decide) (by decide) kF_X11_57 (fun h9 => congrArg va_rf (h9.2.2 0 6 45 rfl)) ?_
        refine ev_iconst dX11_plan_48 rfl ?_
        obtain ⟨u16, g17, e18, h⟩ := am_bd_elim h
        refine ev_callVNv [.int (0 : Int32)] [] dX11_plan_49 (tX4_search_f e18) (by decide) mo_X4_search kN_X11_387 ki_X4_search kv_X4_search (fun h9 => (h9.2.1 45 _ rfl).2) (by decide) rfl (Nat.le_of_ble_eq_true rfl) ?_
        refine ev_aload_n 0 dX11_plan_52 rfl ?_
        refine ev_gf (v := .ref 45) dX11_plan_53 (fun h9 => (h9.2.1 0 _ rfl).2) 6 (by decide) (by decide) kF_X11_57 (fun h9 => congrArg va_rf (h9.2.2 0 6 45 rfl)) ?_
        refine ev_gf (v := .int (am_I g17 45 8)) dX11_plan_56 (fun h9 => (h9.2.1 45 _ rfl).2) 8 (by decide) (by decide) kF_X11_389 (fun _ => rfl) ?_
        refine ev_if_ne 64 dX11_plan_59 (by decide) (fun c19 => ?_) (fun c19 => ?_)
        · replace h := am_ifn c19 h
          refine ev_iload_n 2 dX11_plan_64 rfl ?_
          refine ev_iconst dX11_plan_65 rfl ?_
          refine ev_icmp_ne 79 dX11_plan_66 (by decide) (fun c20 => ?_) (fun c20 => ?_)
          · replace h := am_ifn c20 h
            refine ev_aload_n 0 dX11_plan_79 rfl ?_
            refine ev_gf (v := .ref 45) dX11_plan_80 (fun h9 => (h9.2.1 0 _ rfl).2) 6 (by decide) (by decide) kF_X11_57 (fun h9 => congrArg va_rf (h9.2.2 0 6 45 rfl)) ?_
            refine ev_gf (v := .ref 50) dX11_plan_83 (fun h9 => (h9.2.1 45 _ rfl).2) 6 (by decide) (by decide) kF_X11_390 (fun h9 => congrArg va_rf (h9.2.2 45 6 50 rfl)) ?_
            refine ev_iload_n 2 dX11_plan_86 rfl ?_
            obtain ⟨c21, h⟩ := am_gd_elim h
            refine ev_iald dX11_plan_87 (fun h9 => (h9.2.1 50 _ rfl).2) (am_in_vp c21) ?_
            cases h
            exact ev_iret dX11_plan_88 rfl
          · replace h := am_ifp c20 h
            refine ev_aload_n 0 dX11_plan_69 rfl ?_
            refine ev_gf (v := .ref 45) dX11_plan_70 (fun h9 => (h9.2.1 0 _ rfl).2) 6 (by decide) (by decide) kF_X11_57 (fun h9 => congrArg va_rf (h9.2.2 0 6 45 rfl)) ?_
            refine ev_gf (v := .int (am_I g17 45 8)) dX11_plan_73 (fun h9 => (h9.2.1 45 _ rfl).2) 8 (by decide) (by decide) kF_X11_389 (fun _ => rfl) ?_
            refine ev_goto 88 dX11_plan_76 (by decide) ?_
            cases h
            exact ev_iret dX11_plan_88 rfl
        · replace h := am_ifp c19 h
          refine ev_iconst dX11_plan_62 rfl ?_
          cases h
          exact ev_iret dX11_plan_63 rfl
      · replace h := am_ifp c12 h
        refine ev_iconst dX11_plan_34 rfl ?_
        cases h
        exact ev_iret dX11_plan_35 rfl
theorem tX11_plan {a1 : Int32} {a2 : Int32} {g : am_G} {r : Int32 × am_G} (h : fX11_plan a1 a2 g = some r) : am_Mt zc MX11_plan 65 [.ref 0, .int a1, .int a2] g (am_ri r) := am_Mt.of rfl (Nat.le_of_ble_eq_true rfl) (eX11_plan _ _ _ _ h)
def fX11_bring_L64 (k : Int32 → am_G → Option (Int32 × am_G)) (a3 : Int32) : Nat → Int32 → am_G → Option (Int32 × am_G)
  | 0, _, _ => none
  | n + 1, x20, g21 =>
    if (3 : Int32) < x20 then (
      some ((-1 : Int32), g21))
    else (
      am_bd (fX1_search 64 (0 : Int32) x20 (0 : Int32) g21) fun v25 g26 =>
      if v25 = 0 then (
        am_let (x20 + (1 : Int32)) fun x29 =>
        fX11_bring_L64 k a3 n x29 g26)
      else (
        k x20 g26))
def fX11_bring (a1 : Int32) (a2 : Int32) (a3 : Int32) (g : am_G) : Option (Int32 × am_G) :=
  am_bd (fX11_isSlope a1 g) fun v1 g2 =>
  if v1 = 0 then (
    some ((-1 : Int32), g2))
  else (
    am_bd (fX11_isPlace a2 g2) fun v5 g6 =>
    if v5 = 0 then (
      some ((-1 : Int32), g6))
    else (
      am_bd (fX11_within a3 (-1 : Int32) (2 : Int32) g6) fun v9 g10 =>
      if v9 = 0 then (
        some ((-1 : Int32), g10))
      else (
        am_gd (am_in a1 6) <|
        am_jn (fun  (g15 : am_G) =>
          am_bd (fX1_begin a1 a2 g15) fun u17 g18 =>
          fX11_bring_L64 (fun (x30 : Int32) (g31 : am_G) =>
            if a3 = (-1 : Int32) then (
              some (x30, g31))
            else (
              if x30 ≤ a3 then (
                some ((-1 : Int32), g31))
              else (
                am_gd (am_in a3 3) <|
                some (am_I g31 61 a3.toNatClampNeg, g31)))) a3 am_fu (1 : Int32) g18) fun j16 =>
        if (am_I g10 9 a1.toNatClampNeg) = (-1 : Int32) then (
          am_gd (am_in a1 6) <|
          if (am_I g10 10 a1.toNatClampNeg) = 0 then (
            some ((-1 : Int32), g10))
          else (
            j16 g10))
        else (
          j16 g10))))
set_option maxRecDepth 100000 in
set_option maxHeartbeats 4000000 in
theorem tfX11_bring_L64  {k : Int32 → am_G → Option (Int32 × am_G)} (a3 : Int32) (hk : ∀ (x22 : Int32) (g23 : am_G) (r : Int32 × am_G), k x22 g23 = some r → am_Ev zc MX11_bring 70 84 [(0, .ref 0), (3, .int a3), (4, .int x22)] [] g23 (am_ri r)) : ∀ (n : Nat) (x20 : Int32) (g21 : am_G) (r : Int32 × am_G), fX11_bring_L64 k a3 n x20 g21 = some r → am_Ev zc MX11_bring 70 64 [(0, .ref 0), (3, .int a3), (4, .int x20)] [] g21 (am_ri r) := by
  intro n
  induction n with
  | zero => intro x20 g21 r h; exact nomatch (show (none : Option (Int32 × am_G)) = some r from h)
  | succ n ih =>
    intro x20 g21 r h
    rw [fX11_bring_L64] at h
    refine ev_iload 2 dX11_bring_64 rfl ?_
    refine ev_iconst dX11_bring_66 rfl ?_
    refine ev_icmp_gt 120 dX11_bring_67 (by decide) (fun c24 => ?_) (fun c24 => ?_)
    · replace h := am_ifp c24 h
      refine ev_iconst dX11_bring_120 rfl ?_
      cases h
      exact ev_iret dX11_bring_121 rfl
    · replace h := am_ifn c24 h
      refine ev_aload_n 0 dX11_bring_70 rfl ?_
      refine ev_gf (v := .ref 51) dX11_bring_71 (fun h9 => (h9.2.1 0 _ rfl).2) 7 (by decide) (by decide) kF_X11_64 (fun h9 => congrArg va_rf (h9.2.2 0 7 51 rfl)) ?_
      refine ev_iconst dX11_bring_74 rfl ?_
      refine ev_iload 2 dX11_bring_75 rfl ?_
      refine ev_iconst dX11_bring_77 rfl ?_
      obtain ⟨v25, g26, e27, h⟩ := am_bd_elim h
      refine ev_callVNi (v := v25) [.int (0 : Int32), .int x20, .int (0 : Int32)] [] dX11_bring_78 (tX1_search_f e27) (by decide) mo_X1_search kN_X11_397 ki_X1_search kv_X1_search (fun h9 => (h9.2.1 51 _ rfl).2) (by decide) rfl (Nat.le_of_ble_eq_true rfl) ?_
      refine ev_if_eq 114 dX11_bring_81 (by decide) (fun c28 => ?_) (fun c28 => ?_)
      · replace h := am_ifp c28 h
        obtain ⟨x29, ex29, h⟩ := am_let_ex h
        refine ev_iinc (ls' := [(4, .int x29), (0, .ref 0), (3, .int a3)]) 2 dX11_bring_114 rfl ex29 (by decide) rfl ?_
        refine ev_goto 64 dX11_bring_117 (by decide) ?_
        refine ev_sub [1, 2, 0] rfl ?_
        exact ih _ _ _ h
      · replace h := am_ifn c28 h
        refine ev_sub [0, 1, 2] rfl ?_
        exact hk _ _ _ h
set_option maxRecDepth 100000 in
set_option maxHeartbeats 4000000 in
theorem eX11_bring (a1 : Int32) (a2 : Int32) (a3 : Int32) (g : am_G) (r : Int32 × am_G) (h : fX11_bring a1 a2 a3 g = some r) : am_Ev zc MX11_bring 70 0 [(0, .ref 0), (1, .int a1), (2, .int a2), (3, .int a3)] [] g (am_ri r) := by
  unfold fX11_bring at h
  refine ev_iload_n 1 dX11_bring_0 rfl ?_
  obtain ⟨v1, g2, e3, h⟩ := am_bd_elim h
  refine ev_callSi (v := v1) [.int a1] [] dX11_bring_1 (tX11_isSlope e3) (by decide) mo_X11_isSlope kM_X11_96 ks_X11_isSlope (Nat.le_of_ble_eq_true rfl) ?_
  refine ev_if_eq 23 dX11_bring_4 (by decide) (fun c4 => ?_) (fun c4 => ?_)
  · replace h := am_ifp c4 h
    refine ev_iconst dX11_bring_23 rfl ?_
    cases h
    exact ev_iret dX11_bring_24 rfl
  · replace h := am_ifn c4 h
    refine ev_iload_n 2 dX11_bring_7 rfl ?_
    obtain ⟨v5, g6, e7, h⟩ := am_bd_elim h
    refine ev_callSi (v := v5) [.int a2] [] dX11_bring_8 (tX11_isPlace e7) (by decide) mo_X11_isPlace kM_X11_274 ks_X11_isPlace (Nat.le_of_ble_eq_true rfl) ?_
    refine ev_if_eq 23 dX11_bring_11 (by decide) (fun c8 => ?_) (fun c8 => ?_)
    · replace h := am_ifp c8 h
      refine ev_iconst dX11_bring_23 rfl ?_
      cases h
      exact ev_iret dX11_bring_24 rfl
    · replace h := am_ifn c8 h
      refine ev_iload_n 3 dX11_bring_14 rfl ?_
      refine ev_iconst dX11_bring_15 rfl ?_
      refine ev_iconst dX11_bring_16 rfl ?_
      obtain ⟨v9, g10, e11, h⟩ := am_bd_elim h
      refine ev_callSi (v := v9) [.int a3, .int (-1 : Int32), .int (2 : Int32)] [] dX11_bring_17 (tX11_within e11) (by decide) mo_X11_within kM_X11_136 ks_X11_within (Nat.le_of_ble_eq_true rfl) ?_
      refine ev_if_ne 25 dX11_bring_20 (by decide) (fun c12 => ?_) (fun c12 => ?_)
      · replace h := am_ifn c12 h
        refine ev_aload_n 0 dX11_bring_25 rfl ?_
        refine ev_gf (v := .ref 1) dX11_bring_26 (fun h9 => (h9.2.1 0 _ rfl).2) 0 (by decide) (by decide) kF_X11_14 (fun h9 => congrArg va_rf (h9.2.2 0 0 1 rfl)) ?_
        refine ev_gf (v := .ref 9) dX11_bring_29 (fun h9 => (h9.2.1 1 _ rfl).2) 2 (by decide) (by decide) kF_X11_121 (fun h9 => congrArg va_rf (h9.2.2 1 2 9 rfl)) ?_
        refine ev_iload_n 1 dX11_bring_32 rfl ?_
        obtain ⟨c13, h⟩ := am_gd_elim h
        refine ev_iald dX11_bring_33 (fun h9 => (h9.2.1 9 _ rfl).2) (am_in_vp c13) ?_
        refine ev_iconst dX11_bring_34 rfl ?_
        refine am_jn_elim (fun q9 => ∀  (g15 : am_G) (r : Int32 × am_G), q9  g15 = some r → am_Ev zc MX11_bring 70 52 [(0, .ref 0), (1, .int a1), (2, .int a2), (3, .int a3)] [] g15 (am_ri r)) h ?_ (fun j16 hj16 h => ?_)
        · intro  g15 r h
          try dsimp only at h
          refine ev_aload_n 0 dX11_bring_52 rfl ?_
          refine ev_gf (v := .ref 51) dX11_bring_53 (fun h9 => (h9.2.1 0 _ rfl).2) 7 (by decide) (by decide) kF_X11_64 (fun h9 => congrArg va_rf (h9.2.2 0 7 51 rfl)) ?_
          refine ev_iload_n 1 dX11_bring_56 rfl ?_
          refine ev_iload_n 2 dX11_bring_57 rfl ?_
          obtain ⟨u17, g18, e19, h⟩ := am_bd_elim h
          refine ev_callVv [.int a1, .int a2] [] dX11_bring_58 (tX1_begin e19) (by decide) mo_X1_begin kM_X11_395 ki_X1_begin kv_X1_begin (fun h9 => (h9.2.1 51 _ rfl).2) (by decide) rfl (Nat.le_of_ble_eq_true rfl) ?_
          refine ev_iconst dX11_bring_61 rfl ?_
          refine ev_istore (ls' := [(4, .int (1 : Int32)), (0, .ref 0), (1, .int a1), (2, .int a2), (3, .int a3)]) dX11_bring_62 (by decide) rfl ?_
          refine ev_sub [1, 4, 0] rfl ?_
          refine tfX11_bring_L64 a3 ?_ _ _ _ _ h
          intro x30 g31 r h
          try dsimp only at h
          refine ev_iload_n 1 dX11_bring_84 rfl ?_
          refine ev_iconst dX11_bring_85 rfl ?_
          refine ev_icmp_ne 94 dX11_bring_86 (by decide) (fun c32 => ?_) (fun c32 => ?_)
          · replace h := am_ifn c32 h
            refine ev_iload_n 1 dX11_bring_94 rfl ?_
            refine ev_iload 2 dX11_bring_95 rfl ?_
            refine ev_icmp_ge 112 dX11_bring_97 (by decide) (fun c33 => ?_) (fun c33 => ?_)
            · replace h := am_ifp c33 h
              refine ev_iconst dX11_bring_112 rfl ?_
              cases h
              exact ev_iret dX11_bring_113 rfl
            · replace h := am_ifn c33 h
              refine ev_aload_n 0 dX11_bring_100 rfl ?_
              refine ev_gf (v := .ref 51) dX11_bring_101 (fun h9 => (h9.2.1 0 _ rfl).2) 7 (by decide) (by decide) kF_X11_64 (fun h9 => congrArg va_rf (h9.2.2 0 7 51 rfl)) ?_
              refine ev_gf (v := .ref 61) dX11_bring_104 (fun h9 => (h9.2.1 51 _ rfl).2) 11 (by decide) (by decide) kF_X11_399 (fun h9 => congrArg va_rf (h9.2.2 51 11 61 rfl)) ?_
              refine ev_iload_n 1 dX11_bring_107 rfl ?_
              obtain ⟨c34, h⟩ := am_gd_elim h
              refine ev_iald dX11_bring_108 (fun h9 => (h9.2.1 61 _ rfl).2) (am_in_vp c34) ?_
              refine ev_goto 113 dX11_bring_109 (by decide) ?_
              cases h
              exact ev_iret dX11_bring_113 rfl
          · replace h := am_ifp c32 h
            refine ev_iload 2 dX11_bring_89 rfl ?_
            refine ev_goto 113 dX11_bring_91 (by decide) ?_
            cases h
            exact ev_iret dX11_bring_113 rfl
        · refine ev_icmp_ne 52 dX11_bring_35 (by decide) (fun c14 => ?_) (fun c14 => ?_)
          · replace h := am_ifn c14 h
            refine ev_sub [0, 1, 2, 3] rfl ?_
            exact hj16  _ _ h
          · replace h := am_ifp c14 h
            refine ev_aload_n 0 dX11_bring_38 rfl ?_
            refine ev_gf (v := .ref 1) dX11_bring_39 (fun h9 => (h9.2.1 0 _ rfl).2) 0 (by decide) (by decide) kF_X11_14 (fun h9 => congrArg va_rf (h9.2.2 0 0 1 rfl)) ?_
            refine ev_gf (v := .ref 10) dX11_bring_42 (fun h9 => (h9.2.1 1 _ rfl).2) 3 (by decide) (by decide) kF_X11_124 (fun h9 => congrArg va_rf (h9.2.2 1 3 10 rfl)) ?_
            refine ev_iload_n 1 dX11_bring_45 rfl ?_
            obtain ⟨c35, h⟩ := am_gd_elim h
            refine ev_iald dX11_bring_46 (fun h9 => (h9.2.1 10 _ rfl).2) (am_in_vp c35) ?_
            refine ev_if_ne 52 dX11_bring_47 (by decide) (fun c36 => ?_) (fun c36 => ?_)
            · replace h := am_ifn c36 h
              refine ev_sub [0, 1, 2, 3] rfl ?_
              exact hj16  _ _ h
            · replace h := am_ifp c36 h
              refine ev_iconst dX11_bring_50 rfl ?_
              cases h
              exact ev_iret dX11_bring_51 rfl
      · replace h := am_ifp c12 h
        refine ev_iconst dX11_bring_23 rfl ?_
        cases h
        exact ev_iret dX11_bring_24 rfl
theorem tX11_bring {a1 : Int32} {a2 : Int32} {a3 : Int32} {g : am_G} {r : Int32 × am_G} (h : fX11_bring a1 a2 a3 g = some r) : am_Mt zc MX11_bring 70 [.ref 0, .int a1, .int a2, .int a3] g (am_ri r) := am_Mt.of rfl (Nat.le_of_ble_eq_true rfl) (eX11_bring _ _ _ _ _ h)
def fX11_threat (a1 : Int32) (a2 : Int32) (a3 : Int32) (g : am_G) : Option (Int32 × am_G) :=
  am_bd (fX11_isSlope a1 g) fun v1 g2 =>
  if v1 = 0 then (
    some ((-1 : Int32), g2))
  else (
    am_bd (fX11_isPlace a2 g2) fun v5 g6 =>
    if v5 = 0 then (
      some ((-1 : Int32), g6))
    else (
      am_bd (fX11_within a3 (0 : Int32) (2 : Int32) g6) fun v9 g10 =>
      if v9 = 0 then (
        some ((-1 : Int32), g10))
      else (
        am_gd (am_in a1 6) <|
        am_let (am_I g10 3 a1.toNatClampNeg) fun x14 =>
        am_gd (am_in a1 6) <|
        am_gd (am_in a1 6) <|
        am_let (((am_I g10 8 a1.toNatClampNeg) - x14) - (am_I g10 4 a1.toNatClampNeg)) fun x17 =>
        if x14 = 0 then (
          some ((-1 : Int32), g10))
        else (
          if 0 ≤ x17 then (
            am_bd (fX7_prepare a1 a2 g10) fun u20 g21 =>
            am_bd (fX7_play x17 g21) fun u23 g24 =>
            if a3 = 0 then (
              if (am_I g24 62 4) ≤ 0 then (
                some ((0 : Int32), g24))
              else (
                some ((1 : Int32), g24)))
            else (
              if a3 = (1 : Int32) then (
                some (am_I g24 62 4, g24))
              else (
                some (am_I g24 62 5, g24))))
          else (
            some ((-1 : Int32), g10))))))
set_option maxRecDepth 100000 in
set_option maxHeartbeats 4000000 in
theorem eX11_threat (a1 : Int32) (a2 : Int32) (a3 : Int32) (g : am_G) (r : Int32 × am_G) (h : fX11_threat a1 a2 a3 g = some r) : am_Ev zc MX11_threat 5 0 [(0, .ref 0), (1, .int a1), (2, .int a2), (3, .int a3)] [] g (am_ri r) := by
  unfold fX11_threat at h
  refine ev_iload_n 1 dX11_threat_0 rfl ?_
  obtain ⟨v1, g2, e3, h⟩ := am_bd_elim h
  refine ev_callSi (v := v1) [.int a1] [] dX11_threat_1 (tX11_isSlope e3) (by decide) mo_X11_isSlope kM_X11_96 ks_X11_isSlope (Nat.le_of_ble_eq_true rfl) ?_
  refine ev_if_eq 23 dX11_threat_4 (by decide) (fun c4 => ?_) (fun c4 => ?_)
  · replace h := am_ifp c4 h
    refine ev_iconst dX11_threat_23 rfl ?_
    cases h
    exact ev_iret dX11_threat_24 rfl
  · replace h := am_ifn c4 h
    refine ev_iload_n 2 dX11_threat_7 rfl ?_
    obtain ⟨v5, g6, e7, h⟩ := am_bd_elim h
    refine ev_callSi (v := v5) [.int a2] [] dX11_threat_8 (tX11_isPlace e7) (by decide) mo_X11_isPlace kM_X11_274 ks_X11_isPlace (Nat.le_of_ble_eq_true rfl) ?_
    refine ev_if_eq 23 dX11_threat_11 (by decide) (fun c8 => ?_) (fun c8 => ?_)
    · replace h := am_ifp c8 h
      refine ev_iconst dX11_threat_23 rfl ?_
      cases h
      exact ev_iret dX11_threat_24 rfl
    · replace h := am_ifn c8 h
      refine ev_iload_n 3 dX11_threat_14 rfl ?_
      refine ev_iconst dX11_threat_15 rfl ?_
      refine ev_iconst dX11_threat_16 rfl ?_
      obtain ⟨v9, g10, e11, h⟩ := am_bd_elim h
      refine ev_callSi (v := v9) [.int a3, .int (0 : Int32), .int (2 : Int32)] [] dX11_threat_17 (tX11_within e11) (by decide) mo_X11_within kM_X11_136 ks_X11_within (Nat.le_of_ble_eq_true rfl) ?_
      refine ev_if_ne 25 dX11_threat_20 (by decide) (fun c12 => ?_) (fun c12 => ?_)
      · replace h := am_ifn c12 h
        refine ev_aload_n 0 dX11_threat_25 rfl ?_
        refine ev_gf (v := .ref 1) dX11_threat_26 (fun h9 => (h9.2.1 0 _ rfl).2) 0 (by decide) (by decide) kF_X11_14 (fun h9 => congrArg va_rf (h9.2.2 0 0 1 rfl)) ?_
        refine ev_gf (v := .ref 2) dX11_threat_29 (fun h9 => (h9.2.1 1 _ rfl).2) 0 (by decide) (by decide) kF_X11_112 (fun h9 => congrArg va_rf (h9.2.2 1 0 2 rfl)) ?_
        refine ev_gf (v := .ref 3) dX11_threat_32 (fun h9 => (h9.2.1 2 _ rfl).2) 0 (by decide) (by decide) kF_X11_115 (fun h9 => congrArg va_rf (h9.2.2 2 0 3 rfl)) ?_
        refine ev_iload_n 1 dX11_threat_35 rfl ?_
        obtain ⟨c13, h⟩ := am_gd_elim h
        refine ev_iald dX11_threat_36 (fun h9 => (h9.2.1 3 _ rfl).2) (am_in_vp c13) ?_
        refine am_let_elim (P := fun x14 => am_Ev zc MX11_threat 5 37 [(0, .ref 0), (1, .int a1), (2, .int a2), (3, .int a3)] [.int x14] g10 (am_ri r)) h fun x14 h => ?_
        refine ev_istore (ls' := [(4, .int x14), (0, .ref 0), (1, .int a1), (2, .int a2), (3, .int a3)]) dX11_threat_37 (by decide) rfl ?_
        refine ev_aload_n 1 dX11_threat_39 rfl ?_
        refine ev_gf (v := .ref 1) dX11_threat_40 (fun h9 => (h9.2.1 0 _ rfl).2) 0 (by decide) (by decide) kF_X11_14 (fun h9 => congrArg va_rf (h9.2.2 0 0 1 rfl)) ?_
        refine ev_gf (v := .ref 8) dX11_threat_43 (fun h9 => (h9.2.1 1 _ rfl).2) 1 (by decide) (by decide) kF_X11_118 (fun h9 => congrArg va_rf (h9.2.2 1 1 8 rfl)) ?_
        refine ev_iload_n 2 dX11_threat_46 rfl ?_
        obtain ⟨c15, h⟩ := am_gd_elim h
        refine ev_iald dX11_threat_47 (fun h9 => (h9.2.1 8 _ rfl).2) (am_in_vp c15) ?_
        refine ev_iload 0 dX11_threat_48 rfl ?_
        refine ev_isub dX11_threat_50 ?_
        refine ev_aload_n 1 dX11_threat_51 rfl ?_
        refine ev_gf (v := .ref 1) dX11_threat_52 (fun h9 => (h9.2.1 0 _ rfl).2) 0 (by decide) (by decide) kF_X11_14 (fun h9 => congrArg va_rf (h9.2.2 0 0 1 rfl)) ?_
        refine ev_gf (v := .ref 2) dX11_threat_55 (fun h9 => (h9.2.1 1 _ rfl).2) 0 (by decide) (by decide) kF_X11_112 (fun h9 => congrArg va_rf (h9.2.2 1 0 2 rfl)) ?_
        refine ev_gf (v := .ref 4) dX11_threat_58 (fun h9 => (h9.2.1 2 _ rfl).2) 1 (by decide) (by decide) kF_X11_139 (fun h9 => congrArg va_rf (h9.2.2 2 1 4 rfl)) ?_
        refine ev_iload_n 2 dX11_threat_61 rfl ?_
        obtain ⟨c16, h⟩ := am_gd_elim h
        refine ev_iald dX11_threat_62 (fun h9 => (h9.2.1 4 _ rfl).2) (am_in_vp c16) ?_
        refine ev_isub dX11_threat_63 ?_
        refine am_let_elim (P := fun x17 => am_Ev zc MX11_threat 5 64 [(4, .int x14), (0, .ref 0), (1, .int a1), (2, .int a2), (3, .int a3)] [.int x17] g10 (am_ri r)) h fun x17 h => ?_
        refine ev_istore (ls' := [(5, .int x17), (4, .int x14), (0, .ref 0), (1, .int a1), (2, .int a2), (3, .int a3)]) dX11_threat_64 (by decide) rfl ?_
        refine ev_iload 1 dX11_threat_66 rfl ?_
        refine ev_if_eq 76 dX11_threat_68 (by decide) (fun c18 => ?_) (fun c18 => ?_)
        · replace h := am_ifp c18 h
          refine ev_iconst dX11_threat_76 rfl ?_
          cases h
          exact ev_iret dX11_threat_77 rfl
        · replace h := am_ifn c18 h
          refine ev_iload 0 dX11_threat_71 rfl ?_
          refine ev_if_ge 78 dX11_threat_73 (by decide) (fun c19 => ?_) (fun c19 => ?_)
          · replace h := am_ifp c19 h
            refine ev_aload_n 2 dX11_threat_78 rfl ?_
            refine ev_gf (v := .ref 62) dX11_threat_79 (fun h9 => (h9.2.1 0 _ rfl).2) 8 (by decide) (by decide) kF_X11_71 (fun h9 => congrArg va_rf (h9.2.2 0 8 62 rfl)) ?_
            refine ev_iload_n 3 dX11_threat_82 rfl ?_
            refine ev_iload_n 4 dX11_threat_83 rfl ?_
            obtain ⟨u20, g21, e22, h⟩ := am_bd_elim h
            refine ev_callVv [.int a1, .int a2] [] dX11_threat_84 (tX7_prepare e22) (by decide) mo_X7_prepare kM_X11_402 ki_X7_prepare kv_X7_prepare (fun h9 => (h9.2.1 62 _ rfl).2) (by decide) rfl (Nat.le_of_ble_eq_true rfl) ?_
            refine ev_aload_n 2 dX11_threat_87 rfl ?_
            refine ev_gf (v := .ref 62) dX11_threat_88 (fun h9 => (h9.2.1 0 _ rfl).2) 8 (by decide) (by decide) kF_X11_71 (fun h9 => congrArg va_rf (h9.2.2 0 8 62 rfl)) ?_
            refine ev_iload 0 dX11_threat_91 rfl ?_
            obtain ⟨u23, g24, e25, h⟩ := am_bd_elim h
            refine ev_callVv [.int x17] [] dX11_threat_93 (tX7_play e25) (by decide) mo_X7_play kM_X11_403 ki_X7_play kv_X7_play (fun h9 => (h9.2.1 62 _ rfl).2) (by decide) rfl (Nat.le_of_ble_eq_true rfl) ?_
            refine ev_iload_n 5 dX11_threat_96 rfl ?_
            refine ev_if_ne 116 dX11_threat_97 (by decide) (fun c26 => ?_) (fun c26 => ?_)
            · replace h := am_ifn c26 h
              refine ev_iload_n 5 dX11_threat_116 rfl ?_
              refine ev_iconst dX11_threat_117 rfl ?_
              refine ev_icmp_ne 131 dX11_threat_118 (by decide) (fun c27 => ?_) (fun c27 => ?_)
              · replace h := am_ifn c27 h
                refine ev_aload_n 2 dX11_threat_131 rfl ?_
                refine ev_gf (v := .ref 62) dX11_threat_132 (fun h9 => (h9.2.1 0 _ rfl).2) 8 (by decide) (by decide) kF_X11_71 (fun h9 => congrArg va_rf (h9.2.2 0 8 62 rfl)) ?_
                refine ev_gf (v := .int (am_I g24 62 5)) dX11_threat_135 (fun h9 => (h9.2.1 62 _ rfl).2) 5 (by decide) (by decide) kF_X11_409 (fun _ => rfl) ?_
                cases h
                exact ev_iret dX11_threat_138 rfl
              · replace h := am_ifp c27 h
                refine ev_aload_n 2 dX11_threat_121 rfl ?_
                refine ev_gf (v := .ref 62) dX11_threat_122 (fun h9 => (h9.2.1 0 _ rfl).2) 8 (by decide) (by decide) kF_X11_71 (fun h9 => congrArg va_rf (h9.2.2 0 8 62 rfl)) ?_
                refine ev_gf (v := .int (am_I g24 62 4)) dX11_threat_125 (fun h9 => (h9.2.1 62 _ rfl).2) 4 (by decide) (by decide) kF_X11_406 (fun _ => rfl) ?_
                refine ev_goto 138 dX11_threat_128 (by decide) ?_
                cases h
                exact ev_iret dX11_threat_138 rfl
            · replace h := am_ifp c26 h
              refine ev_aload_n 2 dX11_threat_100 rfl ?_
              refine ev_gf (v := .ref 62) dX11_threat_101 (fun h9 => (h9.2.1 0 _ rfl).2) 8 (by decide) (by decide) kF_X11_71 (fun h9 => congrArg va_rf (h9.2.2 0 8 62 rfl)) ?_
              refine ev_gf (v := .int (am_I g24 62 4)) dX11_threat_104 (fun h9 => (h9.2.1 62 _ rfl).2) 4 (by decide) (by decide) kF_X11_406 (fun _ => rfl) ?_
              refine ev_if_le 114 dX11_threat_107 (by decide) (fun c28 => ?_) (fun c28 => ?_)
              · replace h := am_ifp c28 h
                refine ev_iconst dX11_threat_114 rfl ?_
                cases h
                exact ev_iret dX11_threat_115 rfl
              · replace h := am_ifn c28 h
                refine ev_iconst dX11_threat_110 rfl ?_
                refine ev_goto 115 dX11_threat_111 (by decide) ?_
                cases h
                exact ev_iret dX11_threat_115 rfl
          · replace h := am_ifn c19 h
            refine ev_iconst dX11_threat_76 rfl ?_
            cases h
            exact ev_iret dX11_threat_77 rfl
      · replace h := am_ifp c12 h
        refine ev_iconst dX11_threat_23 rfl ?_
        cases h
        exact ev_iret dX11_threat_24 rfl
theorem tX11_threat {a1 : Int32} {a2 : Int32} {a3 : Int32} {g : am_G} {r : Int32 × am_G} (h : fX11_threat a1 a2 a3 g = some r) : am_Mt zc MX11_threat 5 [.ref 0, .int a1, .int a2, .int a3] g (am_ri r) := am_Mt.of rfl (Nat.le_of_ble_eq_true rfl) (eX11_threat _ _ _ _ _ h)
def fX11_seen (a1 : Int32) (a2 : Int32) (a3 : Int32) (g : am_G) : Option (Int32 × am_G) :=
  am_bd (fX11_isSlope a1 g) fun v1 g2 =>
  if v1 = 0 then (
    am_bd (fX11_refused (-1 : Int32) g2) fun v5 g6 =>
    some (v5, g6))
  else (
    am_bd (fX11_within a2 (1 : Int32) (9999 : Int32) g2) fun v8 g9 =>
    if v8 = 0 then (
      am_bd (fX11_refused (-1 : Int32) g9) fun v12 g13 =>
      some (v12, g13))
    else (
      am_bd (fX11_within a3 (0 : Int32) (1 : Int32) g9) fun v15 g16 =>
      if v15 = 0 then (
        am_bd (fX11_refused (-1 : Int32) g16) fun v33 g34 =>
        some (v33, g34))
      else (
        if (am_I g16 1 16) < (10 : Int32) then (
          am_gd (am_in (am_I g16 1 16) 10) <|
          am_let (am_si g16 21 (am_I g16 1 16).toNatClampNeg a1) fun g21 =>
          am_gd (am_in (am_I g21 1 16) 10) <|
          am_let (am_si g21 22 (am_I g21 1 16).toNatClampNeg a2) fun g23 =>
          am_gd (am_in (am_I g23 1 16) 10) <|
          am_let (am_si g23 23 (am_I g23 1 16).toNatClampNeg a3) fun g25 =>
          am_let (am_si g25 1 16 ((am_I g25 1 16) + (1 : Int32))) fun g26 =>
          am_bd (fX11_accepted (am_I g26 1 16) g26) fun v27 g28 =>
          some (v27, g28))
        else (
          am_bd (fX11_refused (-5 : Int32) g16) fun v30 g31 =>
          some (v30, g31)))))
set_option maxRecDepth 100000 in
set_option maxHeartbeats 4000000 in
theorem eX11_seen (a1 : Int32) (a2 : Int32) (a3 : Int32) (g : am_G) (r : Int32 × am_G) (h : fX11_seen a1 a2 a3 g = some r) : am_Ev zc MX11_seen 2 0 [(0, .ref 0), (1, .int a1), (2, .int a2), (3, .int a3)] [] g (am_ri r) := by
  unfold fX11_seen at h
  refine ev_iload_n 1 dX11_seen_0 rfl ?_
  obtain ⟨v1, g2, e3, h⟩ := am_bd_elim h
  refine ev_callSi (v := v1) [.int a1] [] dX11_seen_1 (tX11_isSlope e3) (by decide) mo_X11_isSlope kM_X11_96 ks_X11_isSlope (Nat.le_of_ble_eq_true rfl) ?_
  refine ev_if_eq 27 dX11_seen_4 (by decide) (fun c4 => ?_) (fun c4 => ?_)
  · replace h := am_ifp c4 h
    refine ev_aload_n 0 dX11_seen_27 rfl ?_
    refine ev_iconst dX11_seen_28 rfl ?_
    obtain ⟨v5, g6, e7, h⟩ := am_bd_elim h
    refine ev_callVi (v := v5) [.int (-1 : Int32)] [] dX11_seen_29 (tX11_refused e7) (by decide) mo_X11_refused kM_X11_104 ki_X11_refused kv_X11_refused (fun h9 => (h9.2.1 0 _ rfl).2) (by decide) rfl (Nat.le_of_ble_eq_true rfl) ?_
    cases h
    exact ev_iret dX11_seen_32 rfl
  · replace h := am_ifn c4 h
    refine ev_iload_n 2 dX11_seen_7 rfl ?_
    refine ev_iconst dX11_seen_8 rfl ?_
    refine ev_sipush dX11_seen_9 rfl ?_
    obtain ⟨v8, g9, e10, h⟩ := am_bd_elim h
    refine ev_callSi (v := v8) [.int a2, .int (1 : Int32), .int (9999 : Int32)] [] dX11_seen_12 (tX11_within e10) (by decide) mo_X11_within kM_X11_136 ks_X11_within (Nat.le_of_ble_eq_true rfl) ?_
    refine ev_if_eq 27 dX11_seen_15 (by decide) (fun c11 => ?_) (fun c11 => ?_)
    · replace h := am_ifp c11 h
      refine ev_aload_n 0 dX11_seen_27 rfl ?_
      refine ev_iconst dX11_seen_28 rfl ?_
      obtain ⟨v12, g13, e14, h⟩ := am_bd_elim h
      refine ev_callVi (v := v12) [.int (-1 : Int32)] [] dX11_seen_29 (tX11_refused e14) (by decide) mo_X11_refused kM_X11_104 ki_X11_refused kv_X11_refused (fun h9 => (h9.2.1 0 _ rfl).2) (by decide) rfl (Nat.le_of_ble_eq_true rfl) ?_
      cases h
      exact ev_iret dX11_seen_32 rfl
    · replace h := am_ifn c11 h
      refine ev_iload_n 3 dX11_seen_18 rfl ?_
      refine ev_iconst dX11_seen_19 rfl ?_
      refine ev_iconst dX11_seen_20 rfl ?_
      obtain ⟨v15, g16, e17, h⟩ := am_bd_elim h
      refine ev_callSi (v := v15) [.int a3, .int (0 : Int32), .int (1 : Int32)] [] dX11_seen_21 (tX11_within e17) (by decide) mo_X11_within kM_X11_136 ks_X11_within (Nat.le_of_ble_eq_true rfl) ?_
      refine ev_if_ne 33 dX11_seen_24 (by decide) (fun c18 => ?_) (fun c18 => ?_)
      · replace h := am_ifn c18 h
        refine ev_aload_n 0 dX11_seen_33 rfl ?_
        refine ev_gf (v := .ref 1) dX11_seen_34 (fun h9 => (h9.2.1 0 _ rfl).2) 0 (by decide) (by decide) kF_X11_14 (fun h9 => congrArg va_rf (h9.2.2 0 0 1 rfl)) ?_
        refine ev_gf (v := .int (am_I g16 1 16)) dX11_seen_37 (fun h9 => (h9.2.1 1 _ rfl).2) 16 (by decide) (by decide) kF_X11_412 (fun _ => rfl) ?_
        refine ev_bipush dX11_seen_40 rfl ?_
        refine ev_icmp_lt 52 dX11_seen_42 (by decide) (fun c19 => ?_) (fun c19 => ?_)
        · replace h := am_ifp c19 h
          refine ev_aload_n 0 dX11_seen_52 rfl ?_
          refine ev_gf (v := .ref 1) dX11_seen_53 (fun h9 => (h9.2.1 0 _ rfl).2) 0 (by decide) (by decide) kF_X11_14 (fun h9 => congrArg va_rf (h9.2.2 0 0 1 rfl)) ?_
          refine ev_gf (v := .ref 21) dX11_seen_56 (fun h9 => (h9.2.1 1 _ rfl).2) 10 (by decide) (by decide) kF_X11_415 (fun h9 => congrArg va_rf (h9.2.2 1 10 21 rfl)) ?_
          refine ev_aload_n 0 dX11_seen_59 rfl ?_
          refine ev_gf (v := .ref 1) dX11_seen_60 (fun h9 => (h9.2.1 0 _ rfl).2) 0 (by decide) (by decide) kF_X11_14 (fun h9 => congrArg va_rf (h9.2.2 0 0 1 rfl)) ?_
          refine ev_gf (v := .int (am_I g16 1 16)) dX11_seen_63 (fun h9 => (h9.2.1 1 _ rfl).2) 16 (by decide) (by decide) kF_X11_412 (fun _ => rfl) ?_
          refine ev_iload_n 1 dX11_seen_66 rfl ?_
          obtain ⟨c20, h⟩ := am_gd_elim h
          refine ev_iast dX11_seen_67 (fun h9 => (h9.2.1 21 _ rfl).2) (am_in_vp c20) ?_
          refine am_let_elim (P := fun g21 => am_Ev zc MX11_seen 2 68 [(0, .ref 0), (1, .int a1), (2, .int a2), (3, .int a3)] [] g21 (am_ri r)) h fun g21 h => ?_
          refine ev_aload_n 0 dX11_seen_68 rfl ?_
          refine ev_gf (v := .ref 1) dX11_seen_69 (fun h9 => (h9.2.1 0 _ rfl).2) 0 (by decide) (by decide) kF_X11_14 (fun h9 => congrArg va_rf (h9.2.2 0 0 1 rfl)) ?_
          refine ev_gf (v := .ref 22) dX11_seen_72 (fun h9 => (h9.2.1 1 _ rfl).2) 11 (by decide) (by decide) kF_X11_418 (fun h9 => congrArg va_rf (h9.2.2 1 11 22 rfl)) ?_
          refine ev_aload_n 0 dX11_seen_75 rfl ?_
          refine ev_gf (v := .ref 1) dX11_seen_76 (fun h9 => (h9.2.1 0 _ rfl).2) 0 (by decide) (by decide) kF_X11_14 (fun h9 => congrArg va_rf (h9.2.2 0 0 1 rfl)) ?_
          refine ev_gf (v := .int (am_I g21 1 16)) dX11_seen_79 (fun h9 => (h9.2.1 1 _ rfl).2) 16 (by decide) (by decide) kF_X11_412 (fun _ => rfl) ?_
          refine ev_iload_n 2 dX11_seen_82 rfl ?_
          obtain ⟨c22, h⟩ := am_gd_elim h
          refine ev_iast dX11_seen_83 (fun h9 => (h9.2.1 22 _ rfl).2) (am_in_vp c22) ?_
          refine am_let_elim (P := fun g23 => am_Ev zc MX11_seen 2 84 [(0, .ref 0), (1, .int a1), (2, .int a2), (3, .int a3)] [] g23 (am_ri r)) h fun g23 h => ?_
          refine ev_aload_n 0 dX11_seen_84 rfl ?_
          refine ev_gf (v := .ref 1) dX11_seen_85 (fun h9 => (h9.2.1 0 _ rfl).2) 0 (by decide) (by decide) kF_X11_14 (fun h9 => congrArg va_rf (h9.2.2 0 0 1 rfl)) ?_
          refine ev_gf (v := .ref 23) dX11_seen_88 (fun h9 => (h9.2.1 1 _ rfl).2) 12 (by decide) (by decide) kF_X11_421 (fun h9 => congrArg va_rf (h9.2.2 1 12 23 rfl)) ?_
          refine ev_aload_n 0 dX11_seen_91 rfl ?_
          refine ev_gf (v := .ref 1) dX11_seen_92 (fun h9 => (h9.2.1 0 _ rfl).2) 0 (by decide) (by decide) kF_X11_14 (fun h9 => congrArg va_rf (h9.2.2 0 0 1 rfl)) ?_
          refine ev_gf (v := .int (am_I g23 1 16)) dX11_seen_95 (fun h9 => (h9.2.1 1 _ rfl).2) 16 (by decide) (by decide) kF_X11_412 (fun _ => rfl) ?_
          refine ev_iload_n 3 dX11_seen_98 rfl ?_
          obtain ⟨c24, h⟩ := am_gd_elim h
          refine ev_iast dX11_seen_99 (fun h9 => (h9.2.1 23 _ rfl).2) (am_in_vp c24) ?_
          refine am_let_elim (P := fun g25 => am_Ev zc MX11_seen 2 100 [(0, .ref 0), (1, .int a1), (2, .int a2), (3, .int a3)] [] g25 (am_ri r)) h fun g25 h => ?_
          refine ev_aload_n 0 dX11_seen_100 rfl ?_
          refine ev_gf (v := .ref 1) dX11_seen_101 (fun h9 => (h9.2.1 0 _ rfl).2) 0 (by decide) (by decide) kF_X11_14 (fun h9 => congrArg va_rf (h9.2.2 0 0 1 rfl)) ?_
          refine ev_dup dX11_seen_104 rfl ?_
          refine ev_gf (v := .int (am_I g25 1 16)) dX11_seen_105 (fun h9 => (h9.2.1 1 _ rfl).2) 16 (by decide) (by decide) kF_X11_412 (fun _ => rfl) ?_
          refine ev_iconst dX11_seen_108 rfl ?_
          refine ev_iadd dX11_seen_109 ?_
          refine ev_pfi dX11_seen_110 (fun h9 => (h9.2.1 1 _ rfl).2) 16 (by decide) (by decide) kF_X11_412 rfl rfl rfl (fun _ => rfl) ?_
          refine am_let_elim (P := fun g26 => am_Ev zc MX11_seen 2 113 [(0, .ref 0), (1, .int a1), (2, .int a2), (3, .int a3)] [] g26 (am_ri r)) h fun g26 h => ?_
          refine ev_aload_n 0 dX11_seen_113 rfl ?_
          refine ev_aload_n 0 dX11_seen_114 rfl ?_
          refine ev_gf (v := .ref 1) dX11_seen_115 (fun h9 => (h9.2.1 0 _ rfl).2) 0 (by decide) (by decide) kF_X11_14 (fun h9 => congrArg va_rf (h9.2.2 0 0 1 rfl)) ?_
          refine ev_gf (v := .int (am_I g26 1 16)) dX11_seen_118 (fun h9 => (h9.2.1 1 _ rfl).2) 16 (by decide) (by decide) kF_X11_412 (fun _ => rfl) ?_
          obtain ⟨v27, g28, e29, h⟩ := am_bd_elim h
          refine ev_callVi (v := v27) [.int (am_I g26 1 16)] [] dX11_seen_121 (tX11_accepted e29) (by decide) mo_X11_accepted kM_X11_133 ki_X11_accepted kv_X11_accepted (fun h9 => (h9.2.1 0 _ rfl).2) (by decide) rfl (Nat.le_of_ble_eq_true rfl) ?_
          cases h
          exact ev_iret dX11_seen_124 rfl
        · replace h := am_ifn c19 h
          refine ev_aload_n 0 dX11_seen_45 rfl ?_
          refine ev_bipush dX11_seen_46 rfl ?_
          obtain ⟨v30, g31, e32, h⟩ := am_bd_elim h
          refine ev_callVi (v := v30) [.int (-5 : Int32)] [] dX11_seen_48 (tX11_refused e32) (by decide) mo_X11_refused kM_X11_104 ki_X11_refused kv_X11_refused (fun h9 => (h9.2.1 0 _ rfl).2) (by decide) rfl (Nat.le_of_ble_eq_true rfl) ?_
          cases h
          exact ev_iret dX11_seen_51 rfl
      · replace h := am_ifp c18 h
        refine ev_aload_n 0 dX11_seen_27 rfl ?_
        refine ev_iconst dX11_seen_28 rfl ?_
        obtain ⟨v33, g34, e35, h⟩ := am_bd_elim h
        refine ev_callVi (v := v33) [.int (-1 : Int32)] [] dX11_seen_29 (tX11_refused e35) (by decide) mo_X11_refused kM_X11_104 ki_X11_refused kv_X11_refused (fun h9 => (h9.2.1 0 _ rfl).2) (by decide) rfl (Nat.le_of_ble_eq_true rfl) ?_
        cases h
        exact ev_iret dX11_seen_32 rfl
theorem tX11_seen {a1 : Int32} {a2 : Int32} {a3 : Int32} {g : am_G} {r : Int32 × am_G} (h : fX11_seen a1 a2 a3 g = some r) : am_Mt zc MX11_seen 2 [.ref 0, .int a1, .int a2, .int a3] g (am_ri r) := am_Mt.of rfl (Nat.le_of_ble_eq_true rfl) (eX11_seen _ _ _ _ _ h)
def fX11_forget (g : am_G) : Option (Int32 × am_G) :=
  am_let (am_I g 1 16) fun x1 =>
  am_let (am_si g 1 16 (0 : Int32)) fun g2 =>
  some (x1, g2)
set_option maxRecDepth 100000 in
set_option maxHeartbeats 4000000 in
theorem eX11_forget (g : am_G) (r : Int32 × am_G) (h : fX11_forget g = some r) : am_Ev zc MX11_forget 0 0 [(0, .ref 0)] [] g (am_ri r) := by
  unfold fX11_forget at h
  refine ev_aload_n 0 dX11_forget_0 rfl ?_
  refine ev_gf (v := .ref 1) dX11_forget_1 (fun h9 => (h9.2.1 0 _ rfl).2) 0 (by decide) (by decide) kF_X11_14 (fun h9 => congrArg va_rf (h9.2.2 0 0 1 rfl)) ?_
  refine ev_gf (v := .int (am_I g 1 16)) dX11_forget_4 (fun h9 => (h9.2.1 1 _ rfl).2) 16 (by decide) (by decide) kF_X11_412 (fun _ => rfl) ?_
  refine am_let_elim (P := fun x1 => am_Ev zc MX11_forget 0 7 [(0, .ref 0)] [.int x1] g (am_ri r)) h fun x1 h => ?_
  refine ev_istore_n (ls' := [(1, .int x1), (0, .ref 0)]) dX11_forget_7 rfl (by decide) rfl ?_
  refine ev_aload_n 1 dX11_forget_8 rfl ?_
  refine ev_gf (v := .ref 1) dX11_forget_9 (fun h9 => (h9.2.1 0 _ rfl).2) 0 (by decide) (by decide) kF_X11_14 (fun h9 => congrArg va_rf (h9.2.2 0 0 1 rfl)) ?_
  refine ev_iconst dX11_forget_12 rfl ?_
  refine ev_pfi dX11_forget_13 (fun h9 => (h9.2.1 1 _ rfl).2) 16 (by decide) (by decide) kF_X11_412 rfl rfl rfl (fun _ => rfl) ?_
  refine am_let_elim (P := fun g2 => am_Ev zc MX11_forget 0 16 [(1, .int x1), (0, .ref 0)] [] g2 (am_ri r)) h fun g2 h => ?_
  refine ev_iload_n 0 dX11_forget_16 rfl ?_
  cases h
  exact ev_iret dX11_forget_17 rfl
theorem tX11_forget {g : am_G} {r : Int32 × am_G} (h : fX11_forget g = some r) : am_Mt zc MX11_forget 0 [.ref 0] g (am_ri r) := am_Mt.of rfl (Nat.le_of_ble_eq_true rfl) (eX11_forget _ _ h)
def fX11_holds_L28 (k : Int32 → Int32 → am_G → Option (Int32 × am_G)) (a1 : Int32) (a2 : Int32) : Nat → Int32 → Int32 → Int32 → am_G → Option (Int32 × am_G)
  | 0, _, _, _, _ => none
  | n + 1, x9, x10, x11, g12 =>
    if (am_I g12 1 16) ≤ x11 then (
      k x9 x10 g12)
    else (
      am_gd (am_in x11 10) <|
      am_jn (fun (x19 : Int32) (x20 : Int32) (g21 : am_G) =>
        am_let (x11 + (1 : Int32)) fun x23 =>
        fX11_holds_L28 k a1 a2 n x19 x20 x23 g21) fun j22 =>
      if (am_I g12 21 x11.toNatClampNeg) = a1 then (
        am_gd (am_in x11 10) <|
        if (am_I g12 23 x11.toNatClampNeg) = (1 : Int32) then (
          am_gd (am_in x11 10) <|
          am_let (am_min x10 ((am_I g12 22 x11.toNatClampNeg) - (1 : Int32))) fun x29 =>
          j22 x9 x29 g12)
        else (
          am_gd (am_in x11 10) <|
          am_let (am_max x9 (am_I g12 22 x11.toNatClampNeg)) fun x27 =>
          j22 x27 x10 g12))
      else (
        j22 x9 x10 g12))
def fX11_holds (a1 : Int32) (a2 : Int32) (g : am_G) : Option (Int32 × am_G) :=
  am_bd (fX11_isSlope a1 g) fun v1 g2 =>
  if v1 = 0 then (
    some ((-1 : Int32), g2))
  else (
    am_bd (fX11_within a2 (0 : Int32) (3 : Int32) g2) fun v5 g6 =>
    if v5 = 0 then (
      some ((-1 : Int32), g6))
    else (
      fX11_holds_L28 (fun (x30 : Int32) (x31 : Int32) (g32 : am_G) =>
        am_let (am_max (0 : Int32) ((x31 - x30) + (1 : Int32))) fun x33 =>
        if a2 = (2 : Int32) then (
          some (x33, g32))
        else (
          if x33 = 0 then (
            some ((-1 : Int32), g32))
          else (
            am_jn (fun  (g37 : am_G) =>
              if a2 = 0 then (
                some (x30, g37))
              else (
                if a2 = (1 : Int32) then (
                  some (x31, g37))
                else (
                  some (x30 + (x33 / (2 : Int32)), g37)))) fun j38 =>
            if a2 = (3 : Int32) then (
              if x33 = (1 : Int32) then (
                some ((-1 : Int32), g32))
              else (
                j38 g32))
            else (
              j38 g32)))) a1 a2 am_fu (1 : Int32) (9999 : Int32) (0 : Int32) g6))
set_option maxRecDepth 100000 in
set_option maxHeartbeats 4000000 in
theorem tfX11_holds_L28  {k : Int32 → Int32 → am_G → Option (Int32 × am_G)} (a1 : Int32) (a2 : Int32) (hk : ∀ (x13 : Int32) (x14 : Int32) (g15 : am_G) (r : Int32 × am_G), k x13 x14 g15 = some r → am_Ev zc MX11_holds 2 114 [(2, .int a2), (3, .int x13), (4, .int x14)] [] g15 (am_ri r)) : ∀ (n : Nat) (x9 : Int32) (x10 : Int32) (x11 : Int32) (g12 : am_G) (r : Int32 × am_G), fX11_holds_L28 k a1 a2 n x9 x10 x11 g12 = some r → am_Ev zc MX11_holds 2 28 [(0, .ref 0), (1, .int a1), (2, .int a2), (3, .int x9), (4, .int x10), (5, .int x11)] [] g12 (am_ri r) := by
  intro n
  induction n with
  | zero => intro x9 x10 x11 g12 r h; exact nomatch (show (none : Option (Int32 × am_G)) = some r from h)
  | succ n ih =>
    intro x9 x10 x11 g12 r h
    rw [fX11_holds_L28] at h
    refine ev_iload 5 dX11_holds_28 rfl ?_
    refine ev_aload_n 0 dX11_holds_30 rfl ?_
    refine ev_gf (v := .ref 1) dX11_holds_31 (fun h9 => (h9.2.1 0 _ rfl).2) 0 (by decide) (by decide) kF_X11_14 (fun h9 => congrArg va_rf (h9.2.2 0 0 1 rfl)) ?_
    refine ev_gf (v := .int (am_I g12 1 16)) dX11_holds_34 (fun h9 => (h9.2.1 1 _ rfl).2) 16 (by decide) (by decide) kF_X11_412 (fun _ => rfl) ?_
    refine ev_icmp_ge 114 dX11_holds_37 (by decide) (fun c16 => ?_) (fun c16 => ?_)
    · replace h := am_ifp c16 h
      refine ev_sub [2, 3, 4] rfl ?_
      exact hk _ _ _ _ h
    · replace h := am_ifn c16 h
      refine ev_aload_n 0 dX11_holds_40 rfl ?_
      refine ev_gf (v := .ref 1) dX11_holds_41 (fun h9 => (h9.2.1 0 _ rfl).2) 0 (by decide) (by decide) kF_X11_14 (fun h9 => congrArg va_rf (h9.2.2 0 0 1 rfl)) ?_
      refine ev_gf (v := .ref 21) dX11_holds_44 (fun h9 => (h9.2.1 1 _ rfl).2) 10 (by decide) (by decide) kF_X11_415 (fun h9 => congrArg va_rf (h9.2.2 1 10 21 rfl)) ?_
      refine ev_iload 5 dX11_holds_47 rfl ?_
      obtain ⟨c17, h⟩ := am_gd_elim h
      refine ev_iald dX11_holds_49 (fun h9 => (h9.2.1 21 _ rfl).2) (am_in_vp c17) ?_
      refine ev_iload_n 1 dX11_holds_50 rfl ?_
      refine am_jn_elim (fun q9 => ∀ (x19 : Int32) (x20 : Int32) (g21 : am_G) (r : Int32 × am_G), q9 x19 x20 g21 = some r → am_Ev zc MX11_holds 2 108 [(0, .ref 0), (1, .int a1), (2, .int a2), (3, .int x19), (4, .int x20), (5, .int x11)] [] g21 (am_ri r)) h ?_ (fun j22 hj22 h => ?_)
      · intro x19 x20 g21 r h
        try dsimp only at h
        obtain ⟨x23, ex23, h⟩ := am_let_ex h
        refine ev_iinc (ls' := [(5, .int x23), (0, .ref 0), (1, .int a1), (2, .int a2), (3, .int x19), (4, .int x20)]) 5 dX11_holds_108 rfl ex23 (by decide) rfl ?_
        refine ev_goto 28 dX11_holds_111 (by decide) ?_
        refine ev_sub [1, 2, 3, 4, 5, 0] rfl ?_
        exact ih _ _ _ _ _ h
      · refine ev_icmp_eq 57 dX11_holds_51 (by decide) (fun c18 => ?_) (fun c18 => ?_)
        · replace h := am_ifp c18 h
          refine ev_aload_n 0 dX11_holds_57 rfl ?_
          refine ev_gf (v := .ref 1) dX11_holds_58 (fun h9 => (h9.2.1 0 _ rfl).2) 0 (by decide) (by decide) kF_X11_14 (fun h9 => congrArg va_rf (h9.2.2 0 0 1 rfl)) ?_
          refine ev_gf (v := .ref 23) dX11_holds_61 (fun h9 => (h9.2.1 1 _ rfl).2) 12 (by decide) (by decide) kF_X11_421 (fun h9 => congrArg va_rf (h9.2.2 1 12 23 rfl)) ?_
          refine ev_iload 5 dX11_holds_64 rfl ?_
          obtain ⟨c24, h⟩ := am_gd_elim h
          refine ev_iald dX11_holds_66 (fun h9 => (h9.2.1 23 _ rfl).2) (am_in_vp c24) ?_
          refine ev_iconst dX11_holds_67 rfl ?_
          refine ev_icmp_ne 93 dX11_holds_68 (by decide) (fun c25 => ?_) (fun c25 => ?_)
          · replace h := am_ifn c25 h
            refine ev_iload_n 3 dX11_holds_93 rfl ?_
            refine ev_aload_n 0 dX11_holds_94 rfl ?_
            refine ev_gf (v := .ref 1) dX11_holds_95 (fun h9 => (h9.2.1 0 _ rfl).2) 0 (by decide) (by decide) kF_X11_14 (fun h9 => congrArg va_rf (h9.2.2 0 0 1 rfl)) ?_
            refine ev_gf (v := .ref 22) dX11_holds_98 (fun h9 => (h9.2.1 1 _ rfl).2) 11 (by decide) (by decide) kF_X11_418 (fun h9 => congrArg va_rf (h9.2.2 1 11 22 rfl)) ?_
            refine ev_iload 5 dX11_holds_101 rfl ?_
            obtain ⟨c26, h⟩ := am_gd_elim h
            refine ev_iald dX11_holds_103 (fun h9 => (h9.2.1 22 _ rfl).2) (am_in_vp c26) ?_
            refine ev_max dX11_holds_104 kM_X11_343 k_maxS kS_Math k_maxC (Nat.le_of_ble_eq_true rfl) ?_
            refine am_let_elim (P := fun x27 => am_Ev zc MX11_holds 2 107 [(0, .ref 0), (1, .int a1), (2, .int a2), (3, .int x9), (4, .int x10), (5, .int x11)] [.int x27] g12 (am_ri r)) h fun x27 h => ?_
            refine ev_istore_n (ls' := [(3, .int x27), (0, .ref 0), (1, .int a1), (2, .int a2), (4, .int x10), (5, .int x11)]) dX11_holds_107 rfl (by decide) rfl ?_
            refine ev_sub [1, 2, 3, 0, 4, 5] rfl ?_
            exact hj22 _ _ _ _ h
          · replace h := am_ifp c25 h
            refine ev_iload 4 dX11_holds_71 rfl ?_
            refine ev_aload_n 0 dX11_holds_73 rfl ?_
            refine ev_gf (v := .ref 1) dX11_holds_74 (fun h9 => (h9.2.1 0 _ rfl).2) 0 (by decide) (by decide) kF_X11_14 (fun h9 => congrArg va_rf (h9.2.2 0 0 1 rfl)) ?_
            refine ev_gf (v := .ref 22) dX11_holds_77 (fun h9 => (h9.2.1 1 _ rfl).2) 11 (by decide) (by decide) kF_X11_418 (fun h9 => congrArg va_rf (h9.2.2 1 11 22 rfl)) ?_
            refine ev_iload 5 dX11_holds_80 rfl ?_
            obtain ⟨c28, h⟩ := am_gd_elim h
            refine ev_iald dX11_holds_82 (fun h9 => (h9.2.1 22 _ rfl).2) (am_in_vp c28) ?_
            refine ev_iconst dX11_holds_83 rfl ?_
            refine ev_isub dX11_holds_84 ?_
            refine ev_min dX11_holds_85 kM_X11_424 k_minS kS_Math k_minC (Nat.le_of_ble_eq_true rfl) ?_
            refine am_let_elim (P := fun x29 => am_Ev zc MX11_holds 2 88 [(0, .ref 0), (1, .int a1), (2, .int a2), (3, .int x9), (4, .int x10), (5, .int x11)] [.int x29] g12 (am_ri r)) h fun x29 h => ?_
            refine ev_istore (ls' := [(4, .int x29), (0, .ref 0), (1, .int a1), (2, .int a2), (3, .int x9), (5, .int x11)]) dX11_holds_88 (by decide) rfl ?_
            refine ev_goto 108 dX11_holds_90 (by decide) ?_
            refine ev_sub [1, 2, 3, 4, 0, 5] rfl ?_
            exact hj22 _ _ _ _ h
        · replace h := am_ifn c18 h
          refine ev_goto 108 dX11_holds_54 (by decide) ?_
          refine ev_sub [0, 1, 2, 3, 4, 5] rfl ?_
          exact hj22 _ _ _ _ h
set_option maxRecDepth 100000 in
set_option maxHeartbeats 4000000 in
theorem eX11_holds (a1 : Int32) (a2 : Int32) (g : am_G) (r : Int32 × am_G) (h : fX11_holds a1 a2 g = some r) : am_Ev zc MX11_holds 2 0 [(0, .ref 0), (1, .int a1), (2, .int a2)] [] g (am_ri r) := by
  unfold fX11_holds at h
  refine ev_iload_n 1 dX11_holds_0 rfl ?_
  obtain ⟨v1, g2, e3, h⟩ := am_bd_elim h
  refine ev_callSi (v := v1) [.int a1] [] dX11_holds_1 (tX11_isSlope e3) (by decide) mo_X11_isSlope kM_X11_96 ks_X11_isSlope (Nat.le_of_ble_eq_true rfl) ?_
  refine ev_if_eq 16 dX11_holds_4 (by decide) (fun c4 => ?_) (fun c4 => ?_)
  · replace h := am_ifp c4 h
    refine ev_iconst dX11_holds_16 rfl ?_
    cases h
    exact ev_iret dX11_holds_17 rfl
  · replace h := am_ifn c4 h
    refine ev_iload_n 2 dX11_holds_7 rfl ?_
    refine ev_iconst dX11_holds_8 rfl ?_
    refine ev_iconst dX11_holds_9 rfl ?_
    obtain ⟨v5, g6, e7, h⟩ := am_bd_elim h
    refine ev_callSi (v := v5) [.int a2, .int (0 : Int32), .int (3 : Int32)] [] dX11_holds_10 (tX11_within e7) (by decide) mo_X11_within kM_X11_136 ks_X11_within (Nat.le_of_ble_eq_true rfl) ?_
    refine ev_if_ne 18 dX11_holds_13 (by decide) (fun c8 => ?_) (fun c8 => ?_)
    · replace h := am_ifn c8 h
      refine ev_iconst dX11_holds_18 rfl ?_
      refine ev_istore_n (ls' := [(3, .int (1 : Int32)), (0, .ref 0), (1, .int a1), (2, .int a2)]) dX11_holds_19 rfl (by decide) rfl ?_
      refine ev_sipush dX11_holds_20 rfl ?_
      refine ev_istore (ls' := [(4, .int (9999 : Int32)), (3, .int (1 : Int32)), (0, .ref 0), (1, .int a1), (2, .int a2)]) dX11_holds_23 (by decide) rfl ?_
      refine ev_iconst dX11_holds_25 rfl ?_
      refine ev_istore (ls' := [(5, .int (0 : Int32)), (4, .int (9999 : Int32)), (3, .int (1 : Int32)), (0, .ref 0), (1, .int a1), (2, .int a2)]) dX11_holds_26 (by decide) rfl ?_
      refine ev_sub [3, 4, 5, 2, 1, 0] rfl ?_
      refine tfX11_holds_L28 a1 a2 ?_ _ _ _ _ _ _ h
      intro x30 x31 g32 r h
      try dsimp only at h
      refine ev_iconst dX11_holds_114 rfl ?_
      refine ev_iload 2 dX11_holds_115 rfl ?_
      refine ev_iload_n 1 dX11_holds_117 rfl ?_
      refine ev_isub dX11_holds_118 ?_
      refine ev_iconst dX11_holds_119 rfl ?_
      refine ev_iadd dX11_holds_120 ?_
      refine ev_max dX11_holds_121 kM_X11_343 k_maxS kS_Math k_maxC (Nat.le_of_ble_eq_true rfl) ?_
      refine am_let_elim (P := fun x33 => am_Ev zc MX11_holds 2 124 [(2, .int a2), (3, .int x30), (4, .int x31)] [.int x33] g32 (am_ri r)) h fun x33 h => ?_
      refine ev_istore (ls' := [(5, .int x33), (2, .int a2), (3, .int x30), (4, .int x31)]) dX11_holds_124 (by decide) rfl ?_
      refine ev_iload_n 1 dX11_holds_126 rfl ?_
      refine ev_iconst dX11_holds_127 rfl ?_
      refine ev_icmp_ne 134 dX11_holds_128 (by decide) (fun c34 => ?_) (fun c34 => ?_)
      · replace h := am_ifn c34 h
        refine ev_iload 0 dX11_holds_134 rfl ?_
        refine ev_if_eq 150 dX11_holds_136 (by decide) (fun c35 => ?_) (fun c35 => ?_)
        · replace h := am_ifp c35 h
          refine ev_iconst dX11_holds_150 rfl ?_
          cases h
          exact ev_iret dX11_holds_151 rfl
        · replace h := am_ifn c35 h
          refine ev_iload_n 1 dX11_holds_139 rfl ?_
          refine ev_iconst dX11_holds_140 rfl ?_
          refine am_jn_elim (fun q9 => ∀  (g37 : am_G) (r : Int32 × am_G), q9  g37 = some r → am_Ev zc MX11_holds 2 152 [(2, .int a2), (3, .int x30), (4, .int x31), (5, .int x33)] [] g37 (am_ri r)) h ?_ (fun j38 hj38 h => ?_)
          · intro  g37 r h
            try dsimp only at h
            refine ev_iload_n 0 dX11_holds_152 rfl ?_
            refine ev_if_ne 160 dX11_holds_153 (by decide) (fun c39 => ?_) (fun c39 => ?_)
            · replace h := am_ifn c39 h
              refine ev_iload_n 0 dX11_holds_160 rfl ?_
              refine ev_iconst dX11_holds_161 rfl ?_
              refine ev_icmp_ne 170 dX11_holds_162 (by decide) (fun c40 => ?_) (fun c40 => ?_)
              · replace h := am_ifn c40 h
                refine ev_iload_n 1 dX11_holds_170 rfl ?_
                refine ev_iload 3 dX11_holds_171 rfl ?_
                refine ev_iconst dX11_holds_173 rfl ?_
                refine ev_idiv dX11_holds_174 (by decide) ?_
                refine ev_iadd dX11_holds_175 ?_
                cases h
                exact ev_iret dX11_holds_176 rfl
              · replace h := am_ifp c40 h
                refine ev_iload 2 dX11_holds_165 rfl ?_
                refine ev_goto 176 dX11_holds_167 (by decide) ?_
                cases h
                exact ev_iret dX11_holds_176 rfl
            · replace h := am_ifp c39 h
              refine ev_iload_n 1 dX11_holds_156 rfl ?_
              refine ev_goto 176 dX11_holds_157 (by decide) ?_
              cases h
              exact ev_iret dX11_holds_176 rfl
          · refine ev_icmp_ne 152 dX11_holds_141 (by decide) (fun c36 => ?_) (fun c36 => ?_)
            · replace h := am_ifn c36 h
              refine ev_sub [1, 2, 3, 0] rfl ?_
              exact hj38  _ _ h
            · replace h := am_ifp c36 h
              refine ev_iload 0 dX11_holds_144 rfl ?_
              refine ev_iconst dX11_holds_146 rfl ?_
              refine ev_icmp_ne 152 dX11_holds_147 (by decide) (fun c41 => ?_) (fun c41 => ?_)
              · replace h := am_ifn c41 h
                refine ev_sub [1, 2, 3, 0] rfl ?_
                exact hj38  _ _ h
              · replace h := am_ifp c41 h
                refine ev_iconst dX11_holds_150 rfl ?_
                cases h
                exact ev_iret dX11_holds_151 rfl
      · replace h := am_ifp c34 h
        refine ev_iload 0 dX11_holds_131 rfl ?_
        cases h
        exact ev_iret dX11_holds_133 rfl
    · replace h := am_ifp c8 h
      refine ev_iconst dX11_holds_16 rfl ?_
      cases h
      exact ev_iret dX11_holds_17 rfl
theorem tX11_holds {a1 : Int32} {a2 : Int32} {g : am_G} {r : Int32 × am_G} (h : fX11_holds a1 a2 g = some r) : am_Mt zc MX11_holds 2 [.ref 0, .int a1, .int a2] g (am_ri r) := am_Mt.of rfl (Nat.le_of_ble_eq_true rfl) (eX11_holds _ _ _ _ h)
def fX11_lightestLast_L2 (a1 : Int32) : Nat → Int32 → am_G → Option (Unit × am_G)
  | 0, _, _ => none
  | n + 1, x1, g2 =>
    if (a1 - (1 : Int32)) ≤ x1 then (
      some ((), g2))
    else (
      am_gd (am_in x1 16) <|
      am_gd (am_in (a1 - (1 : Int32)) 16) <|
      am_jn (fun  (g7 : am_G) =>
        am_let (x1 + (1 : Int32)) fun x9 =>
        fX11_lightestLast_L2 a1 n x9 g7) fun j8 =>
      if (am_I g2 78 (a1 - (1 : Int32)).toNatClampNeg) ≤ (am_I g2 78 x1.toNatClampNeg) then (
        j8 g2)
      else (
        am_gd (am_in x1 16) <|
        am_let (am_I g2 78 x1.toNatClampNeg) fun x11 =>
        am_gd (am_in (a1 - (1 : Int32)) 16) <|
        am_gd (am_in x1 16) <|
        am_let (am_si g2 78 x1.toNatClampNeg (am_I g2 78 (a1 - (1 : Int32)).toNatClampNeg)) fun g14 =>
        am_gd (am_in (a1 - (1 : Int32)) 16) <|
        am_let (am_si g14 78 (a1 - (1 : Int32)).toNatClampNeg x11) fun g16 =>
        j8 g16))
def fX11_lightestLast (a1 : Int32) (g : am_G) : Option (Unit × am_G) :=
  fX11_lightestLast_L2 a1 am_fu (0 : Int32) g
set_option maxRecDepth 100000 in
set_option maxHeartbeats 4000000 in
theorem tfX11_lightestLast_L2  (a1 : Int32) : ∀ (n : Nat) (x1 : Int32) (g2 : am_G) (r : Unit × am_G), fX11_lightestLast_L2 a1 n x1 g2 = some r → am_Ev zc MX11_lightestLast 0 2 [(0, .ref 0), (1, .int a1), (2, .int x1)] [] g2 (am_rv r) := by
  intro n
  induction n with
  | zero => intro x1 g2 r h; exact nomatch (show (none : Option (Unit × am_G)) = some r from h)
  | succ n ih =>
    intro x1 g2 r h
    rw [fX11_lightestLast_L2] at h
    refine ev_iload_n 2 dX11_lightestLast_2 rfl ?_
    refine ev_iload_n 1 dX11_lightestLast_3 rfl ?_
    refine ev_iconst dX11_lightestLast_4 rfl ?_
    refine ev_isub dX11_lightestLast_5 ?_
    refine ev_icmp_ge 62 dX11_lightestLast_6 (by decide) (fun c3 => ?_) (fun c3 => ?_)
    · replace h := am_ifp c3 h
      cases h
      exact ev_ret dX11_lightestLast_62 rfl
    · replace h := am_ifn c3 h
      refine ev_aload_n 0 dX11_lightestLast_9 rfl ?_
      refine ev_gf (v := .ref 78) dX11_lightestLast_10 (fun h9 => (h9.2.1 0 _ rfl).2) 12 (by decide) (by decide) kF_X11_89 (fun h9 => congrArg va_rf (h9.2.2 0 12 78 rfl)) ?_
      refine ev_iload_n 2 dX11_lightestLast_13 rfl ?_
      obtain ⟨c4, h⟩ := am_gd_elim h
      refine ev_iald dX11_lightestLast_14 (fun h9 => (h9.2.1 78 _ rfl).2) (am_in_vp c4) ?_
      refine ev_aload_n 0 dX11_lightestLast_15 rfl ?_
      refine ev_gf (v := .ref 78) dX11_lightestLast_16 (fun h9 => (h9.2.1 0 _ rfl).2) 12 (by decide) (by decide) kF_X11_89 (fun h9 => congrArg va_rf (h9.2.2 0 12 78 rfl)) ?_
      refine ev_iload_n 1 dX11_lightestLast_19 rfl ?_
      refine ev_iconst dX11_lightestLast_20 rfl ?_
      refine ev_isub dX11_lightestLast_21 ?_
      obtain ⟨c5, h⟩ := am_gd_elim h
      refine ev_iald dX11_lightestLast_22 (fun h9 => (h9.2.1 78 _ rfl).2) (am_in_vp c5) ?_
      refine am_jn_elim (fun q9 => ∀  (g7 : am_G) (r : Unit × am_G), q9  g7 = some r → am_Ev zc MX11_lightestLast 0 56 [(0, .ref 0), (1, .int a1), (2, .int x1)] [] g7 (am_rv r)) h ?_ (fun j8 hj8 h => ?_)
      · intro  g7 r h
        try dsimp only at h
        obtain ⟨x9, ex9, h⟩ := am_let_ex h
        refine ev_iinc (ls' := [(2, .int x9), (0, .ref 0), (1, .int a1)]) 2 dX11_lightestLast_56 rfl ex9 (by decide) rfl ?_
        refine ev_goto 2 dX11_lightestLast_59 (by decide) ?_
        refine ev_sub [1, 2, 0] rfl ?_
        exact ih _ _ _ h
      · refine ev_icmp_ge 56 dX11_lightestLast_23 (by decide) (fun c6 => ?_) (fun c6 => ?_)
        · replace h := am_ifp c6 h
          refine ev_sub [0, 1, 2] rfl ?_
          exact hj8  _ _ h
        · replace h := am_ifn c6 h
          refine ev_aload_n 0 dX11_lightestLast_26 rfl ?_
          refine ev_gf (v := .ref 78) dX11_lightestLast_27 (fun h9 => (h9.2.1 0 _ rfl).2) 12 (by decide) (by decide) kF_X11_89 (fun h9 => congrArg va_rf (h9.2.2 0 12 78 rfl)) ?_
          refine ev_iload_n 2 dX11_lightestLast_30 rfl ?_
          obtain ⟨c10, h⟩ := am_gd_elim h
          refine ev_iald dX11_lightestLast_31 (fun h9 => (h9.2.1 78 _ rfl).2) (am_in_vp c10) ?_
          refine am_let_elim (P := fun x11 => am_Ev zc MX11_lightestLast 0 32 [(0, .ref 0), (1, .int a1), (2, .int x1)] [.int x11] g2 (am_rv r)) h fun x11 h => ?_
          refine ev_istore_n (ls' := [(3, .int x11), (0, .ref 0), (1, .int a1), (2, .int x1)]) dX11_lightestLast_32 rfl (by decide) rfl ?_
          refine ev_aload_n 1 dX11_lightestLast_33 rfl ?_
          refine ev_gf (v := .ref 78) dX11_lightestLast_34 (fun h9 => (h9.2.1 0 _ rfl).2) 12 (by decide) (by decide) kF_X11_89 (fun h9 => congrArg va_rf (h9.2.2 0 12 78 rfl)) ?_
          refine ev_iload_n 3 dX11_lightestLast_37 rfl ?_
          refine ev_aload_n 1 dX11_lightestLast_38 rfl ?_
          refine ev_gf (v := .ref 78) dX11_lightestLast_39 (fun h9 => (h9.2.1 0 _ rfl).2) 12 (by decide) (by decide) kF_X11_89 (fun h9 => congrArg va_rf (h9.2.2 0 12 78 rfl)) ?_
          refine ev_iload_n 2 dX11_lightestLast_42 rfl ?_
          refine ev_iconst dX11_lightestLast_43 rfl ?_
          refine ev_isub dX11_lightestLast_44 ?_
          obtain ⟨c12, h⟩ := am_gd_elim h
          refine ev_iald dX11_lightestLast_45 (fun h9 => (h9.2.1 78 _ rfl).2) (am_in_vp c12) ?_
          obtain ⟨c13, h⟩ := am_gd_elim h
          refine ev_iast dX11_lightestLast_46 (fun h9 => (h9.2.1 78 _ rfl).2) (am_in_vp c13) ?_
          refine am_let_elim (P := fun g14 => am_Ev zc MX11_lightestLast 0 47 [(3, .int x11), (0, .ref 0), (1, .int a1), (2, .int x1)] [] g14 (am_rv r)) h fun g14 h => ?_
          refine ev_aload_n 1 dX11_lightestLast_47 rfl ?_
          refine ev_gf (v := .ref 78) dX11_lightestLast_48 (fun h9 => (h9.2.1 0 _ rfl).2) 12 (by decide) (by decide) kF_X11_89 (fun h9 => congrArg va_rf (h9.2.2 0 12 78 rfl)) ?_
          refine ev_iload_n 2 dX11_lightestLast_51 rfl ?_
          refine ev_iconst dX11_lightestLast_52 rfl ?_
          refine ev_isub dX11_lightestLast_53 ?_
          refine ev_iload_n 0 dX11_lightestLast_54 rfl ?_
          obtain ⟨c15, h⟩ := am_gd_elim h
          refine ev_iast dX11_lightestLast_55 (fun h9 => (h9.2.1 78 _ rfl).2) (am_in_vp c15) ?_
          refine am_let_elim (P := fun g16 => am_Ev zc MX11_lightestLast 0 56 [(3, .int x11), (0, .ref 0), (1, .int a1), (2, .int x1)] [] g16 (am_rv r)) h fun g16 h => ?_
          refine ev_sub [1, 2, 3] rfl ?_
          exact hj8  _ _ h
set_option maxRecDepth 100000 in
set_option maxHeartbeats 4000000 in
theorem eX11_lightestLast (a1 : Int32) (g : am_G) (r : Unit × am_G) (h : fX11_lightestLast a1 g = some r) : am_Ev zc MX11_lightestLast 0 0 [(0, .ref 0), (1, .int a1)] [] g (am_rv r) := by
  unfold fX11_lightestLast at h
  refine ev_iconst dX11_lightestLast_0 rfl ?_
  refine ev_istore_n (ls' := [(2, .int (0 : Int32)), (0, .ref 0), (1, .int a1)]) dX11_lightestLast_1 rfl (by decide) rfl ?_
  refine ev_sub [1, 2, 0] rfl ?_
  exact tfX11_lightestLast_L2 a1 _ _ _ _ h
theorem tX11_lightestLast {a1 : Int32} {g : am_G} {r : Unit × am_G} (h : fX11_lightestLast a1 g = some r) : am_Mt zc MX11_lightestLast 0 [.ref 0, .int a1] g (am_rv r) := am_Mt.of rfl (Nat.le_of_ble_eq_true rfl) (eX11_lightestLast _ _ _ h)
def fX11_signs_L4 (k : Int32 → am_G → Option (Int32 × am_G)) : Nat → Int32 → Int32 → am_G → Option (Int32 × am_G)
  | 0, _, _, _ => none
  | n + 1, x1, x2, g3 =>
    if (am_I g3 12 4) ≤ x2 then (
      k x1 g3)
    else (
      am_gd (am_in x2 16) <|
      am_jn (fun (x9 : Int32) (g10 : am_G) =>
        am_let (x2 + (1 : Int32)) fun x12 =>
        fX11_signs_L4 k n x9 x12 g10) fun j11 =>
      if (am_I g3 16 x2.toNatClampNeg) ≤ 0 then (
        j11 x1 g3)
      else (
        am_gd (am_in x2 16) <|
        am_gd (am_in x1 16) <|
        am_let (am_si g3 78 x1.toNatClampNeg (am_I g3 16 x2.toNatClampNeg)) fun g15 =>
        am_let (x1 + (1 : Int32)) fun x16 =>
        j11 x16 g15))
def fX11_signs_L74 : Nat → Int32 → Int32 → am_G → Option (Int32 × am_G)
  | 0, _, _, _ => none
  | n + 1, x20, x21, g22 =>
    if x20 ≤ (1 : Int32) then (
      some (x21, g22))
    else (
      am_bd (fX11_lightestLast x20 g22) fun u24 g25 =>
      am_bd (fX11_lightestLast (x20 - (1 : Int32)) g25) fun u27 g28 =>
      am_gd (am_in (x20 - (2 : Int32)) 16) <|
      am_gd (am_in (x20 - (1 : Int32)) 16) <|
      am_gd (am_in (x20 - (2 : Int32)) 16) <|
      am_let (am_si g28 78 (x20 - (2 : Int32)).toNatClampNeg ((am_I g28 78 (x20 - (2 : Int32)).toNatClampNeg) + (am_I g28 78 (x20 - (1 : Int32)).toNatClampNeg))) fun g33 =>
      am_gd (am_in (x20 - (2 : Int32)) 16) <|
      am_let (x21 + (am_I g33 78 (x20 - (2 : Int32)).toNatClampNeg)) fun x35 =>
      am_let (x20 + (-1 : Int32)) fun x36 =>
      fX11_signs_L74 n x36 x35 g33)
def fX11_signs (g : am_G) : Option (Int32 × am_G) :=
  fX11_signs_L4 (fun (x17 : Int32) (g18 : am_G) =>
    if x17 = (1 : Int32) then (
      am_gd (am_in (0 : Int32) 16) <|
      some (am_I g18 78 (0 : Int32).toNatClampNeg, g18))
    else (
      fX11_signs_L74 am_fu x17 (0 : Int32) g18)) am_fu (0 : Int32) (0 : Int32) g
set_option maxRecDepth 100000 in
set_option maxHeartbeats 4000000 in
theorem tfX11_signs_L4  {k : Int32 → am_G → Option (Int32 × am_G)} (hk : ∀ (x4 : Int32) (g5 : am_G) (r : Int32 × am_G), k x4 g5 = some r → am_Ev zc MX11_signs 1 60 [(0, .ref 0), (1, .int x4)] [] g5 (am_ri r)) : ∀ (n : Nat) (x1 : Int32) (x2 : Int32) (g3 : am_G) (r : Int32 × am_G), fX11_signs_L4 k n x1 x2 g3 = some r → am_Ev zc MX11_signs 1 4 [(0, .ref 0), (1, .int x1), (2, .int x2)] [] g3 (am_ri r) := by
  intro n
  induction n with
  | zero => intro x1 x2 g3 r h; exact nomatch (show (none : Option (Int32 × am_G)) = some r from h)
  | succ n ih =>
    intro x1 x2 g3 r h
    rw [fX11_signs_L4] at h
    refine ev_iload_n 2 dX11_signs_4 rfl ?_
    refine ev_aload_n 0 dX11_signs_5 rfl ?_
    refine ev_gf (v := .ref 1) dX11_signs_6 (fun h9 => (h9.2.1 0 _ rfl).2) 0 (by decide) (by decide) kF_X11_14 (fun h9 => congrArg va_rf (h9.2.2 0 0 1 rfl)) ?_
    refine ev_gf (v := .ref 12) dX11_signs_9 (fun h9 => (h9.2.1 1 _ rfl).2) 5 (by decide) (by decide) kF_X11_150 (fun h9 => congrArg va_rf (h9.2.2 1 5 12 rfl)) ?_
    refine ev_gf (v := .int (am_I g3 12 4)) dX11_signs_12 (fun h9 => (h9.2.1 12 _ rfl).2) 4 (by decide) (by decide) kF_X11_427 (fun _ => rfl) ?_
    refine ev_icmp_ge 60 dX11_signs_15 (by decide) (fun c6 => ?_) (fun c6 => ?_)
    · replace h := am_ifp c6 h
      refine ev_sub [0, 1] rfl ?_
      exact hk _ _ _ h
    · replace h := am_ifn c6 h
      refine ev_aload_n 0 dX11_signs_18 rfl ?_
      refine ev_gf (v := .ref 1) dX11_signs_19 (fun h9 => (h9.2.1 0 _ rfl).2) 0 (by decide) (by decide) kF_X11_14 (fun h9 => congrArg va_rf (h9.2.2 0 0 1 rfl)) ?_
      refine ev_gf (v := .ref 12) dX11_signs_22 (fun h9 => (h9.2.1 1 _ rfl).2) 5 (by decide) (by decide) kF_X11_150 (fun h9 => congrArg va_rf (h9.2.2 1 5 12 rfl)) ?_
      refine ev_gf (v := .ref 16) dX11_signs_25 (fun h9 => (h9.2.1 12 _ rfl).2) 3 (by decide) (by decide) kF_X11_174 (fun h9 => congrArg va_rf (h9.2.2 12 3 16 rfl)) ?_
      refine ev_iload_n 2 dX11_signs_28 rfl ?_
      obtain ⟨c7, h⟩ := am_gd_elim h
      refine ev_iald dX11_signs_29 (fun h9 => (h9.2.1 16 _ rfl).2) (am_in_vp c7) ?_
      refine am_jn_elim (fun q9 => ∀ (x9 : Int32) (g10 : am_G) (r : Int32 × am_G), q9 x9 g10 = some r → am_Ev zc MX11_signs 1 54 [(0, .ref 0), (1, .int x9), (2, .int x2)] [] g10 (am_ri r)) h ?_ (fun j11 hj11 h => ?_)
      · intro x9 g10 r h
        try dsimp only at h
        obtain ⟨x12, ex12, h⟩ := am_let_ex h
        refine ev_iinc (ls' := [(2, .int x12), (0, .ref 0), (1, .int x9)]) 2 dX11_signs_54 rfl ex12 (by decide) rfl ?_
        refine ev_goto 4 dX11_signs_57 (by decide) ?_
        refine ev_sub [1, 2, 0] rfl ?_
        exact ih _ _ _ _ h
      · refine ev_if_le 54 dX11_signs_30 (by decide) (fun c8 => ?_) (fun c8 => ?_)
        · replace h := am_ifp c8 h
          refine ev_sub [0, 1, 2] rfl ?_
          exact hj11 _ _ _ h
        · replace h := am_ifn c8 h
          refine ev_aload_n 0 dX11_signs_33 rfl ?_
          refine ev_gf (v := .ref 78) dX11_signs_34 (fun h9 => (h9.2.1 0 _ rfl).2) 12 (by decide) (by decide) kF_X11_89 (fun h9 => congrArg va_rf (h9.2.2 0 12 78 rfl)) ?_
          refine ev_iload_n 1 dX11_signs_37 rfl ?_
          refine ev_aload_n 0 dX11_signs_38 rfl ?_
          refine ev_gf (v := .ref 1) dX11_signs_39 (fun h9 => (h9.2.1 0 _ rfl).2) 0 (by decide) (by decide) kF_X11_14 (fun h9 => congrArg va_rf (h9.2.2 0 0 1 rfl)) ?_
          refine ev_gf (v := .ref 12) dX11_signs_42 (fun h9 => (h9.2.1 1 _ rfl).2) 5 (by decide) (by decide) kF_X11_150 (fun h9 => congrArg va_rf (h9.2.2 1 5 12 rfl)) ?_
          refine ev_gf (v := .ref 16) dX11_signs_45 (fun h9 => (h9.2.1 12 _ rfl).2) 3 (by decide) (by decide) kF_X11_174 (fun h9 => congrArg va_rf (h9.2.2 12 3 16 rfl)) ?_
          refine ev_iload_n 2 dX11_signs_48 rfl ?_
          obtain ⟨c13, h⟩ := am_gd_elim h
          refine ev_iald dX11_signs_49 (fun h9 => (h9.2.1 16 _ rfl).2) (am_in_vp c13) ?_
          obtain ⟨c14, h⟩ := am_gd_elim h
          refine ev_iast dX11_signs_50 (fun h9 => (h9.2.1 78 _ rfl).2) (am_in_vp c14) ?_
          refine am_let_elim (P := fun g15 => am_Ev zc MX11_signs 1 51 [(0, .ref 0), (1, .int x1), (2, .int x2)] [] g15 (am_ri r)) h fun g15 h => ?_
          obtain ⟨x16, ex16, h⟩ := am_let_ex h
          refine ev_iinc (ls' := [(1, .int x16), (0, .ref 0), (2, .int x2)]) 1 dX11_signs_51 rfl ex16 (by decide) rfl ?_
          refine ev_sub [1, 0, 2] rfl ?_
          exact hj11 _ _ _ h
set_option maxRecDepth 100000 in
set_option maxHeartbeats 4000000 in
theorem tfX11_signs_L74  : ∀ (n : Nat) (x20 : Int32) (x21 : Int32) (g22 : am_G) (r : Int32 × am_G), fX11_signs_L74 n x20 x21 g22 = some r → am_Ev zc MX11_signs 1 74 [(0, .ref 0), (1, .int x20), (2, .int x21)] [] g22 (am_ri r) := by
  intro n
  induction n with
  | zero => intro x20 x21 g22 r h; exact nomatch (show (none : Option (Int32 × am_G)) = some r from h)
  | succ n ih =>
    intro x20 x21 g22 r h
    rw [fX11_signs_L74] at h
    refine ev_iload_n 1 dX11_signs_74 rfl ?_
    refine ev_iconst dX11_signs_75 rfl ?_
    refine ev_icmp_le 127 dX11_signs_76 (by decide) (fun c23 => ?_) (fun c23 => ?_)
    · replace h := am_ifp c23 h
      refine ev_iload_n 2 dX11_signs_127 rfl ?_
      cases h
      exact ev_iret dX11_signs_128 rfl
    · replace h := am_ifn c23 h
      refine ev_aload_n 0 dX11_signs_79 rfl ?_
      refine ev_iload_n 1 dX11_signs_80 rfl ?_
      obtain ⟨u24, g25, e26, h⟩ := am_bd_elim h
      refine ev_callVv [.int x20] [] dX11_signs_81 (tX11_lightestLast e26) (by decide) mo_X11_lightestLast kM_X11_429 ki_X11_lightestLast kv_X11_lightestLast (fun h9 => (h9.2.1 0 _ rfl).2) (by decide) rfl (Nat.le_of_ble_eq_true rfl) ?_
      refine ev_aload_n 0 dX11_signs_84 rfl ?_
      refine ev_iload_n 1 dX11_signs_85 rfl ?_
      refine ev_iconst dX11_signs_86 rfl ?_
      refine ev_isub dX11_signs_87 ?_
      obtain ⟨u27, g28, e29, h⟩ := am_bd_elim h
      refine ev_callVv [.int (x20 - (1 : Int32))] [] dX11_signs_88 (tX11_lightestLast e29) (by decide) mo_X11_lightestLast kM_X11_429 ki_X11_lightestLast kv_X11_lightestLast (fun h9 => (h9.2.1 0 _ rfl).2) (by decide) rfl (Nat.le_of_ble_eq_true rfl) ?_
      refine ev_aload_n 0 dX11_signs_91 rfl ?_
      refine ev_gf (v := .ref 78) dX11_signs_92 (fun h9 => (h9.2.1 0 _ rfl).2) 12 (by decide) (by decide) kF_X11_89 (fun h9 => congrArg va_rf (h9.2.2 0 12 78 rfl)) ?_
      refine ev_iload_n 1 dX11_signs_95 rfl ?_
      refine ev_iconst dX11_signs_96 rfl ?_
      refine ev_isub dX11_signs_97 ?_
      refine ev_dup2 dX11_signs_98 rfl rfl ?_
      obtain ⟨c30, h⟩ := am_gd_elim h
      refine ev_iald dX11_signs_99 (fun h9 => (h9.2.1 78 _ rfl).2) (am_in_vp c30) ?_
      refine ev_aload_n 0 dX11_signs_100 rfl ?_
      refine ev_gf (v := .ref 78) dX11_signs_101 (fun h9 => (h9.2.1 0 _ rfl).2) 12 (by decide) (by decide) kF_X11_89 (fun h9 => congrArg va_rf (h9.2.2 0 12 78 rfl)) ?_
      refine ev_iload_n 1 dX11_signs_104 rfl ?_
      refine ev_iconst dX11_signs_105 rfl ?_
      refine ev_isub dX11_signs_106 ?_
      obtain ⟨c31, h⟩ := am_gd_elim h
      refine ev_iald dX11_signs_107 (fun h9 => (h9.2.1 78 _ rfl).2) (am_in_vp c31) ?_
      refine ev_iadd dX11_signs_108 ?_
      obtain ⟨c32, h⟩ := am_gd_elim h
      refine ev_iast dX11_signs_109 (fun h9 => (h9.2.1 78 _ rfl).2) (am_in_vp c32) ?_
      refine am_let_elim (P := fun g33 => am_Ev zc MX11_signs 1 110 [(0, .ref 0), (1, .int x20), (2, .int x21)] [] g33 (am_ri r)) h fun g33 h => ?_
      refine ev_iload_n 2 dX11_signs_110 rfl ?_
      refine ev_aload_n 0 dX11_signs_111 rfl ?_
      refine ev_gf (v := .ref 78) dX11_signs_112 (fun h9 => (h9.2.1 0 _ rfl).2) 12 (by decide) (by decide) kF_X11_89 (fun h9 => congrArg va_rf (h9.2.2 0 12 78 rfl)) ?_
      refine ev_iload_n 1 dX11_signs_115 rfl ?_
      refine ev_iconst dX11_signs_116 rfl ?_
      refine ev_isub dX11_signs_117 ?_
      obtain ⟨c34, h⟩ := am_gd_elim h
      refine ev_iald dX11_signs_118 (fun h9 => (h9.2.1 78 _ rfl).2) (am_in_vp c34) ?_
      refine ev_iadd dX11_signs_119 ?_
      refine am_let_elim (P := fun x35 => am_Ev zc MX11_signs 1 120 [(0, .ref 0), (1, .int x20), (2, .int x21)] [.int x35] g33 (am_ri r)) h fun x35 h => ?_
      refine ev_istore_n (ls' := [(2, .int x35), (0, .ref 0), (1, .int x20)]) dX11_signs_120 rfl (by decide) rfl ?_
      obtain ⟨x36, ex36, h⟩ := am_let_ex h
      refine ev_iinc (ls' := [(1, .int x36), (2, .int x35), (0, .ref 0)]) 2 dX11_signs_121 rfl ex36 (by decide) rfl ?_
      refine ev_goto 74 dX11_signs_124 (by decide) ?_
      refine ev_sub [2, 0, 1] rfl ?_
      exact ih _ _ _ _ h
set_option maxRecDepth 100000 in
set_option maxHeartbeats 4000000 in
theorem eX11_signs (g : am_G) (r : Int32 × am_G) (h : fX11_signs g = some r) : am_Ev zc MX11_signs 1 0 [(0, .ref 0)] [] g (am_ri r) := by
  unfold fX11_signs at h
  refine ev_iconst dX11_signs_0 rfl ?_
  refine ev_istore_n (ls' := [(1, .int (0 : Int32)), (0, .ref 0)]) dX11_signs_1 rfl (by decide) rfl ?_
  refine ev_iconst dX11_signs_2 rfl ?_
  refine ev_istore_n (ls' := [(2, .int (0 : Int32)), (1, .int (0 : Int32)), (0, .ref 0)]) dX11_signs_3 rfl (by decide) rfl ?_
  refine ev_sub [2, 1, 0] rfl ?_
  refine tfX11_signs_L4 ?_ _ _ _ _ _ h
  intro x17 g18 r h
  try dsimp only at h
  refine ev_iload_n 1 dX11_signs_60 rfl ?_
  refine ev_iconst dX11_signs_61 rfl ?_
  refine ev_icmp_ne 72 dX11_signs_62 (by decide) (fun c19 => ?_) (fun c19 => ?_)
  · replace h := am_ifn c19 h
    refine ev_iconst dX11_signs_72 rfl ?_
    refine ev_istore_n (ls' := [(2, .int (0 : Int32)), (0, .ref 0), (1, .int x17)]) dX11_signs_73 rfl (by decide) rfl ?_
    refine ev_sub [1, 2, 0] rfl ?_
    exact tfX11_signs_L74 _ _ _ _ _ h
  · replace h := am_ifp c19 h
    refine ev_aload_n 0 dX11_signs_65 rfl ?_
    refine ev_gf (v := .ref 78) dX11_signs_66 (fun h9 => (h9.2.1 0 _ rfl).2) 12 (by decide) (by decide) kF_X11_89 (fun h9 => congrArg va_rf (h9.2.2 0 12 78 rfl)) ?_
    refine ev_iconst dX11_signs_69 rfl ?_
    obtain ⟨c37, h⟩ := am_gd_elim h
    refine ev_iald dX11_signs_70 (fun h9 => (h9.2.1 78 _ rfl).2) (am_in_vp c37) ?_
    cases h
    exact ev_iret dX11_signs_71 rfl
theorem tX11_signs {g : am_G} {r : Int32 × am_G} (h : fX11_signs g = some r) : am_Mt zc MX11_signs 1 [.ref 0] g (am_ri r) := am_Mt.of rfl (Nat.le_of_ble_eq_true rfl) (eX11_signs _ _ h)
def fX11_nextDraw (a0 : Int32) (g : am_G) : Option (Int32 × am_G) :=
  some (((a0 * (1103 : Int32)) + (12345 : Int32)) - ((a0 * (1103 : Int32)) + (12345 : Int32)) / (1000003 : Int32) * (1000003 : Int32), g)
set_option maxRecDepth 100000 in
set_option maxHeartbeats 4000000 in
theorem eX11_nextDraw (a0 : Int32) (g : am_G) (r : Int32 × am_G) (h : fX11_nextDraw a0 g = some r) : am_Ev zc MX11_nextDraw 0 0 [(0, .int a0)] [] g (am_ri r) := by
  unfold fX11_nextDraw at h
  refine ev_iload_n 0 dX11_nextDraw_0 rfl ?_
  refine ev_sipush dX11_nextDraw_1 rfl ?_
  refine ev_imul dX11_nextDraw_4 ?_
  refine ev_sipush dX11_nextDraw_5 rfl ?_
  refine ev_iadd dX11_nextDraw_8 ?_
  refine ev_ldcw dX11_nextDraw_9 kI_X11_450 ?_
  refine ev_irem dX11_nextDraw_12 (by decide) ?_
  cases h
  exact ev_iret dX11_nextDraw_13 rfl
theorem tX11_nextDraw {a0 : Int32} {g : am_G} {r : Int32 × am_G} (h : fX11_nextDraw a0 g = some r) : am_Mt zc MX11_nextDraw 0 [.int a0] g (am_ri r) := am_Mt.of rfl (Nat.le_of_ble_eq_true rfl) (eX11_nextDraw _ _ _ h)
def fX11_winterTalk (a1 : Nat) (a2 : Int32) (g : am_G) : Option (Int32 × am_G) :=
  am_let (am_max (1 : Int32) (am_I g 12 4)) fun x1 =>
  am_bd (fX11_nextDraw a2 g) fun v2 g3 =>
  am_bd (fX11_nextDraw v2 g3) fun v5 g6 =>
  am_bd (fX11_nextDraw v5 g6) fun v8 g9 =>
  am_gd (!decide (x1 = 0)) <|
  am_let (v2 - v2 / x1 * x1) fun x12 =>
  am_let (v5 - v5 / (4 : Int32) * (4 : Int32)) fun x13 =>
  am_let ((v8 - v8 / (3 : Int32) * (3 : Int32)) + (1 : Int32)) fun x14 =>
  am_bd (fX11_isBarred a1 x12 x13 x14 g9) fun v15 g16 =>
  if v15 = 0 then (
    am_bd (fX11_utter a1 (0 : Int32) x12 x13 x14 g16) fun v19 g20 =>
    some (v8, g20))
  else (
    some (v8, g16))
set_option maxRecDepth 100000 in
set_option maxHeartbeats 4000000 in
theorem eX11_winterTalk (a1 : Nat) (a2 : Int32) (g : am_G) (r : Int32 × am_G) (h : fX11_winterTalk a1 a2 g = some r) : am_Ev zc MX11_winterTalk 5 0 [(0, .ref 0), (1, .ref a1), (2, .int a2)] [] g (am_ri r) := by
  unfold fX11_winterTalk at h
  refine ev_iconst dX11_winterTalk_0 rfl ?_
  refine ev_aload_n 0 dX11_winterTalk_1 rfl ?_
  refine ev_gf (v := .ref 1) dX11_winterTalk_2 (fun h9 => (h9.2.1 0 _ rfl).2) 0 (by decide) (by decide) kF_X11_14 (fun h9 => congrArg va_rf (h9.2.2 0 0 1 rfl)) ?_
  refine ev_gf (v := .ref 12) dX11_winterTalk_5 (fun h9 => (h9.2.1 1 _ rfl).2) 5 (by decide) (by decide) kF_X11_150 (fun h9 => congrArg va_rf (h9.2.2 1 5 12 rfl)) ?_
  refine ev_gf (v := .int (am_I g 12 4)) dX11_winterTalk_8 (fun h9 => (h9.2.1 12 _ rfl).2) 4 (by decide) (by decide) kF_X11_427 (fun _ => rfl) ?_
  refine ev_max dX11_winterTalk_11 kM_X11_343 k_maxS kS_Math k_maxC (Nat.le_of_ble_eq_true rfl) ?_
  refine am_let_elim (P := fun x1 => am_Ev zc MX11_winterTalk 5 14 [(0, .ref 0), (1, .ref a1), (2, .int a2)] [.int x1] g (am_ri r)) h fun x1 h => ?_
  refine ev_istore_n (ls' := [(3, .int x1), (0, .ref 0), (1, .ref a1), (2, .int a2)]) dX11_winterTalk_14 rfl (by decide) rfl ?_
  refine ev_iload_n 3 dX11_winterTalk_15 rfl ?_
  obtain ⟨v2, g3, e4, h⟩ := am_bd_elim h
  refine ev_callSi (v := v2) [.int a2] [] dX11_winterTalk_16 (tX11_nextDraw e4) (by decide) mo_X11_nextDraw kM_X11_447 ks_X11_nextDraw (Nat.le_of_ble_eq_true rfl) ?_
  refine ev_istore (ls' := [(4, .int v2), (3, .int x1), (0, .ref 0), (1, .ref a1), (2, .int a2)]) dX11_winterTalk_19 (by decide) rfl ?_
  refine ev_iload 0 dX11_winterTalk_21 rfl ?_
  obtain ⟨v5, g6, e7, h⟩ := am_bd_elim h
  refine ev_callSi (v := v5) [.int v2] [] dX11_winterTalk_23 (tX11_nextDraw e7) (by decide) mo_X11_nextDraw kM_X11_447 ks_X11_nextDraw (Nat.le_of_ble_eq_true rfl) ?_
  refine ev_istore (ls' := [(5, .int v5), (4, .int v2), (3, .int x1), (0, .ref 0), (1, .ref a1), (2, .int a2)]) dX11_winterTalk_26 (by decide) rfl ?_
  refine ev_iload 0 dX11_winterTalk_28 rfl ?_
  obtain ⟨v8, g9, e10, h⟩ := am_bd_elim h
  refine ev_callSi (v := v8) [.int v5] [] dX11_winterTalk_30 (tX11_nextDraw e10) (by decide) mo_X11_nextDraw kM_X11_447 ks_X11_nextDraw (Nat.le_of_ble_eq_true rfl) ?_
  refine ev_istore (ls' := [(6, .int v8), (5, .int v5), (4, .int v2), (3, .int x1), (0, .ref 0), (1, .ref a1), (2, .int a2)]) dX11_winterTalk_33 (by decide) rfl ?_
  refine ev_iload 2 dX11_winterTalk_35 rfl ?_
  refine ev_iload_n 3 dX11_winterTalk_37 rfl ?_
  obtain ⟨c11, h⟩ := am_gd_elim h
  refine ev_irem dX11_winterTalk_38 (by simpa using c11) ?_
  refine am_let_elim (P := fun x12 => am_Ev zc MX11_winterTalk 5 39 [(6, .int v8), (5, .int v5), (4, .int v2), (3, .int x1), (0, .ref 0), (1, .ref a1), (2, .int a2)] [.int x12] g9 (am_ri r)) h fun x12 h => ?_
  refine ev_istore (ls' := [(7, .int x12), (6, .int v8), (5, .int v5), (4, .int v2), (3, .int x1), (0, .ref 0), (1, .ref a1), (2, .int a2)]) dX11_winterTalk_39 (by decide) rfl ?_
  refine ev_iload 2 dX11_winterTalk_41 rfl ?_
  refine ev_iconst dX11_winterTalk_43 rfl ?_
  refine ev_irem dX11_winterTalk_44 (by decide) ?_
  refine am_let_elim (P := fun x13 => am_Ev zc MX11_winterTalk 5 45 [(7, .int x12), (6, .int v8), (5, .int v5), (4, .int v2), (3, .int x1), (0, .ref 0), (1, .ref a1), (2, .int a2)] [.int x13] g9 (am_ri r)) h fun x13 h => ?_
  refine ev_istore (ls' := [(8, .int x13), (7, .int x12), (6, .int v8), (5, .int v5), (4, .int v2), (3, .int x1), (0, .ref 0), (1, .ref a1), (2, .int a2)]) dX11_winterTalk_45 (by decide) rfl ?_
  refine ev_iload 2 dX11_winterTalk_47 rfl ?_
  refine ev_iconst dX11_winterTalk_49 rfl ?_
  refine ev_irem dX11_winterTalk_50 (by decide) ?_
  refine ev_iconst dX11_winterTalk_51 rfl ?_
  refine ev_iadd dX11_winterTalk_52 ?_
  refine am_let_elim (P := fun x14 => am_Ev zc MX11_winterTalk 5 53 [(8, .int x13), (7, .int x12), (6, .int v8), (5, .int v5), (4, .int v2), (3, .int x1), (0, .ref 0), (1, .ref a1), (2, .int a2)] [.int x14] g9 (am_ri r)) h fun x14 h => ?_
  refine ev_istore (ls' := [(9, .int x14), (8, .int x13), (7, .int x12), (6, .int v8), (5, .int v5), (4, .int v2), (3, .int x1), (0, .ref 0), (1, .ref a1), (2, .int a2)]) dX11_winterTalk_53 (by decide) rfl ?_
  refine ev_aload_n 7 dX11_winterTalk_55 rfl ?_
  refine ev_aload_n 8 dX11_winterTalk_56 rfl ?_
  refine ev_iload 2 dX11_winterTalk_57 rfl ?_
  refine ev_iload 1 dX11_winterTalk_59 rfl ?_
  refine ev_iload 0 dX11_winterTalk_61 rfl ?_
  obtain ⟨v15, g16, e17, h⟩ := am_bd_elim h
  refine ev_callVi (v := v15) [.ref a1, .int x12, .int x13, .int x14] [] dX11_winterTalk_63 (tX11_isBarred e17) (by decide) mo_X11_isBarred kM_X11_280 ki_X11_isBarred kv_X11_isBarred (fun h9 => (h9.2.1 0 _ rfl).2) (by decide) rfl (Nat.le_of_ble_eq_true rfl) ?_
  refine ev_if_ne 82 dX11_winterTalk_66 (by decide) (fun c18 => ?_) (fun c18 => ?_)
  · replace h := am_ifn c18 h
    refine ev_iload 3 dX11_winterTalk_82 rfl ?_
    cases h
    exact ev_iret dX11_winterTalk_84 rfl
  · replace h := am_ifp c18 h
    refine ev_aload_n 7 dX11_winterTalk_69 rfl ?_
    refine ev_aload_n 8 dX11_winterTalk_70 rfl ?_
    refine ev_iconst dX11_winterTalk_71 rfl ?_
    refine ev_iload 2 dX11_winterTalk_72 rfl ?_
    refine ev_iload 1 dX11_winterTalk_74 rfl ?_
    refine ev_iload 0 dX11_winterTalk_76 rfl ?_
    obtain ⟨v19, g20, e21, h⟩ := am_bd_elim h
    refine ev_callVi (v := v19) [.ref a1, .int (0 : Int32), .int x12, .int x13, .int x14] [] dX11_winterTalk_78 (tX11_utter e21) (by decide) mo_X11_utter kM_X11_284 ki_X11_utter kv_X11_utter (fun h9 => (h9.2.1 0 _ rfl).2) (by decide) rfl (Nat.le_of_ble_eq_true rfl) ?_
    refine ev_pop dX11_winterTalk_81 rfl ?_
    refine ev_iload 3 dX11_winterTalk_82 rfl ?_
    cases h
    exact ev_iret dX11_winterTalk_84 rfl
theorem tX11_winterTalk {a1 : Nat} {a2 : Int32} {g : am_G} {r : Int32 × am_G} (h : fX11_winterTalk a1 a2 g = some r) : am_Mt zc MX11_winterTalk 5 [.ref 0, .ref a1, .int a2] g (am_ri r) := am_Mt.of rfl (Nat.le_of_ble_eq_true rfl) (eX11_winterTalk _ _ _ _ h)
def fX11_winter_L62 (a2 : Int32) : Nat → Int32 → Int32 → am_G → Option (Int32 × am_G)
  | 0, _, _, _ => none
  | n + 1, x19, x20, g21 =>
    if a2 ≤ x20 then (
      am_let (am_si g21 0 13 (1 : Int32)) fun g23 =>
      am_bd (fX11_accepted (am_I g23 71 6) g23) fun v24 g25 =>
      some (v24, g25))
    else (
      am_jn (fun (x28 : Int32) (g29 : am_G) =>
        if (am_I g29 71 5) < (999 : Int32) then (
          am_bd (fX11_passNight 71 g29) fun v32 g33 =>
          am_let (x20 + (1 : Int32)) fun x35 =>
          fX11_winter_L62 a2 n x28 x35 g33)
        else (
          am_let (am_si g29 0 13 (1 : Int32)) fun g36 =>
          am_bd (fX11_accepted (am_I g36 71 6) g36) fun v37 g38 =>
          some (v37, g38))) fun j30 =>
      if (am_I g21 12 4) ≤ 0 then (
        j30 x19 g21)
      else (
        am_bd (fX11_winterTalk 71 x19 g21) fun v40 g41 =>
        j30 v40 g41))
def fX11_winter (a1 : Int32) (a2 : Int32) (g : am_G) : Option (Int32 × am_G) :=
  am_bd (fX11_within a1 (0 : Int32) (1000000 : Int32) g) fun v1 g2 =>
  if v1 = 0 then (
    am_bd (fX11_refused (-1 : Int32) g2) fun v5 g6 =>
    some (v5, g6))
  else (
    am_bd (fX11_within a2 (1 : Int32) (100 : Int32) g2) fun v8 g9 =>
    if v8 = 0 then (
      am_bd (fX11_refused (-1 : Int32) g9) fun v43 g44 =>
      some (v43, g44))
    else (
      am_bd (fX2_copyFrom 71 2 g9) fun u12 g13 =>
      am_bd (fJ7_fill_53178 zc_n 76 (0 : Int32) g13) fun u15 g16 =>
      am_let (am_si g16 71 6 (0 : Int32)) fun g18 =>
      fX11_winter_L62 a2 am_fu a1 (0 : Int32) g18))
set_option maxRecDepth 100000 in
set_option maxHeartbeats 4000000 in
theorem tfX11_winter_L62  (a2 : Int32) : ∀ (n : Nat) (x19 : Int32) (x20 : Int32) (g21 : am_G) (r : Int32 × am_G), fX11_winter_L62 a2 n x19 x20 g21 = some r → am_Ev zc MX11_winter 6 62 [(0, .ref 0), (2, .int a2), (3, .ref 71), (4, .int x19), (5, .int x20)] [] g21 (am_ri r) := by
  intro n
  induction n with
  | zero => intro x19 x20 g21 r h; exact nomatch (show (none : Option (Int32 × am_G)) = some r from h)
  | succ n ih =>
    intro x19 x20 g21 r h
    rw [fX11_winter_L62] at h
    refine ev_iload 4 dX11_winter_62 rfl ?_
    refine ev_iload_n 1 dX11_winter_64 rfl ?_
    refine ev_icmp_ge 115 dX11_winter_65 (by decide) (fun c22 => ?_) (fun c22 => ?_)
    · replace h := am_ifp c22 h
      refine ev_aload_n 0 dX11_winter_115 rfl ?_
      refine ev_iconst dX11_winter_116 rfl ?_
      refine ev_pfi dX11_winter_117 (fun h9 => (h9.2.1 0 _ rfl).2) 13 (by decide) (by decide) kF_X11_443 rfl rfl rfl (fun _ => rfl) ?_
      refine am_let_elim (P := fun g23 => am_Ev zc MX11_winter 6 120 [(0, .ref 0), (2, .int a2), (3, .ref 71), (4, .int x19), (5, .int x20)] [] g23 (am_ri r)) h fun g23 h => ?_
      refine ev_aload_n 0 dX11_winter_120 rfl ?_
      refine ev_aload_n 2 dX11_winter_121 rfl ?_
      refine ev_gf (v := .int (am_I g23 71 6)) dX11_winter_122 (fun h9 => (h9.2.1 71 _ rfl).2) 6 (by decide) (by decide) kF_X11_234 (fun _ => rfl) ?_
      obtain ⟨v24, g25, e26, h⟩ := am_bd_elim h
      refine ev_callVi (v := v24) [.int (am_I g23 71 6)] [] dX11_winter_125 (tX11_accepted e26) (by decide) mo_X11_accepted kM_X11_133 ki_X11_accepted kv_X11_accepted (fun h9 => (h9.2.1 0 _ rfl).2) (by decide) rfl (Nat.le_of_ble_eq_true rfl) ?_
      cases h
      exact ev_iret dX11_winter_128 rfl
    · replace h := am_ifn c22 h
      refine ev_aload_n 0 dX11_winter_68 rfl ?_
      refine ev_gf (v := .ref 1) dX11_winter_69 (fun h9 => (h9.2.1 0 _ rfl).2) 0 (by decide) (by decide) kF_X11_14 (fun h9 => congrArg va_rf (h9.2.2 0 0 1 rfl)) ?_
      refine ev_gf (v := .ref 12) dX11_winter_72 (fun h9 => (h9.2.1 1 _ rfl).2) 5 (by decide) (by decide) kF_X11_150 (fun h9 => congrArg va_rf (h9.2.2 1 5 12 rfl)) ?_
      refine ev_gf (v := .int (am_I g21 12 4)) dX11_winter_75 (fun h9 => (h9.2.1 12 _ rfl).2) 4 (by decide) (by decide) kF_X11_427 (fun _ => rfl) ?_
      refine am_jn_elim (fun q9 => ∀ (x28 : Int32) (g29 : am_G) (r : Int32 × am_G), q9 x28 g29 = some r → am_Ev zc MX11_winter 6 90 [(0, .ref 0), (2, .int a2), (3, .ref 71), (4, .int x28), (5, .int x20)] [] g29 (am_ri r)) h ?_ (fun j30 hj30 h => ?_)
      · intro x28 g29 r h
        try dsimp only at h
        refine ev_aload_n 2 dX11_winter_90 rfl ?_
        refine ev_gf (v := .int (am_I g29 71 5)) dX11_winter_91 (fun h9 => (h9.2.1 71 _ rfl).2) 5 (by decide) (by decide) kF_X11_177 (fun _ => rfl) ?_
        refine ev_sipush dX11_winter_94 rfl ?_
        refine ev_icmp_lt 103 dX11_winter_97 (by decide) (fun c31 => ?_) (fun c31 => ?_)
        · replace h := am_ifp c31 h
          refine ev_aload_n 0 dX11_winter_103 rfl ?_
          refine ev_aload_n 2 dX11_winter_104 rfl ?_
          obtain ⟨v32, g33, e34, h⟩ := am_bd_elim h
          refine ev_callVi (v := v32) [.ref 71] [] dX11_winter_105 (tX11_passNight e34) (by decide) mo_X11_passNight kM_X11_267 ki_X11_passNight kv_X11_passNight (fun h9 => (h9.2.1 0 _ rfl).2) (by decide) rfl (Nat.le_of_ble_eq_true rfl) ?_
          refine ev_pop dX11_winter_108 rfl ?_
          obtain ⟨x35, ex35, h⟩ := am_let_ex h
          refine ev_iinc (ls' := [(5, .int x35), (0, .ref 0), (2, .int a2), (3, .ref 71), (4, .int x28)]) 4 dX11_winter_109 rfl ex35 (by decide) rfl ?_
          refine ev_goto 62 dX11_winter_112 (by decide) ?_
          refine ev_sub [1, 2, 3, 4, 0] rfl ?_
          exact ih _ _ _ _ h
        · replace h := am_ifn c31 h
          refine ev_goto 115 dX11_winter_100 (by decide) ?_
          refine ev_aload_n 0 dX11_winter_115 rfl ?_
          refine ev_iconst dX11_winter_116 rfl ?_
          refine ev_pfi dX11_winter_117 (fun h9 => (h9.2.1 0 _ rfl).2) 13 (by decide) (by decide) kF_X11_443 rfl rfl rfl (fun _ => rfl) ?_
          refine am_let_elim (P := fun g36 => am_Ev zc MX11_winter 6 120 [(0, .ref 0), (2, .int a2), (3, .ref 71), (4, .int x28), (5, .int x20)] [] g36 (am_ri r)) h fun g36 h => ?_
          refine ev_aload_n 0 dX11_winter_120 rfl ?_
          refine ev_aload_n 2 dX11_winter_121 rfl ?_
          refine ev_gf (v := .int (am_I g36 71 6)) dX11_winter_122 (fun h9 => (h9.2.1 71 _ rfl).2) 6 (by decide) (by decide) kF_X11_234 (fun _ => rfl) ?_
          obtain ⟨v37, g38, e39, h⟩ := am_bd_elim h
          refine ev_callVi (v := v37) [.int (am_I g36 71 6)] [] dX11_winter_125 (tX11_accepted e39) (by decide) mo_X11_accepted kM_X11_133 ki_X11_accepted kv_X11_accepted (fun h9 => (h9.2.1 0 _ rfl).2) (by decide) rfl (Nat.le_of_ble_eq_true rfl) ?_
          cases h
          exact ev_iret dX11_winter_128 rfl
      · refine ev_if_le 90 dX11_winter_78 (by decide) (fun c27 => ?_) (fun c27 => ?_)
        · replace h := am_ifp c27 h
          refine ev_sub [0, 1, 2, 3, 4] rfl ?_
          exact hj30 _ _ _ h
        · replace h := am_ifn c27 h
          refine ev_aload_n 0 dX11_winter_81 rfl ?_
          refine ev_aload_n 2 dX11_winter_82 rfl ?_
          refine ev_iload 3 dX11_winter_83 rfl ?_
          obtain ⟨v40, g41, e42, h⟩ := am_bd_elim h
          refine ev_callVi (v := v40) [.ref 71, .int x19] [] dX11_winter_85 (tX11_winterTalk e42) (by decide) mo_X11_winterTalk kM_X11_439 ki_X11_winterTalk kv_X11_winterTalk (fun h9 => (h9.2.1 0 _ rfl).2) (by decide) rfl (Nat.le_of_ble_eq_true rfl) ?_
          refine ev_istore (ls' := [(4, .int v40), (0, .ref 0), (2, .int a2), (3, .ref 71), (5, .int x20)]) dX11_winter_88 (by decide) rfl ?_
          refine ev_sub [1, 2, 3, 0, 4] rfl ?_
          exact hj30 _ _ _ h
set_option maxRecDepth 100000 in
set_option maxHeartbeats 4000000 in
theorem eX11_winter (a1 : Int32) (a2 : Int32) (g : am_G) (r : Int32 × am_G) (h : fX11_winter a1 a2 g = some r) : am_Ev zc MX11_winter 6 0 [(0, .ref 0), (1, .int a1), (2, .int a2)] [] g (am_ri r) := by
  unfold fX11_winter at h
  refine ev_iload_n 1 dX11_winter_0 rfl ?_
  refine ev_iconst dX11_winter_1 rfl ?_
  refine ev_ldcw dX11_winter_2 kI_X11_432 ?_
  obtain ⟨v1, g2, e3, h⟩ := am_bd_elim h
  refine ev_callSi (v := v1) [.int a1, .int (0 : Int32), .int (1000000 : Int32)] [] dX11_winter_5 (tX11_within e3) (by decide) mo_X11_within kM_X11_136 ks_X11_within (Nat.le_of_ble_eq_true rfl) ?_
  refine ev_if_eq 21 dX11_winter_8 (by decide) (fun c4 => ?_) (fun c4 => ?_)
  · replace h := am_ifp c4 h
    refine ev_aload_n 0 dX11_winter_21 rfl ?_
    refine ev_iconst dX11_winter_22 rfl ?_
    obtain ⟨v5, g6, e7, h⟩ := am_bd_elim h
    refine ev_callVi (v := v5) [.int (-1 : Int32)] [] dX11_winter_23 (tX11_refused e7) (by decide) mo_X11_refused kM_X11_104 ki_X11_refused kv_X11_refused (fun h9 => (h9.2.1 0 _ rfl).2) (by decide) rfl (Nat.le_of_ble_eq_true rfl) ?_
    cases h
    exact ev_iret dX11_winter_26 rfl
  · replace h := am_ifn c4 h
    refine ev_iload_n 2 dX11_winter_11 rfl ?_
    refine ev_iconst dX11_winter_12 rfl ?_
    refine ev_bipush dX11_winter_13 rfl ?_
    obtain ⟨v8, g9, e10, h⟩ := am_bd_elim h
    refine ev_callSi (v := v8) [.int a2, .int (1 : Int32), .int (100 : Int32)] [] dX11_winter_15 (tX11_within e10) (by decide) mo_X11_within kM_X11_136 ks_X11_within (Nat.le_of_ble_eq_true rfl) ?_
    refine ev_if_ne 27 dX11_winter_18 (by decide) (fun c11 => ?_) (fun c11 => ?_)
    · replace h := am_ifn c11 h
      refine ev_aload_n 0 dX11_winter_27 rfl ?_
      refine ev_gf (v := .ref 71) dX11_winter_28 (fun h9 => (h9.2.1 0 _ rfl).2) 10 (by decide) (by decide) kF_X11_82 (fun h9 => congrArg va_rf (h9.2.2 0 10 71 rfl)) ?_
      refine ev_astore_n (ls' := [(3, .ref 71), (0, .ref 0), (1, .int a1), (2, .int a2)]) dX11_winter_31 rfl (by decide) rfl ?_
      refine ev_aload_n 0 dX11_winter_32 rfl ?_
      refine ev_aload_n 1 dX11_winter_33 rfl ?_
      refine ev_gf (v := .ref 1) dX11_winter_34 (fun h9 => (h9.2.1 0 _ rfl).2) 0 (by decide) (by decide) kF_X11_14 (fun h9 => congrArg va_rf (h9.2.2 0 0 1 rfl)) ?_
      refine ev_gf (v := .ref 2) dX11_winter_37 (fun h9 => (h9.2.1 1 _ rfl).2) 0 (by decide) (by decide) kF_X11_112 (fun h9 => congrArg va_rf (h9.2.2 1 0 2 rfl)) ?_
      obtain ⟨u12, g13, e14, h⟩ := am_bd_elim h
      refine ev_callVv [.ref 2] [] dX11_winter_40 (tX2_copyFrom e14) (by decide) mo_X2_copyFrom kM_X11_223 ki_X2_copyFrom kv_X2_copyFrom (fun h9 => (h9.2.1 71 _ rfl).2) (by decide) rfl (Nat.le_of_ble_eq_true rfl) ?_
      refine ev_aload_n 0 dX11_winter_43 rfl ?_
      refine ev_gf (v := .ref 76) dX11_winter_44 (fun h9 => (h9.2.1 71 _ rfl).2) 4 (by decide) (by decide) kF_X11_142 (fun h9 => congrArg va_rf (h9.2.2 71 4 76 rfl)) ?_
      refine ev_iconst dX11_winter_47 rfl ?_
      obtain ⟨u15, g16, e17, h⟩ := am_bd_elim h
      refine ev_callSv [.ref 76, .int (0 : Int32)] [] dX11_winter_48 (tJ7_fill_53178 (fun _ h9 => zc_fresh h9) zc_free e17) (by decide) mo_J7_fill_53178 kM_X11_433 ks_J7_fill_53178 (Nat.le_of_ble_eq_true rfl) ?_
      refine ev_aload_n 0 dX11_winter_51 rfl ?_
      refine ev_iconst dX11_winter_52 rfl ?_
      refine ev_pfi dX11_winter_53 (fun h9 => (h9.2.1 71 _ rfl).2) 6 (by decide) (by decide) kF_X11_234 rfl rfl rfl (fun _ => rfl) ?_
      refine am_let_elim (P := fun g18 => am_Ev zc MX11_winter 6 56 [(3, .ref 71), (0, .ref 0), (1, .int a1), (2, .int a2)] [] g18 (am_ri r)) h fun g18 h => ?_
      refine ev_iload_n 2 dX11_winter_56 rfl ?_
      refine ev_istore (ls' := [(4, .int a1), (3, .ref 71), (0, .ref 0), (1, .int a1), (2, .int a2)]) dX11_winter_57 (by decide) rfl ?_
      refine ev_iconst dX11_winter_59 rfl ?_
      refine ev_istore (ls' := [(5, .int (0 : Int32)), (4, .int a1), (3, .ref 71), (0, .ref 0), (1, .int a1), (2, .int a2)]) dX11_winter_60 (by decide) rfl ?_
      refine ev_sub [3, 5, 2, 1, 0] rfl ?_
      exact tfX11_winter_L62 a2 _ _ _ _ _ h
    · replace h := am_ifp c11 h
      refine ev_aload_n 0 dX11_winter_21 rfl ?_
      refine ev_iconst dX11_winter_22 rfl ?_
      obtain ⟨v43, g44, e45, h⟩ := am_bd_elim h
      refine ev_callVi (v := v43) [.int (-1 : Int32)] [] dX11_winter_23 (tX11_refused e45) (by decide) mo_X11_refused kM_X11_104 ki_X11_refused kv_X11_refused (fun h9 => (h9.2.1 0 _ rfl).2) (by decide) rfl (Nat.le_of_ble_eq_true rfl) ?_
      cases h
      exact ev_iret dX11_winter_26 rfl
theorem tX11_winter {a1 : Int32} {a2 : Int32} {g : am_G} {r : Int32 × am_G} (h : fX11_winter a1 a2 g = some r) : am_Mt zc MX11_winter 6 [.ref 0, .int a1, .int a2] g (am_ri r) := am_Mt.of rfl (Nat.le_of_ble_eq_true rfl) (eX11_winter _ _ _ _ h)
def fX11_drawn (a1 : Int32) (a2 : Int32) (g : am_G) : Option (Int32 × am_G) :=
  if (am_I g 0 13) = 0 then (
    some ((-1 : Int32), g))
  else (
    am_bd (fX11_isSlope a1 g) fun v2 g3 =>
    if v2 = 0 then (
      some ((-1 : Int32), g3))
    else (
      am_bd (fX11_within a2 (0 : Int32) (1 : Int32) g3) fun v6 g7 =>
      if v6 = 0 then (
        some ((-1 : Int32), g7))
      else (
        if a2 = 0 then (
          am_gd (am_in a1 6) <|
          some (am_I g7 72 a1.toNatClampNeg, g7))
        else (
          am_gd (am_in a1 6) <|
          some (am_I g7 76 a1.toNatClampNeg, g7)))))
set_option maxRecDepth 100000 in
set_option maxHeartbeats 4000000 in
theorem eX11_drawn (a1 : Int32) (a2 : Int32) (g : am_G) (r : Int32 × am_G) (h : fX11_drawn a1 a2 g = some r) : am_Ev zc MX11_drawn 2 0 [(0, .ref 0), (1, .int a1), (2, .int a2)] [] g (am_ri r) := by
  unfold fX11_drawn at h
  refine ev_aload_n 0 dX11_drawn_0 rfl ?_
  refine ev_gf (v := .int (am_I g 0 13)) dX11_drawn_1 (fun h9 => (h9.2.1 0 _ rfl).2) 13 (by decide) (by decide) kF_X11_443 (fun _ => rfl) ?_
  refine ev_if_eq 23 dX11_drawn_4 (by decide) (fun c1 => ?_) (fun c1 => ?_)
  · replace h := am_ifp c1 h
    refine ev_iconst dX11_drawn_23 rfl ?_
    cases h
    exact ev_iret dX11_drawn_24 rfl
  · replace h := am_ifn c1 h
    refine ev_iload_n 1 dX11_drawn_7 rfl ?_
    obtain ⟨v2, g3, e4, h⟩ := am_bd_elim h
    refine ev_callSi (v := v2) [.int a1] [] dX11_drawn_8 (tX11_isSlope e4) (by decide) mo_X11_isSlope kM_X11_96 ks_X11_isSlope (Nat.le_of_ble_eq_true rfl) ?_
    refine ev_if_eq 23 dX11_drawn_11 (by decide) (fun c5 => ?_) (fun c5 => ?_)
    · replace h := am_ifp c5 h
      refine ev_iconst dX11_drawn_23 rfl ?_
      cases h
      exact ev_iret dX11_drawn_24 rfl
    · replace h := am_ifn c5 h
      refine ev_iload_n 2 dX11_drawn_14 rfl ?_
      refine ev_iconst dX11_drawn_15 rfl ?_
      refine ev_iconst dX11_drawn_16 rfl ?_
      obtain ⟨v6, g7, e8, h⟩ := am_bd_elim h
      refine ev_callSi (v := v6) [.int a2, .int (0 : Int32), .int (1 : Int32)] [] dX11_drawn_17 (tX11_within e8) (by decide) mo_X11_within kM_X11_136 ks_X11_within (Nat.le_of_ble_eq_true rfl) ?_
      refine ev_if_ne 25 dX11_drawn_20 (by decide) (fun c9 => ?_) (fun c9 => ?_)
      · replace h := am_ifn c9 h
        refine ev_iload_n 2 dX11_drawn_25 rfl ?_
        refine ev_if_ne 41 dX11_drawn_26 (by decide) (fun c10 => ?_) (fun c10 => ?_)
        · replace h := am_ifn c10 h
          refine ev_aload_n 0 dX11_drawn_41 rfl ?_
          refine ev_gf (v := .ref 71) dX11_drawn_42 (fun h9 => (h9.2.1 0 _ rfl).2) 10 (by decide) (by decide) kF_X11_82 (fun h9 => congrArg va_rf (h9.2.2 0 10 71 rfl)) ?_
          refine ev_gf (v := .ref 76) dX11_drawn_45 (fun h9 => (h9.2.1 71 _ rfl).2) 4 (by decide) (by decide) kF_X11_142 (fun h9 => congrArg va_rf (h9.2.2 71 4 76 rfl)) ?_
          refine ev_iload_n 1 dX11_drawn_48 rfl ?_
          obtain ⟨c11, h⟩ := am_gd_elim h
          refine ev_iald dX11_drawn_49 (fun h9 => (h9.2.1 76 _ rfl).2) (am_in_vp c11) ?_
          cases h
          exact ev_iret dX11_drawn_50 rfl
        · replace h := am_ifp c10 h
          refine ev_aload_n 0 dX11_drawn_29 rfl ?_
          refine ev_gf (v := .ref 71) dX11_drawn_30 (fun h9 => (h9.2.1 0 _ rfl).2) 10 (by decide) (by decide) kF_X11_82 (fun h9 => congrArg va_rf (h9.2.2 0 10 71 rfl)) ?_
          refine ev_gf (v := .ref 72) dX11_drawn_33 (fun h9 => (h9.2.1 71 _ rfl).2) 0 (by decide) (by decide) kF_X11_115 (fun h9 => congrArg va_rf (h9.2.2 71 0 72 rfl)) ?_
          refine ev_iload_n 1 dX11_drawn_36 rfl ?_
          obtain ⟨c12, h⟩ := am_gd_elim h
          refine ev_iald dX11_drawn_37 (fun h9 => (h9.2.1 72 _ rfl).2) (am_in_vp c12) ?_
          refine ev_goto 50 dX11_drawn_38 (by decide) ?_
          cases h
          exact ev_iret dX11_drawn_50 rfl
      · replace h := am_ifp c9 h
        refine ev_iconst dX11_drawn_23 rfl ?_
        cases h
        exact ev_iret dX11_drawn_24 rfl
theorem tX11_drawn {a1 : Int32} {a2 : Int32} {g : am_G} {r : Int32 × am_G} (h : fX11_drawn a1 a2 g = some r) : am_Mt zc MX11_drawn 2 [.ref 0, .int a1, .int a2] g (am_ri r) := am_Mt.of rfl (Nat.le_of_ble_eq_true rfl) (eX11_drawn _ _ _ _ h)
def fX11_image (a1 : Int32) (g : am_G) : Option (Int32 × am_G) :=
  am_bd (fX11_within a1 (0 : Int32) (1 : Int32) g) fun v1 g2 =>
  if v1 = 0 then (
    am_bd (fX11_refused (-1 : Int32) g2) fun v36 g37 =>
    some (v36, g37))
  else (
    am_gd (am_in a1 2) <|
    am_oc (am_P g2 25 a1.toNatClampNeg) (fun p6 =>
      am_gd (am_in a1 2) <|
      am_oc (am_P g2 25 a1.toNatClampNeg) (fun p9 =>
        am_gd (decide (am_S g2 p9 = (9, 20))) <|
        am_bd (fX9_copyFrom p9 1 g2) fun u11 g12 =>
        am_bd (fX11_accepted (0 : Int32) g12) fun v15 g16 =>
        some (v15, g16))
       (
        none))
     (
      am_let (am_n g2) fun p18 =>
      am_let (am_new g2 9 20) fun g19 =>
      am_bd (fX9_init zc_n p18 g19) fun u20 g21 =>
      am_gd (am_in a1 2) <|
      am_gd (decide (am_S g21 p18 = (9, 20))) <|
      am_let (am_sp g21 25 a1.toNatClampNeg (some p18)) fun g25 =>
      am_gd (am_in a1 2) <|
      am_oc (am_P g25 25 a1.toNatClampNeg) (fun p27 =>
        am_gd (decide (am_S g25 p27 = (9, 20))) <|
        am_bd (fX9_copyFrom p27 1 g25) fun u29 g30 =>
        am_bd (fX11_accepted (0 : Int32) g30) fun v33 g34 =>
        some (v33, g34))
       (
        none)))
set_option maxRecDepth 100000 in
set_option maxHeartbeats 4000000 in
theorem eX11_image (a1 : Int32) (g : am_G) (r : Int32 × am_G) (h : fX11_image a1 g = some r) : am_Ev zc MX11_image 2 0 [(0, .ref 0), (1, .int a1)] [] g (am_ri r) := by
  unfold fX11_image at h
  refine ev_iload_n 1 dX11_image_0 rfl ?_
  refine ev_iconst dX11_image_1 rfl ?_
  refine ev_iconst dX11_image_2 rfl ?_
  obtain ⟨v1, g2, e3, h⟩ := am_bd_elim h
  refine ev_callSi (v := v1) [.int a1, .int (0 : Int32), .int (1 : Int32)] [] dX11_image_3 (tX11_within e3) (by decide) mo_X11_within kM_X11_136 ks_X11_within (Nat.le_of_ble_eq_true rfl) ?_
  refine ev_if_ne 15 dX11_image_6 (by decide) (fun c4 => ?_) (fun c4 => ?_)
  · replace h := am_ifn c4 h
    refine ev_aload_n 0 dX11_image_15 rfl ?_
    refine ev_gf (v := .ref 25) dX11_image_16 (fun h9 => (h9.2.1 0 _ rfl).2) 1 (by decide) (by decide) kF_X11_18 (fun h9 => congrArg va_rf (h9.2.2 0 1 25 rfl)) ?_
    refine ev_iload_n 1 dX11_image_19 rfl ?_
    obtain ⟨c5, h⟩ := am_gd_elim h
    refine am_oc_elim h (fun p6 e7 h => ?_) (fun e7 h => ?_)
    · refine ev_aald (v := .ref p6) dX11_image_20 (fun h9 => (h9.2.1 25 _ rfl).2) (by decide) (by decide) (am_in_vp c5) (fun _ => congrArg va_rf e7) ?_
      refine ev_ifnonnull 37 dX11_image_21 (by decide) ?_
      refine ev_aload_n 0 dX11_image_37 rfl ?_
      refine ev_gf (v := .ref 25) dX11_image_38 (fun h9 => (h9.2.1 0 _ rfl).2) 1 (by decide) (by decide) kF_X11_18 (fun h9 => congrArg va_rf (h9.2.2 0 1 25 rfl)) ?_
      refine ev_iload_n 1 dX11_image_41 rfl ?_
      obtain ⟨c8, h⟩ := am_gd_elim h
      refine am_oc_elim h (fun p9 e10 h => ?_) (fun e10 h => ?_)
      · refine ev_aald (v := .ref p9) dX11_image_42 (fun h9 => (h9.2.1 25 _ rfl).2) (by decide) (by decide) (am_in_vp c8) (fun _ => congrArg va_rf e10) ?_
        refine ev_aload_n 0 dX11_image_43 rfl ?_
        refine ev_gf (v := .ref 1) dX11_image_44 (fun h9 => (h9.2.1 0 _ rfl).2) 0 (by decide) (by decide) kF_X11_14 (fun h9 => congrArg va_rf (h9.2.2 0 0 1 rfl)) ?_
        obtain ⟨c14, h⟩ := am_gd_elim h
        obtain ⟨u11, g12, e13, h⟩ := am_bd_elim h
        refine ev_callVv [.ref 1] [] dX11_image_47 (tX9_copyFrom e13) (by decide) mo_X9_copyFrom kM_X11_451 ki_X9_copyFrom kv_X9_copyFrom (fun _ => am_sh c14) (by decide) rfl (Nat.le_of_ble_eq_true rfl) ?_
        refine ev_aload_n 0 dX11_image_50 rfl ?_
        refine ev_iconst dX11_image_51 rfl ?_
        obtain ⟨v15, g16, e17, h⟩ := am_bd_elim h
        refine ev_callVi (v := v15) [.int (0 : Int32)] [] dX11_image_52 (tX11_accepted e17) (by decide) mo_X11_accepted kM_X11_133 ki_X11_accepted kv_X11_accepted (fun h9 => (h9.2.1 0 _ rfl).2) (by decide) rfl (Nat.le_of_ble_eq_true rfl) ?_
        cases h
        exact ev_iret dX11_image_55 rfl
      · refine ev_aald (v := .null) dX11_image_42 (fun h9 => (h9.2.1 25 _ rfl).2) (by decide) (by decide) (am_in_vp c8) (fun _ => congrArg va_rf e10) ?_
        refine ev_aload_n 0 dX11_image_43 rfl ?_
        refine ev_gf (v := .ref 1) dX11_image_44 (fun h9 => (h9.2.1 0 _ rfl).2) 0 (by decide) (by decide) kF_X11_14 (fun h9 => congrArg va_rf (h9.2.2 0 0 1 rfl)) ?_
        cases h
    · refine ev_aald (v := .null) dX11_image_20 (fun h9 => (h9.2.1 25 _ rfl).2) (by decide) (by decide) (am_in_vp c5) (fun _ => congrArg va_rf e7) ?_
      refine ev_ifnonnullN dX11_image_21 ?_
      refine ev_aload_n 0 dX11_image_24 rfl ?_
      refine ev_gf (v := .ref 25) dX11_image_25 (fun h9 => (h9.2.1 0 _ rfl).2) 1 (by decide) (by decide) kF_X11_18 (fun h9 => congrArg va_rf (h9.2.2 0 1 25 rfl)) ?_
      refine ev_iload_n 1 dX11_image_28 rfl ?_
      refine ev_new 9 dX11_image_29 zc_fresh (by decide) kC_X11_11 ?_
      refine am_let_elim (P := fun p18 => am_Ev zc MX11_image 2 32 [(0, .ref 0), (1, .int a1)] [.ref p18, .int a1, .ref 25] (am_new g2 9 20) (am_ri r)) h fun p18 h => ?_
      refine am_let_elim (P := fun g19 => am_Ev zc MX11_image 2 32 [(0, .ref 0), (1, .int a1)] [.ref p18, .int a1, .ref 25] g19 (am_ri r)) h fun g19 h => ?_
      refine ev_dup dX11_image_32 rfl ?_
      obtain ⟨u20, g21, e22, h⟩ := am_bd_elim h
      refine ev_callI (as := []) (rest := [.ref p18, .int a1, .ref 25]) dX11_image_33 (tX9_init (fun _ h9 => zc_fresh h9) zc_free e22) (by decide) mo_X9_init kM_X11_13 ki_X9_init ⟨rfl, rfl⟩ (Nat.le_of_ble_eq_true rfl) ?_
      obtain ⟨c23, h⟩ := am_gd_elim h
      obtain ⟨c24, h⟩ := am_gd_elim h
      refine ev_aast dX11_image_36 (fun h9 => (h9.2.1 25 _ rfl).2) (by decide) (by decide) (fun _ => am_sh c24) (am_in_vp c23) (fun _ => rfl) ?_
      refine am_let_elim (P := fun g25 => am_Ev zc MX11_image 2 37 [(0, .ref 0), (1, .int a1)] [] g25 (am_ri r)) h fun g25 h => ?_
      refine ev_aload_n 0 dX11_image_37 rfl ?_
      refine ev_gf (v := .ref 25) dX11_image_38 (fun h9 => (h9.2.1 0 _ rfl).2) 1 (by decide) (by decide) kF_X11_18 (fun h9 => congrArg va_rf (h9.2.2 0 1 25 rfl)) ?_
      refine ev_iload_n 1 dX11_image_41 rfl ?_
      obtain ⟨c26, h⟩ := am_gd_elim h
      refine am_oc_elim h (fun p27 e28 h => ?_) (fun e28 h => ?_)
      · refine ev_aald (v := .ref p27) dX11_image_42 (fun h9 => (h9.2.1 25 _ rfl).2) (by decide) (by decide) (am_in_vp c26) (fun _ => congrArg va_rf e28) ?_
        refine ev_aload_n 0 dX11_image_43 rfl ?_
        refine ev_gf (v := .ref 1) dX11_image_44 (fun h9 => (h9.2.1 0 _ rfl).2) 0 (by decide) (by decide) kF_X11_14 (fun h9 => congrArg va_rf (h9.2.2 0 0 1 rfl)) ?_
        obtain ⟨c32, h⟩ := am_gd_elim h
        obtain ⟨u29, g30, e31, h⟩ := am_bd_elim h
        refine ev_callVv [.ref 1] [] dX11_image_47 (tX9_copyFrom e31) (by decide) mo_X9_copyFrom kM_X11_451 ki_X9_copyFrom kv_X9_copyFrom (fun _ => am_sh c32) (by decide) rfl (Nat.le_of_ble_eq_true rfl) ?_
        refine ev_aload_n 0 dX11_image_50 rfl ?_
        refine ev_iconst dX11_image_51 rfl ?_
        obtain ⟨v33, g34, e35, h⟩ := am_bd_elim h
        refine ev_callVi (v := v33) [.int (0 : Int32)] [] dX11_image_52 (tX11_accepted e35) (by decide) mo_X11_accepted kM_X11_133 ki_X11_accepted kv_X11_accepted (fun h9 => (h9.2.1 0 _ rfl).2) (by decide) rfl (Nat.le_of_ble_eq_true rfl) ?_
        cases h
        exact ev_iret dX11_image_55 rfl
      · refine ev_aald (v := .null) dX11_image_42 (fun h9 => (h9.2.1 25 _ rfl).2) (by decide) (by decide) (am_in_vp c26) (fun _ => congrArg va_rf e28) ?_
        refine ev_aload_n 0 dX11_image_43 rfl ?_
        refine ev_gf (v := .ref 1) dX11_image_44 (fun h9 => (h9.2.1 0 _ rfl).2) 0 (by decide) (by decide) kF_X11_14 (fun h9 => congrArg va_rf (h9.2.2 0 0 1 rfl)) ?_
        cases h
  · replace h := am_ifp c4 h
    refine ev_aload_n 0 dX11_image_9 rfl ?_
    refine ev_iconst dX11_image_10 rfl ?_
    obtain ⟨v36, g37, e38, h⟩ := am_bd_elim h
    refine ev_callVi (v := v36) [.int (-1 : Int32)] [] dX11_image_11 (tX11_refused e38) (by decide) mo_X11_refused kM_X11_104 ki_X11_refused kv_X11_refused (fun h9 => (h9.2.1 0 _ rfl).2) (by decide) rfl (Nat.le_of_ble_eq_true rfl) ?_
    cases h
    exact ev_iret dX11_image_14 rfl
theorem tX11_image {a1 : Int32} {g : am_G} {r : Int32 × am_G} (h : fX11_image a1 g = some r) : am_Mt zc MX11_image 2 [.ref 0, .int a1] g (am_ri r) := am_Mt.of rfl (Nat.le_of_ble_eq_true rfl) (eX11_image _ _ _ h)
def fX11_back (a1 : Int32) (g : am_G) : Option (Int32 × am_G) :=
  am_bd (fX11_within a1 (0 : Int32) (1 : Int32) g) fun v1 g2 =>
  if v1 = 0 then (
    am_bd (fX11_refused (-1 : Int32) g2) fun v23 g24 =>
    some (v23, g24))
  else (
    am_gd (am_in a1 2) <|
    am_oc (am_P g2 25 a1.toNatClampNeg) (fun p6 =>
      am_gd (am_in a1 2) <|
      am_oc (am_P g2 25 a1.toNatClampNeg) (fun p9 =>
        am_bd (fX9_copyFrom 1 p9 g2) fun u11 g12 =>
        am_bd (fX8_clear g12) fun u14 g15 =>
        am_bd (fX11_accepted (0 : Int32) g15) fun v17 g18 =>
        some (v17, g18))
       (
        none))
     (
      am_bd (fX11_refused (-2 : Int32) g2) fun v20 g21 =>
      some (v20, g21)))
set_option maxRecDepth 100000 in
set_option maxHeartbeats 4000000 in
theorem eX11_back (a1 : Int32) (g : am_G) (r : Int32 × am_G) (h : fX11_back a1 g = some r) : am_Ev zc MX11_back 2 0 [(0, .ref 0), (1, .int a1)] [] g (am_ri r) := by
  unfold fX11_back at h
  refine ev_iload_n 1 dX11_back_0 rfl ?_
  refine ev_iconst dX11_back_1 rfl ?_
  refine ev_iconst dX11_back_2 rfl ?_
  obtain ⟨v1, g2, e3, h⟩ := am_bd_elim h
  refine ev_callSi (v := v1) [.int a1, .int (0 : Int32), .int (1 : Int32)] [] dX11_back_3 (tX11_within e3) (by decide) mo_X11_within kM_X11_136 ks_X11_within (Nat.le_of_ble_eq_true rfl) ?_
  refine ev_if_ne 15 dX11_back_6 (by decide) (fun c4 => ?_) (fun c4 => ?_)
  · replace h := am_ifn c4 h
    refine ev_aload_n 0 dX11_back_15 rfl ?_
    refine ev_gf (v := .ref 25) dX11_back_16 (fun h9 => (h9.2.1 0 _ rfl).2) 1 (by decide) (by decide) kF_X11_18 (fun h9 => congrArg va_rf (h9.2.2 0 1 25 rfl)) ?_
    refine ev_iload_n 1 dX11_back_19 rfl ?_
    obtain ⟨c5, h⟩ := am_gd_elim h
    refine am_oc_elim h (fun p6 e7 h => ?_) (fun e7 h => ?_)
    · refine ev_aald (v := .ref p6) dX11_back_20 (fun h9 => (h9.2.1 25 _ rfl).2) (by decide) (by decide) (am_in_vp c5) (fun _ => congrArg va_rf e7) ?_
      refine ev_ifnonnull 31 dX11_back_21 (by decide) ?_
      refine ev_aload_n 0 dX11_back_31 rfl ?_
      refine ev_gf (v := .ref 1) dX11_back_32 (fun h9 => (h9.2.1 0 _ rfl).2) 0 (by decide) (by decide) kF_X11_14 (fun h9 => congrArg va_rf (h9.2.2 0 0 1 rfl)) ?_
      refine ev_aload_n 0 dX11_back_35 rfl ?_
      refine ev_gf (v := .ref 25) dX11_back_36 (fun h9 => (h9.2.1 0 _ rfl).2) 1 (by decide) (by decide) kF_X11_18 (fun h9 => congrArg va_rf (h9.2.2 0 1 25 rfl)) ?_
      refine ev_iload_n 1 dX11_back_39 rfl ?_
      obtain ⟨c8, h⟩ := am_gd_elim h
      refine am_oc_elim h (fun p9 e10 h => ?_) (fun e10 h => ?_)
      · refine ev_aald (v := .ref p9) dX11_back_40 (fun h9 => (h9.2.1 25 _ rfl).2) (by decide) (by decide) (am_in_vp c8) (fun _ => congrArg va_rf e10) ?_
        obtain ⟨u11, g12, e13, h⟩ := am_bd_elim h
        refine ev_callVv [.ref p9] [] dX11_back_41 (tX9_copyFrom e13) (by decide) mo_X9_copyFrom kM_X11_451 ki_X9_copyFrom kv_X9_copyFrom (fun h9 => (h9.2.1 1 _ rfl).2) (by decide) rfl (Nat.le_of_ble_eq_true rfl) ?_
        refine ev_aload_n 0 dX11_back_44 rfl ?_
        refine ev_gf (v := .ref 26) dX11_back_45 (fun h9 => (h9.2.1 0 _ rfl).2) 2 (by decide) (by decide) kF_X11_25 (fun h9 => congrArg va_rf (h9.2.2 0 2 26 rfl)) ?_
        obtain ⟨u14, g15, e16, h⟩ := am_bd_elim h
        refine ev_callVv [] [] dX11_back_48 (tX8_clear e16) (by decide) mo_X8_clear kM_X11_130 ki_X8_clear kv_X8_clear (fun h9 => (h9.2.1 26 _ rfl).2) (by decide) rfl (Nat.le_of_ble_eq_true rfl) ?_
        refine ev_aload_n 0 dX11_back_51 rfl ?_
        refine ev_iconst dX11_back_52 rfl ?_
        obtain ⟨v17, g18, e19, h⟩ := am_bd_elim h
        refine ev_callVi (v := v17) [.int (0 : Int32)] [] dX11_back_53 (tX11_accepted e19) (by decide) mo_X11_accepted kM_X11_133 ki_X11_accepted kv_X11_accepted (fun h9 => (h9.2.1 0 _ rfl).2) (by decide) rfl (Nat.le_of_ble_eq_true rfl) ?_
        cases h
        exact ev_iret dX11_back_56 rfl
      · refine ev_aald (v := .null) dX11_back_40 (fun h9 => (h9.2.1 25 _ rfl).2) (by decide) (by decide) (am_in_vp c8) (fun _ => congrArg va_rf e10) ?_
        cases h
    · refine ev_aald (v := .null) dX11_back_20 (fun h9 => (h9.2.1 25 _ rfl).2) (by decide) (by decide) (am_in_vp c5) (fun _ => congrArg va_rf e7) ?_
      refine ev_ifnonnullN dX11_back_21 ?_
      refine ev_aload_n 0 dX11_back_24 rfl ?_
      refine ev_bipush dX11_back_25 rfl ?_
      obtain ⟨v20, g21, e22, h⟩ := am_bd_elim h
      refine ev_callVi (v := v20) [.int (-2 : Int32)] [] dX11_back_27 (tX11_refused e22) (by decide) mo_X11_refused kM_X11_104 ki_X11_refused kv_X11_refused (fun h9 => (h9.2.1 0 _ rfl).2) (by decide) rfl (Nat.le_of_ble_eq_true rfl) ?_
      cases h
      exact ev_iret dX11_back_30 rfl
  · replace h := am_ifp c4 h
    refine ev_aload_n 0 dX11_back_9 rfl ?_
    refine ev_iconst dX11_back_10 rfl ?_
    obtain ⟨v23, g24, e25, h⟩ := am_bd_elim h
    refine ev_callVi (v := v23) [.int (-1 : Int32)] [] dX11_back_11 (tX11_refused e25) (by decide) mo_X11_refused kM_X11_104 ki_X11_refused kv_X11_refused (fun h9 => (h9.2.1 0 _ rfl).2) (by decide) rfl (Nat.le_of_ble_eq_true rfl) ?_
    cases h
    exact ev_iret dX11_back_14 rfl
theorem tX11_back {a1 : Int32} {g : am_G} {r : Int32 × am_G} (h : fX11_back a1 g = some r) : am_Mt zc MX11_back 2 [.ref 0, .int a1] g (am_ri r) := am_Mt.of rfl (Nat.le_of_ble_eq_true rfl) (eX11_back _ _ _ h)
def fX11_count (a1 : Int32) (g : am_G) : Option (Int32 × am_G) :=
  if a1 = (0 : Int32) then (
    some (am_I g 12 4, g))
  else
  if a1 = (1 : Int32) then (
    some (am_I g 1 14, g))
  else
  if a1 = (2 : Int32) then (
    some (am_I g 1 15, g))
  else
  if a1 = (3 : Int32) then (
    some (am_I g 1 16, g))
  else
  if a1 = (4 : Int32) then (
    some (am_I g 1 17, g))
  else
  if a1 = (5 : Int32) then (
    some (am_I g 26 3, g))
  else
  if a1 = (6 : Int32) then (
    some (am_I g 29 4, g))
  else
  if a1 = (7 : Int32) then (
    am_gd (am_in (1 : Int32) 7) <|
    some (am_I g 77 (1 : Int32).toNatClampNeg, g))
  else
  if a1 = (8 : Int32) then (
    am_gd (am_in (2 : Int32) 7) <|
    some (am_I g 77 (2 : Int32).toNatClampNeg, g))
  else
  if a1 = (9 : Int32) then (
    am_gd (am_in (3 : Int32) 7) <|
    some (am_I g 77 (3 : Int32).toNatClampNeg, g))
  else
  if a1 = (10 : Int32) then (
    am_gd (am_in (5 : Int32) 7) <|
    some (am_I g 77 (5 : Int32).toNatClampNeg, g))
  else
  if a1 = (11 : Int32) then (
    am_gd (am_in (6 : Int32) 7) <|
    some (am_I g 77 (6 : Int32).toNatClampNeg, g))
  else
  if a1 = (12 : Int32) then (
    some (am_I g 1 18, g))
  else
  if a1 = (13 : Int32) then (
    some (am_I g 2 6, g))
  else
  if a1 = (14 : Int32) then (
    some (am_I g 2 7, g))
  else
  if a1 = (15 : Int32) then (
    some (am_I g 2 5, g))
  else
  if a1 = (16 : Int32) then (
    some (am_I g 1 19, g))
  else (
    some ((-1 : Int32), g))
set_option maxRecDepth 100000 in
set_option maxHeartbeats 4000000 in
theorem eX11_count (a1 : Int32) (g : am_G) (r : Int32 × am_G) (h : fX11_count a1 g = some r) : am_Ev zc MX11_count 0 0 [(0, .ref 0), (1, .int a1)] [] g (am_ri r) := by
  unfold fX11_count at h
  refine ev_iload_n 1 dX11_count_0 rfl ?_
  by_cases c6 : a1 = (0 : Int32)
  · replace h := am_ifp c6 h
    refine ev_tableIn 84 dX11_count_1 (by rw [c6]; decide) (by rw [c6]; decide) (by rw [c6]; rfl) (by decide) ?_
    refine ev_aload_n 0 dX11_count_84 rfl ?_
    refine ev_gf (v := .ref 1) dX11_count_85 (fun h9 => (h9.2.1 0 _ rfl).2) 0 (by decide) (by decide) kF_X11_14 (fun h9 => congrArg va_rf (h9.2.2 0 0 1 rfl)) ?_
    refine ev_gf (v := .ref 12) dX11_count_88 (fun h9 => (h9.2.1 1 _ rfl).2) 5 (by decide) (by decide) kF_X11_150 (fun h9 => congrArg va_rf (h9.2.2 1 5 12 rfl)) ?_
    refine ev_gf (v := .int (am_I g 12 4)) dX11_count_91 (fun h9 => (h9.2.1 12 _ rfl).2) 4 (by decide) (by decide) kF_X11_427 (fun _ => rfl) ?_
    cases h
    exact ev_iret dX11_count_94 rfl
  replace h := am_ifn c6 h
  by_cases c7 : a1 = (1 : Int32)
  · replace h := am_ifp c7 h
    refine ev_tableIn 95 dX11_count_1 (by rw [c7]; decide) (by rw [c7]; decide) (by rw [c7]; rfl) (by decide) ?_
    refine ev_aload_n 0 dX11_count_95 rfl ?_
    refine ev_gf (v := .ref 1) dX11_count_96 (fun h9 => (h9.2.1 0 _ rfl).2) 0 (by decide) (by decide) kF_X11_14 (fun h9 => congrArg va_rf (h9.2.2 0 0 1 rfl)) ?_
    refine ev_gf (v := .int (am_I g 1 14)) dX11_count_99 (fun h9 => (h9.2.1 1 _ rfl).2) 14 (by decide) (by decide) kF_X11_348 (fun _ => rfl) ?_
    cases h
    exact ev_iret dX11_count_102 rfl
  replace h := am_ifn c7 h
  by_cases c8 : a1 = (2 : Int32)
  · replace h := am_ifp c8 h
    refine ev_tableIn 103 dX11_count_1 (by rw [c8]; decide) (by rw [c8]; decide) (by rw [c8]; rfl) (by decide) ?_
    refine ev_aload_n 0 dX11_count_103 rfl ?_
    refine ev_gf (v := .ref 1) dX11_count_104 (fun h9 => (h9.2.1 0 _ rfl).2) 0 (by decide) (by decide) kF_X11_14 (fun h9 => congrArg va_rf (h9.2.2 0 0 1 rfl)) ?_
    refine ev_gf (v := .int (am_I g 1 15)) dX11_count_107 (fun h9 => (h9.2.1 1 _ rfl).2) 15 (by decide) (by decide) kF_X11_369 (fun _ => rfl) ?_
    cases h
    exact ev_iret dX11_count_110 rfl
  replace h := am_ifn c8 h
  by_cases c9 : a1 = (3 : Int32)
  · replace h := am_ifp c9 h
    refine ev_tableIn 111 dX11_count_1 (by rw [c9]; decide) (by rw [c9]; decide) (by rw [c9]; rfl) (by decide) ?_
    refine ev_aload_n 0 dX11_count_111 rfl ?_
    refine ev_gf (v := .ref 1) dX11_count_112 (fun h9 => (h9.2.1 0 _ rfl).2) 0 (by decide) (by decide) kF_X11_14 (fun h9 => congrArg va_rf (h9.2.2 0 0 1 rfl)) ?_
    refine ev_gf (v := .int (am_I g 1 16)) dX11_count_115 (fun h9 => (h9.2.1 1 _ rfl).2) 16 (by decide) (by decide) kF_X11_412 (fun _ => rfl) ?_
    cases h
    exact ev_iret dX11_count_118 rfl
  replace h := am_ifn c9 h
  by_cases c10 : a1 = (4 : Int32)
  · replace h := am_ifp c10 h
    refine ev_tableIn 119 dX11_count_1 (by rw [c10]; decide) (by rw [c10]; decide) (by rw [c10]; rfl) (by decide) ?_
    refine ev_aload_n 0 dX11_count_119 rfl ?_
    refine ev_gf (v := .ref 1) dX11_count_120 (fun h9 => (h9.2.1 0 _ rfl).2) 0 (by decide) (by decide) kF_X11_14 (fun h9 => congrArg va_rf (h9.2.2 0 0 1 rfl)) ?_
    refine ev_gf (v := .int (am_I g 1 17)) dX11_count_123 (fun h9 => (h9.2.1 1 _ rfl).2) 17 (by decide) (by decide) kF_X11_199 (fun _ => rfl) ?_
    cases h
    exact ev_iret dX11_count_126 rfl
  replace h := am_ifn c10 h
  by_cases c11 : a1 = (5 : Int32)
  · replace h := am_ifp c11 h
    refine ev_tableIn 127 dX11_count_1 (by rw [c11]; decide) (by rw [c11]; decide) (by rw [c11]; rfl) (by decide) ?_
    refine ev_aload_n 0 dX11_count_127 rfl ?_
    refine ev_gf (v := .ref 26) dX11_count_128 (fun h9 => (h9.2.1 0 _ rfl).2) 2 (by decide) (by decide) kF_X11_25 (fun h9 => congrArg va_rf (h9.2.2 0 2 26 rfl)) ?_
    refine ev_gf (v := .int (am_I g 26 3)) dX11_count_131 (fun h9 => (h9.2.1 26 _ rfl).2) 3 (by decide) (by decide) kF_X11_331 (fun _ => rfl) ?_
    cases h
    exact ev_iret dX11_count_134 rfl
  replace h := am_ifn c11 h
  by_cases c12 : a1 = (6 : Int32)
  · replace h := am_ifp c12 h
    refine ev_tableIn 135 dX11_count_1 (by rw [c12]; decide) (by rw [c12]; decide) (by rw [c12]; rfl) (by decide) ?_
    refine ev_aload_n 0 dX11_count_135 rfl ?_
    refine ev_gf (v := .ref 29) dX11_count_136 (fun h9 => (h9.2.1 0 _ rfl).2) 3 (by decide) (by decide) kF_X11_32 (fun h9 => congrArg va_rf (h9.2.2 0 3 29 rfl)) ?_
    refine ev_gf (v := .int (am_I g 29 4)) dX11_count_139 (fun h9 => (h9.2.1 29 _ rfl).2) 4 (by decide) (by decide) kF_X11_183 (fun _ => rfl) ?_
    cases h
    exact ev_iret dX11_count_142 rfl
  replace h := am_ifn c12 h
  by_cases c13 : a1 = (7 : Int32)
  · replace h := am_ifp c13 h
    refine ev_tableIn 143 dX11_count_1 (by rw [c13]; decide) (by rw [c13]; decide) (by rw [c13]; rfl) (by decide) ?_
    refine ev_aload_n 0 dX11_count_143 rfl ?_
    refine ev_gf (v := .ref 77) dX11_count_144 (fun h9 => (h9.2.1 0 _ rfl).2) 11 (by decide) (by decide) kF_X11_85 (fun h9 => congrArg va_rf (h9.2.2 0 11 77 rfl)) ?_
    refine ev_iconst dX11_count_147 rfl ?_
    obtain ⟨c1, h⟩ := am_gd_elim h
    refine ev_iald dX11_count_148 (fun h9 => (h9.2.1 77 _ rfl).2) (am_in_vp c1) ?_
    cases h
    exact ev_iret dX11_count_149 rfl
  replace h := am_ifn c13 h
  by_cases c14 : a1 = (8 : Int32)
  · replace h := am_ifp c14 h
    refine ev_tableIn 150 dX11_count_1 (by rw [c14]; decide) (by rw [c14]; decide) (by rw [c14]; rfl) (by decide) ?_
    refine ev_aload_n 0 dX11_count_150 rfl ?_
    refine ev_gf (v := .ref 77) dX11_count_151 (fun h9 => (h9.2.1 0 _ rfl).2) 11 (by decide) (by decide) kF_X11_85 (fun h9 => congrArg va_rf (h9.2.2 0 11 77 rfl)) ?_
    refine ev_iconst dX11_count_154 rfl ?_
    obtain ⟨c2, h⟩ := am_gd_elim h
    refine ev_iald dX11_count_155 (fun h9 => (h9.2.1 77 _ rfl).2) (am_in_vp c2) ?_
    cases h
    exact ev_iret dX11_count_156 rfl
  replace h := am_ifn c14 h
  by_cases c15 : a1 = (9 : Int32)
  · replace h := am_ifp c15 h
    refine ev_tableIn 157 dX11_count_1 (by rw [c15]; decide) (by rw [c15]; decide) (by rw [c15]; rfl) (by decide) ?_
    refine ev_aload_n 0 dX11_count_157 rfl ?_
    refine ev_gf (v := .ref 77) dX11_count_158 (fun h9 => (h9.2.1 0 _ rfl).2) 11 (by decide) (by decide) kF_X11_85 (fun h9 => congrArg va_rf (h9.2.2 0 11 77 rfl)) ?_
    refine ev_iconst dX11_count_161 rfl ?_
    obtain ⟨c3, h⟩ := am_gd_elim h
    refine ev_iald dX11_count_162 (fun h9 => (h9.2.1 77 _ rfl).2) (am_in_vp c3) ?_
    cases h
    exact ev_iret dX11_count_163 rfl
  replace h := am_ifn c15 h
  by_cases c16 : a1 = (10 : Int32)
  · replace h := am_ifp c16 h
    refine ev_tableIn 164 dX11_count_1 (by rw [c16]; decide) (by rw [c16]; decide) (by rw [c16]; rfl) (by decide) ?_
    refine ev_aload_n 0 dX11_count_164 rfl ?_
    refine ev_gf (v := .ref 77) dX11_count_165 (fun h9 => (h9.2.1 0 _ rfl).2) 11 (by decide) (by decide) kF_X11_85 (fun h9 => congrArg va_rf (h9.2.2 0 11 77 rfl)) ?_
    refine ev_iconst dX11_count_168 rfl ?_
    obtain ⟨c4, h⟩ := am_gd_elim h
    refine ev_iald dX11_count_169 (fun h9 => (h9.2.1 77 _ rfl).2) (am_in_vp c4) ?_
    cases h
    exact ev_iret dX11_count_170 rfl
  replace h := am_ifn c16 h
  by_cases c17 : a1 = (11 : Int32)
  · replace h := am_ifp c17 h
    refine ev_tableIn 171 dX11_count_1 (by rw [c17]; decide) (by rw [c17]; decide) (by rw [c17]; rfl) (by decide) ?_
    refine ev_aload_n 0 dX11_count_171 rfl ?_
    refine ev_gf (v := .ref 77) dX11_count_172 (fun h9 => (h9.2.1 0 _ rfl).2) 11 (by decide) (by decide) kF_X11_85 (fun h9 => congrArg va_rf (h9.2.2 0 11 77 rfl)) ?_
    refine ev_bipush dX11_count_175 rfl ?_
    obtain ⟨c5, h⟩ := am_gd_elim h
    refine ev_iald dX11_count_177 (fun h9 => (h9.2.1 77 _ rfl).2) (am_in_vp c5) ?_
    cases h
    exact ev_iret dX11_count_178 rfl
  replace h := am_ifn c17 h
  by_cases c18 : a1 = (12 : Int32)
  · replace h := am_ifp c18 h
    refine ev_tableIn 179 dX11_count_1 (by rw [c18]; decide) (by rw [c18]; decide) (by rw [c18]; rfl) (by decide) ?_
    refine ev_aload_n 0 dX11_count_179 rfl ?_
    refine ev_gf (v := .ref 1) dX11_count_180 (fun h9 => (h9.2.1 0 _ rfl).2) 0 (by decide) (by decide) kF_X11_14 (fun h9 => congrArg va_rf (h9.2.2 0 0 1 rfl)) ?_
    refine ev_gf (v := .int (am_I g 1 18)) dX11_count_183 (fun h9 => (h9.2.1 1 _ rfl).2) 18 (by decide) (by decide) kF_X11_291 (fun _ => rfl) ?_
    cases h
    exact ev_iret dX11_count_186 rfl
  replace h := am_ifn c18 h
  by_cases c19 : a1 = (13 : Int32)
  · replace h := am_ifp c19 h
    refine ev_tableIn 187 dX11_count_1 (by rw [c19]; decide) (by rw [c19]; decide) (by rw [c19]; rfl) (by decide) ?_
    refine ev_aload_n 0 dX11_count_187 rfl ?_
    refine ev_gf (v := .ref 1) dX11_count_188 (fun h9 => (h9.2.1 0 _ rfl).2) 0 (by decide) (by decide) kF_X11_14 (fun h9 => congrArg va_rf (h9.2.2 0 0 1 rfl)) ?_
    refine ev_gf (v := .ref 2) dX11_count_191 (fun h9 => (h9.2.1 1 _ rfl).2) 0 (by decide) (by decide) kF_X11_112 (fun h9 => congrArg va_rf (h9.2.2 1 0 2 rfl)) ?_
    refine ev_gf (v := .int (am_I g 2 6)) dX11_count_194 (fun h9 => (h9.2.1 2 _ rfl).2) 6 (by decide) (by decide) kF_X11_234 (fun _ => rfl) ?_
    cases h
    exact ev_iret dX11_count_197 rfl
  replace h := am_ifn c19 h
  by_cases c20 : a1 = (14 : Int32)
  · replace h := am_ifp c20 h
    refine ev_tableIn 198 dX11_count_1 (by rw [c20]; decide) (by rw [c20]; decide) (by rw [c20]; rfl) (by decide) ?_
    refine ev_aload_n 0 dX11_count_198 rfl ?_
    refine ev_gf (v := .ref 1) dX11_count_199 (fun h9 => (h9.2.1 0 _ rfl).2) 0 (by decide) (by decide) kF_X11_14 (fun h9 => congrArg va_rf (h9.2.2 0 0 1 rfl)) ?_
    refine ev_gf (v := .ref 2) dX11_count_202 (fun h9 => (h9.2.1 1 _ rfl).2) 0 (by decide) (by decide) kF_X11_112 (fun h9 => congrArg va_rf (h9.2.2 1 0 2 rfl)) ?_
    refine ev_gf (v := .int (am_I g 2 7)) dX11_count_205 (fun h9 => (h9.2.1 2 _ rfl).2) 7 (by decide) (by decide) kF_X11_453 (fun _ => rfl) ?_
    cases h
    exact ev_iret dX11_count_208 rfl
  replace h := am_ifn c20 h
  by_cases c21 : a1 = (15 : Int32)
  · replace h := am_ifp c21 h
    refine ev_tableIn 209 dX11_count_1 (by rw [c21]; decide) (by rw [c21]; decide) (by rw [c21]; rfl) (by decide) ?_
    refine ev_aload_n 0 dX11_count_209 rfl ?_
    refine ev_gf (v := .ref 1) dX11_count_210 (fun h9 => (h9.2.1 0 _ rfl).2) 0 (by decide) (by decide) kF_X11_14 (fun h9 => congrArg va_rf (h9.2.2 0 0 1 rfl)) ?_
    refine ev_gf (v := .ref 2) dX11_count_213 (fun h9 => (h9.2.1 1 _ rfl).2) 0 (by decide) (by decide) kF_X11_112 (fun h9 => congrArg va_rf (h9.2.2 1 0 2 rfl)) ?_
    refine ev_gf (v := .int (am_I g 2 5)) dX11_count_216 (fun h9 => (h9.2.1 2 _ rfl).2) 5 (by decide) (by decide) kF_X11_177 (fun _ => rfl) ?_
    cases h
    exact ev_iret dX11_count_219 rfl
  replace h := am_ifn c21 h
  by_cases c22 : a1 = (16 : Int32)
  · replace h := am_ifp c22 h
    refine ev_tableIn 220 dX11_count_1 (by rw [c22]; decide) (by rw [c22]; decide) (by rw [c22]; rfl) (by decide) ?_
    refine ev_aload_n 0 dX11_count_220 rfl ?_
    refine ev_gf (v := .ref 1) dX11_count_221 (fun h9 => (h9.2.1 0 _ rfl).2) 0 (by decide) (by decide) kF_X11_14 (fun h9 => congrArg va_rf (h9.2.2 0 0 1 rfl)) ?_
    refine ev_gf (v := .int (am_I g 1 19)) dX11_count_224 (fun h9 => (h9.2.1 1 _ rfl).2) 19 (by decide) (by decide) kF_X11_180 (fun _ => rfl) ?_
    cases h
    exact ev_iret dX11_count_227 rfl
  replace h := am_ifn c22 h
  refine ev_tableOut 228 dX11_count_1 (by have z0 := am_ti c6 (k := 0) (by decide); have z1 := am_ti c7 (k := 1) (by decide); have z2 := am_ti c8 (k := 2) (by decide); have z3 := am_ti c9 (k := 3) (by decide); have z4 := am_ti c10 (k := 4) (by decide); have z5 := am_ti c11 (k := 5) (by decide); have z6 := am_ti c12 (k := 6) (by decide); have z7 := am_ti c13 (k := 7) (by decide); have z8 := am_ti c14 (k := 8) (by decide); have z9 := am_ti c15 (k := 9) (by decide); have z10 := am_ti c16 (k := 10) (by decide); have z11 := am_ti c17 (k := 11) (by decide); have z12 := am_ti c18 (k := 12) (by decide); have z13 := am_ti c19 (k := 13) (by decide); have z14 := am_ti c20 (k := 14) (by decide); have z15 := am_ti c21 (k := 15) (by decide); have z16 := am_ti c22 (k := 16) (by decide); omega) (by decide) ?_
  refine ev_iconst dX11_count_228 rfl ?_
  cases h
  exact ev_iret dX11_count_229 rfl
theorem tX11_count {a1 : Int32} {g : am_G} {r : Int32 × am_G} (h : fX11_count a1 g = some r) : am_Mt zc MX11_count 0 [.ref 0, .int a1] g (am_ri r) := am_Mt.of rfl (Nat.le_of_ble_eq_true rfl) (eX11_count _ _ _ h)
def fX11_status (g : am_G) : Option (Int32 × am_G) :=
  some (am_I g 0 16, g)
set_option maxRecDepth 100000 in
set_option maxHeartbeats 4000000 in
theorem eX11_status (g : am_G) (r : Int32 × am_G) (h : fX11_status g = some r) : am_Ev zc MX11_status 0 0 [(0, .ref 0)] [] g (am_ri r) := by
  unfold fX11_status at h
  refine ev_aload_n 0 dX11_status_0 rfl ?_
  refine ev_gf (v := .int (am_I g 0 16)) dX11_status_1 (fun h9 => (h9.2.1 0 _ rfl).2) 16 (by decide) (by decide) kF_X11_456 (fun _ => rfl) ?_
  cases h
  exact ev_iret dX11_status_4 rfl
theorem tX11_status {g : am_G} {r : Int32 × am_G} (h : fX11_status g = some r) : am_Mt zc MX11_status 0 [.ref 0] g (am_ri r) := am_Mt.of rfl (Nat.le_of_ble_eq_true rfl) (eX11_status _ _ h)
def fkX12_slopeAt (fx : Nat) (a0 : Int32) (a1 : Int32) (g : am_G) : Option (Int32 × am_G) :=
  some (((10 : Int32) + ((10 : Int32) * a0)) + a1, g)
set_option maxRecDepth 100000 in
set_option maxHeartbeats 4000000 in
theorem ekX12_slopeAt {Z : am_Z} {fx : Nat} (hF : ∀ g : am_G, am_ok Z g → ∀ k, Z.2 (am_n g) k = none) (hZ : ∀ a k, fx ≤ a → Z.2 a k = none) (a0 : Int32) (a1 : Int32) (g : am_G) (r : Int32 × am_G) (h : fkX12_slopeAt fx a0 a1 g = some r) : am_Ev Z MX12_slopeAt 0 0 [(0, .int a0), (1, .int a1)] [] g (am_ri r) := by
  unfold fkX12_slopeAt at h
  refine ev_bipush dX12_slopeAt_0 rfl ?_
  refine ev_bipush dX12_slopeAt_2 rfl ?_
  refine ev_iload_n 0 dX12_slopeAt_4 rfl ?_
  refine ev_imul dX12_slopeAt_5 ?_
  refine ev_iadd dX12_slopeAt_6 ?_
  refine ev_iload_n 1 dX12_slopeAt_7 rfl ?_
  refine ev_iadd dX12_slopeAt_8 ?_
  cases h
  exact ev_iret dX12_slopeAt_9 rfl
theorem tkX12_slopeAt {Z : am_Z} {fx : Nat} (hF : ∀ g : am_G, am_ok Z g → ∀ k, Z.2 (am_n g) k = none) (hZ : ∀ a k, fx ≤ a → Z.2 a k = none) {a0 : Int32} {a1 : Int32} {g : am_G} {r : Int32 × am_G} (h : fkX12_slopeAt fx a0 a1 g = some r) : am_Mt Z MX12_slopeAt 0 [.int a0, .int a1] g (am_ri r) := am_Mt.of rfl (Nat.le_of_ble_eq_true rfl) (ekX12_slopeAt hF hZ _ _ _ _ h)
def fX12_init_L464 (fx : Nat) (k : am_G → Option (Unit × am_G)) (a0 : Nat) (x244 : Int32) : Nat → Int32 → am_G → Option (Unit × am_G)
  | 0, _, _ => none
  | n + 1, x265, g266 =>
    if (4 : Int32) ≤ x265 then (
      k g266)
    else (
      am_gd (decide (am_S g266 a0 = (12, 64))) <|
      am_oc (am_P g266 a0 3) (fun p270 =>
      am_bd (fkX12_slopeAt fx x244 ((4 : Int32) + x265) g266) fun v272 g273 =>
      am_gd (decide ((am_S g273 p270).1 = 20)) <|
      am_gd (am_in v272 ((am_S g273 p270).2)) <|
      am_let (am_si g273 p270 v272.toNatClampNeg (1 : Int32)) fun g277 =>
      am_let (x265 + (1 : Int32)) fun x278 =>
      fX12_init_L464 fx k a0 x244 n x278 g277) none)
def fX12_init_L432 (fx : Nat) (a0 : Nat) : Nat → Int32 → am_G → Option (Unit × am_G)
  | 0, _, _ => none
  | n + 1, x244, g245 =>
    if (6 : Int32) ≤ x244 then (
      some ((), g245))
    else (
      am_gd (decide (am_S g245 a0 = (12, 64))) <|
      am_oc (am_P g245 a0 3) (fun p248 =>
      am_bd (fkX12_slopeAt fx x244 (1 : Int32) g245) fun v250 g251 =>
      am_gd (decide ((am_S g251 p248).1 = 20)) <|
      am_gd (am_in v250 ((am_S g251 p248).2)) <|
      am_let (am_si g251 p248 v250.toNatClampNeg (500 : Int32)) fun g255 =>
      am_gd (decide (am_S g255 a0 = (12, 64))) <|
      am_oc (am_P g255 a0 3) (fun p257 =>
      am_bd (fkX12_slopeAt fx x244 (2 : Int32) g255) fun v259 g260 =>
      am_gd (decide ((am_S g260 p257).1 = 20)) <|
      am_gd (am_in v259 ((am_S g260 p257).2)) <|
      am_let (am_si g260 p257 v259.toNatClampNeg (-1 : Int32)) fun g264 =>
      fX12_init_L464 fx (fun  (g279 : am_G) =>
        am_let (x244 + (1 : Int32)) fun x280 =>
        fX12_init_L432 fx a0 n x280 g279) a0 x244 am_fu (0 : Int32) g264) none) none)
def fX12_init (fx : Nat) (a0 : Nat) (g : am_G) : Option (Unit × am_G) :=
  am_let (am_n g) fun p1 =>
  am_let (am_new g 20 7) fun g2 =>
  am_gd (decide (am_S g2 a0 = (12, 64))) <|
  am_gd (decide (fx ≤ a0)) <|
  am_let (am_sp g2 a0 2 (some p1)) fun g4 =>
  am_let (am_n g4) fun p6 =>
  am_let (am_new g4 20 5660) fun g7 =>
  am_gd (decide (am_S g7 a0 = (12, 64))) <|
  am_gd (decide (fx ≤ a0)) <|
  am_let (am_sp g7 a0 3 (some p6)) fun g9 =>
  am_let (am_n g9) fun p11 =>
  am_let (am_new g9 20 11320) fun g12 =>
  am_gd (decide (am_S g12 a0 = (12, 64))) <|
  am_gd (decide (fx ≤ a0)) <|
  am_let (am_sp g12 a0 4 (some p11)) fun g14 =>
  am_let (am_n g14) fun p16 =>
  am_let (am_new g14 22 2) fun g17 =>
  am_gd (decide (am_S g17 a0 = (12, 64))) <|
  am_gd (decide (fx ≤ a0)) <|
  am_let (am_sp g17 a0 5 (some p16)) fun g19 =>
  am_let (am_n g19) fun p21 =>
  am_let (am_new g19 20 2856) fun g22 =>
  am_gd (decide (am_S g22 a0 = (12, 64))) <|
  am_gd (decide (fx ≤ a0)) <|
  am_let (am_sp g22 a0 6 (some p21)) fun g24 =>
  am_let (am_n g24) fun p26 =>
  am_let (am_new g24 20 16) fun g27 =>
  am_gd (decide (am_S g27 a0 = (12, 64))) <|
  am_gd (decide (fx ≤ a0)) <|
  am_let (am_sp g27 a0 7 (some p26)) fun g29 =>
  am_let (am_n g29) fun p31 =>
  am_let (am_new g29 20 2176) fun g32 =>
  am_gd (decide (am_S g32 a0 = (12, 64))) <|
  am_gd (decide (fx ≤ a0)) <|
  am_let (am_sp g32 a0 9 (some p31)) fun g34 =>
  am_let (am_n g34) fun p36 =>
  am_let (am_new g34 20 16) fun g37 =>
  am_gd (decide (am_S g37 a0 = (12, 64))) <|
  am_gd (decide (fx ≤ a0)) <|
  am_let (am_sp g37 a0 10 (some p36)) fun g39 =>
  am_let (am_n g39) fun p41 =>
  am_let (am_new g39 20 400) fun g42 =>
  am_gd (decide (am_S g42 a0 = (12, 64))) <|
  am_gd (decide (fx ≤ a0)) <|
  am_let (am_sp g42 a0 12 (some p41)) fun g44 =>
  am_gd (decide (am_S g44 a0 = (12, 64))) <|
  am_let (am_si g44 a0 18 (-1 : Int32)) fun g47 =>
  am_let (am_n g47) fun p48 =>
  am_let (am_new g47 20 96) fun g49 =>
  am_gd (decide (am_S g49 a0 = (12, 64))) <|
  am_gd (decide (fx ≤ a0)) <|
  am_let (am_sp g49 a0 22 (some p48)) fun g51 =>
  am_let (am_n g51) fun p53 =>
  am_let (am_new g51 20 400) fun g54 =>
  am_gd (decide (am_S g54 a0 = (12, 64))) <|
  am_gd (decide (fx ≤ a0)) <|
  am_let (am_sp g54 a0 24 (some p53)) fun g56 =>
  am_let (am_n g56) fun p58 =>
  am_let (am_new g56 20 400) fun g59 =>
  am_gd (decide (am_S g59 a0 = (12, 64))) <|
  am_gd (decide (fx ≤ a0)) <|
  am_let (am_sp g59 a0 25 (some p58)) fun g61 =>
  am_let (am_n g61) fun p63 =>
  am_let (am_new g61 20 400) fun g64 =>
  am_gd (decide (am_S g64 a0 = (12, 64))) <|
  am_gd (decide (fx ≤ a0)) <|
  am_let (am_sp g64 a0 27 (some p63)) fun g66 =>
  am_let (am_n g66) fun p68 =>
  am_let (am_new g66 20 400) fun g69 =>
  am_gd (decide (am_S g69 a0 = (12, 64))) <|
  am_gd (decide (fx ≤ a0)) <|
  am_let (am_sp g69 a0 28 (some p68)) fun g71 =>
  am_let (am_n g71) fun p73 =>
  am_let (am_new g71 23 10) fun g74 =>
  am_gd (decide ((am_S g74 p73).1 = 23)) <|
  am_gd (am_in (0 : Int32) ((am_S g74 p73).2)) <|
  am_let (am_sl g74 p73 (0 : Int32).toNatClampNeg (769604 : Int64)) fun g77 =>
  am_gd (decide ((am_S g77 p73).1 = 23)) <|
  am_gd (am_in (1 : Int32) ((am_S g77 p73).2)) <|
  am_let (am_sl g77 p73 (1 : Int32).toNatClampNeg (409031 : Int64)) fun g80 =>
  am_gd (decide ((am_S g80 p73).1 = 23)) <|
  am_gd (am_in (2 : Int32) ((am_S g80 p73).2)) <|
  am_let (am_sl g80 p73 (2 : Int32).toNatClampNeg (18 : Int64)) fun g83 =>
  am_gd (decide ((am_S g83 p73).1 = 23)) <|
  am_gd (am_in (3 : Int32) ((am_S g83 p73).2)) <|
  am_let (am_sl g83 p73 (3 : Int32).toNatClampNeg (409252 : Int64)) fun g86 =>
  am_gd (decide ((am_S g86 p73).1 = 23)) <|
  am_gd (am_in (4 : Int32) ((am_S g86 p73).2)) <|
  am_let (am_sl g86 p73 (4 : Int32).toNatClampNeg (17171557 : Int64)) fun g89 =>
  am_gd (decide ((am_S g89 p73).1 = 23)) <|
  am_gd (am_in (5 : Int32) ((am_S g89 p73).2)) <|
  am_let (am_sl g89 p73 (5 : Int32).toNatClampNeg (6194 : Int64)) fun g92 =>
  am_gd (decide ((am_S g92 p73).1 = 23)) <|
  am_gd (am_in (6 : Int32) ((am_S g92 p73).2)) <|
  am_let (am_sl g92 p73 (6 : Int32).toNatClampNeg (20332037 : Int64)) fun g95 =>
  am_gd (decide ((am_S g95 p73).1 = 23)) <|
  am_gd (am_in (7 : Int32) ((am_S g95 p73).2)) <|
  am_let (am_sl g95 p73 (7 : Int32).toNatClampNeg (637431 : Int64)) fun g98 =>
  am_gd (decide ((am_S g98 p73).1 = 23)) <|
  am_gd (am_in (8 : Int32) ((am_S g98 p73).2)) <|
  am_let (am_sl g98 p73 (8 : Int32).toNatClampNeg (4153 : Int64)) fun g101 =>
  am_gd (decide ((am_S g101 p73).1 = 23)) <|
  am_gd (am_in (9 : Int32) ((am_S g101 p73).2)) <|
  am_let (am_sl g101 p73 (9 : Int32).toNatClampNeg (441828 : Int64)) fun g104 =>
  am_gd (decide (am_S g104 a0 = (12, 64))) <|
  am_gd (decide (fx ≤ a0)) <|
  am_let (am_sp g104 a0 31 (some p73)) fun g106 =>
  am_let (am_n g106) fun p108 =>
  am_let (am_new g106 23 7) fun g109 =>
  am_gd (decide ((am_S g109 p108).1 = 23)) <|
  am_gd (am_in (0 : Int32) ((am_S g109 p108).2)) <|
  am_let (am_sl g109 p108 (0 : Int32).toNatClampNeg (4153 : Int64)) fun g112 =>
  am_gd (decide ((am_S g112 p108).1 = 23)) <|
  am_gd (am_in (1 : Int32) ((am_S g112 p108).2)) <|
  am_let (am_sl g112 p108 (1 : Int32).toNatClampNeg (24627347 : Int64)) fun g115 =>
  am_gd (decide ((am_S g115 p108).1 = 23)) <|
  am_gd (am_in (2 : Int32) ((am_S g115 p108).2)) <|
  am_let (am_sl g115 p108 (2 : Int32).toNatClampNeg (146885 : Int64)) fun g118 =>
  am_gd (decide ((am_S g118 p108).1 = 23)) <|
  am_gd (am_in (3 : Int32) ((am_S g118 p108).2)) <|
  am_let (am_sl g118 p108 (3 : Int32).toNatClampNeg (635172 : Int64)) fun g121 =>
  am_gd (decide ((am_S g121 p108).1 = 23)) <|
  am_gd (am_in (4 : Int32) ((am_S g121 p108).2)) <|
  am_let (am_sl g121 p108 (4 : Int32).toNatClampNeg (263757 : Int64)) fun g124 =>
  am_gd (decide ((am_S g124 p108).1 = 23)) <|
  am_gd (am_in (5 : Int32) ((am_S g124 p108).2)) <|
  am_let (am_sl g124 p108 (5 : Int32).toNatClampNeg (637431 : Int64)) fun g127 =>
  am_gd (decide ((am_S g127 p108).1 = 23)) <|
  am_gd (am_in (6 : Int32) ((am_S g127 p108).2)) <|
  am_let (am_sl g127 p108 (6 : Int32).toNatClampNeg (659096878 : Int64)) fun g130 =>
  am_gd (decide (am_S g130 a0 = (12, 64))) <|
  am_gd (decide (fx ≤ a0)) <|
  am_let (am_sp g130 a0 32 (some p108)) fun g132 =>
  am_let (am_n g132) fun p134 =>
  am_let (am_new g132 23 4) fun g135 =>
  am_gd (decide ((am_S g135 p134).1 = 23)) <|
  am_gd (am_in (0 : Int32) ((am_S g135 p134).2)) <|
  am_let (am_sl g135 p134 (0 : Int32).toNatClampNeg (645967027 : Int64)) fun g138 =>
  am_gd (decide ((am_S g138 p134).1 = 23)) <|
  am_gd (am_in (1 : Int32) ((am_S g138 p134).2)) <|
  am_let (am_sl g138 p134 (1 : Int32).toNatClampNeg (6336915 : Int64)) fun g141 =>
  am_gd (decide ((am_S g141 p134).1 = 23)) <|
  am_gd (am_in (2 : Int32) ((am_S g141 p134).2)) <|
  am_let (am_sl g141 p134 (2 : Int32).toNatClampNeg (21235443 : Int64)) fun g144 =>
  am_gd (decide ((am_S g144 p134).1 = 23)) <|
  am_gd (am_in (3 : Int32) ((am_S g144 p134).2)) <|
  am_let (am_sl g144 p134 (3 : Int32).toNatClampNeg (67155 : Int64)) fun g147 =>
  am_gd (decide (am_S g147 a0 = (12, 64))) <|
  am_gd (decide (fx ≤ a0)) <|
  am_let (am_sp g147 a0 33 (some p134)) fun g149 =>
  am_let (am_n g149) fun p151 =>
  am_let (am_new g149 23 13) fun g152 =>
  am_gd (decide (am_S g152 a0 = (12, 64))) <|
  am_gd (decide (fx ≤ a0)) <|
  am_let (am_sp g152 a0 35 (some p151)) fun g154 =>
  am_let (am_n g154) fun p156 =>
  am_let (am_new g154 23 13) fun g157 =>
  am_gd (decide (am_S g157 a0 = (12, 64))) <|
  am_gd (decide (fx ≤ a0)) <|
  am_let (am_sp g157 a0 36 (some p156)) fun g159 =>
  am_let (am_n g159) fun p161 =>
  am_let (am_new g159 23 400) fun g162 =>
  am_gd (decide (am_S g162 a0 = (12, 64))) <|
  am_gd (decide (fx ≤ a0)) <|
  am_let (am_sp g162 a0 37 (some p161)) fun g164 =>
  am_let (am_n g164) fun p166 =>
  am_let (am_new g164 20 6) fun g167 =>
  am_gd (decide (am_S g167 a0 = (12, 64))) <|
  am_gd (decide (fx ≤ a0)) <|
  am_let (am_sp g167 a0 41 (some p166)) fun g169 =>
  am_let (am_n g169) fun p171 =>
  am_let (am_new g169 20 6) fun g172 =>
  am_gd (decide (am_S g172 a0 = (12, 64))) <|
  am_gd (decide (fx ≤ a0)) <|
  am_let (am_sp g172 a0 42 (some p171)) fun g174 =>
  am_let (am_n g174) fun p176 =>
  am_let (am_new g174 20 96) fun g177 =>
  am_gd (decide (am_S g177 a0 = (12, 64))) <|
  am_gd (decide (fx ≤ a0)) <|
  am_let (am_sp g177 a0 43 (some p176)) fun g179 =>
  am_let (am_n g179) fun p181 =>
  am_let (am_new g179 22 16) fun g182 =>
  am_gd (decide (am_S g182 a0 = (12, 64))) <|
  am_gd (decide (fx ≤ a0)) <|
  am_let (am_sp g182 a0 44 (some p181)) fun g184 =>
  am_let (am_n g184) fun p186 =>
  am_let (am_new g184 20 5) fun g187 =>
  am_gd (decide (am_S g187 a0 = (12, 64))) <|
  am_gd (decide (fx ≤ a0)) <|
  am_let (am_sp g187 a0 45 (some p186)) fun g189 =>
  am_let (am_n g189) fun p191 =>
  am_let (am_new g189 20 5) fun g192 =>
  am_gd (decide (am_S g192 a0 = (12, 64))) <|
  am_gd (decide (fx ≤ a0)) <|
  am_let (am_sp g192 a0 46 (some p191)) fun g194 =>
  am_let (am_n g194) fun p196 =>
  am_let (am_new g194 20 6) fun g197 =>
  am_gd (decide (am_S g197 a0 = (12, 64))) <|
  am_gd (decide (fx ≤ a0)) <|
  am_let (am_sp g197 a0 49 (some p196)) fun g199 =>
  am_let (am_n g199) fun p201 =>
  am_let (am_new g199 20 6) fun g202 =>
  am_gd (decide (am_S g202 a0 = (12, 64))) <|
  am_gd (decide (fx ≤ a0)) <|
  am_let (am_sp g202 a0 50 (some p201)) fun g204 =>
  am_let (am_n g204) fun p206 =>
  am_let (am_new g204 20 3) fun g207 =>
  am_gd (decide (am_S g207 a0 = (12, 64))) <|
  am_gd (decide (fx ≤ a0)) <|
  am_let (am_sp g207 a0 51 (some p206)) fun g209 =>
  am_let (am_n g209) fun p211 =>
  am_let (am_new g209 22 10000) fun g212 =>
  am_gd (decide (am_S g212 a0 = (12, 64))) <|
  am_gd (decide (fx ≤ a0)) <|
  am_let (am_sp g212 a0 52 (some p211)) fun g214 =>
  am_let (am_n g214) fun p216 =>
  am_let (am_new g214 20 16) fun g217 =>
  am_gd (decide (am_S g217 a0 = (12, 64))) <|
  am_gd (decide (fx ≤ a0)) <|
  am_let (am_sp g217 a0 53 (some p216)) fun g219 =>
  am_let (am_n g219) fun p221 =>
  am_let (am_new g219 20 16) fun g222 =>
  am_gd (decide (am_S g222 a0 = (12, 64))) <|
  am_gd (decide (fx ≤ a0)) <|
  am_let (am_sp g222 a0 54 (some p221)) fun g224 =>
  am_let (am_n g224) fun p226 =>
  am_let (am_new g224 20 120) fun g227 =>
  am_gd (decide (am_S g227 a0 = (12, 64))) <|
  am_gd (decide (fx ≤ a0)) <|
  am_let (am_sp g227 a0 55 (some p226)) fun g229 =>
  am_gd (decide (am_S g229 a0 = (12, 64))) <|
  am_let (am_si g229 a0 59 (-1 : Int32)) fun g232 =>
  am_let (am_n g232) fun p233 =>
  am_let (am_new g232 20 12) fun g234 =>
  am_gd (decide (am_S g234 a0 = (12, 64))) <|
  am_gd (decide (fx ≤ a0)) <|
  am_let (am_sp g234 a0 62 (some p233)) fun g236 =>
  am_gd (decide (am_S g236 a0 = (12, 64))) <|
  am_oc (am_P g236 a0 3) (fun p239 =>
  am_gd (decide ((am_S g236 p239).1 = 20)) <|
  am_gd (am_in (5 : Int32) ((am_S g236 p239).2)) <|
  am_let (am_si g236 p239 (5 : Int32).toNatClampNeg (-1 : Int32)) fun g243 =>
  fX12_init_L432 fx a0 am_fu (0 : Int32) g243) none
set_option maxRecDepth 100000 in
set_option maxHeartbeats 4000000 in
theorem tfX12_init_L464 {Z : am_Z} {fx : Nat} (hF : ∀ g : am_G, am_ok Z g → ∀ k, Z.2 (am_n g) k = none) (hZ : ∀ a k, fx ≤ a → Z.2 a k = none)  {k : am_G → Option (Unit × am_G)} (a0 : Nat) (x244 : Int32) (hk : ∀  (g267 : am_G) (r : Unit × am_G), k  g267 = some r → am_Ev Z MX12_init 1 488 [(0, .ref a0), (1, .int x244)] [] g267 (am_rv r)) : ∀ (n : Nat) (x265 : Int32) (g266 : am_G) (r : Unit × am_G), fX12_init_L464 fx k a0 x244 n x265 g266 = some r → am_Ev Z MX12_init 1 464 [(0, .ref a0), (1, .int x244), (2, .int x265)] [] g266 (am_rv r) := by
  intro n
  induction n with
  | zero => intro x265 g266 r h; exact nomatch (show (none : Option (Unit × am_G)) = some r from h)
  | succ n ih =>
    intro x265 g266 r h
    rw [fX12_init_L464] at h
    refine ev_iload_n 2 dX12_init_464 rfl ?_
    refine ev_iconst dX12_init_465 rfl ?_
    refine ev_icmp_ge 488 dX12_init_466 (by decide) (fun c268 => ?_) (fun c268 => ?_)
    · replace h := am_ifp c268 h
      refine ev_sub [0, 1] rfl ?_
      exact hk  _ _ h
    · replace h := am_ifn c268 h
      refine ev_aload_n 0 dX12_init_469 rfl ?_
      obtain ⟨c269, h⟩ := am_gd_elim h
      refine am_oc_elim h (fun p270 e271 h => ?_) (fun _ h => nomatch h)
      refine ev_gf (v := .ref p270) dX12_init_470 (fun _ => am_sh c269) 3 (by decide) (by decide) kF_X12_13 (fun _ => congrArg va_rf e271) ?_
      refine ev_iload_n 1 dX12_init_473 rfl ?_
      refine ev_iconst dX12_init_474 rfl ?_
      refine ev_iload_n 2 dX12_init_475 rfl ?_
      refine ev_iadd dX12_init_476 ?_
      obtain ⟨v272, g273, e274, h⟩ := am_bd_elim h
      refine ev_callSi (v := v272) [.int x244, .int ((4 : Int32) + x265)] [.ref p270] dX12_init_477 (tkX12_slopeAt hF hZ e274) (by decide) mo_X12_slopeAt kM_X12_159 ks_X12_slopeAt (Nat.le_of_ble_eq_true rfl) ?_
      refine ev_iconst dX12_init_480 rfl ?_
      obtain ⟨c275, h⟩ := am_gd_elim h
      obtain ⟨c276, h⟩ := am_gd_elim h
      refine ev_iast dX12_init_481 (fun _ => am_shk c275) (am_in_vp c276) ?_
      refine am_let_elim (P := fun g277 => am_Ev Z MX12_init 1 482 [(0, .ref a0), (1, .int x244), (2, .int x265)] [] g277 (am_rv r)) h fun g277 h => ?_
      obtain ⟨x278, ex278, h⟩ := am_let_ex h
      refine ev_iinc (ls' := [(2, .int x278), (0, .ref a0), (1, .int x244)]) 2 dX12_init_482 rfl ex278 (by decide) rfl ?_
      refine ev_goto 464 dX12_init_485 (by decide) ?_
      refine ev_sub [1, 2, 0] rfl ?_
      exact ih _ _ _ h
set_option maxRecDepth 100000 in
set_option maxHeartbeats 4000000 in
theorem tfX12_init_L432 {Z : am_Z} {fx : Nat} (hF : ∀ g : am_G, am_ok Z g → ∀ k, Z.2 (am_n g) k = none) (hZ : ∀ a k, fx ≤ a → Z.2 a k = none)  (a0 : Nat) : ∀ (n : Nat) (x244 : Int32) (g245 : am_G) (r : Unit × am_G), fX12_init_L432 fx a0 n x244 g245 = some r → am_Ev Z MX12_init 1 432 [(0, .ref a0), (1, .int x244)] [] g245 (am_rv r) := by
  intro n
  induction n with
  | zero => intro x244 g245 r h; exact nomatch (show (none : Option (Unit × am_G)) = some r from h)
  | succ n ih =>
    intro x244 g245 r h
    rw [fX12_init_L432] at h
    refine ev_iload_n 1 dX12_init_432 rfl ?_
    refine ev_bipush dX12_init_433 rfl ?_
    refine ev_icmp_ge 494 dX12_init_435 (by decide) (fun c246 => ?_) (fun c246 => ?_)
    · replace h := am_ifp c246 h
      cases h
      exact ev_ret dX12_init_494 rfl
    · replace h := am_ifn c246 h
      refine ev_aload_n 0 dX12_init_438 rfl ?_
      obtain ⟨c247, h⟩ := am_gd_elim h
      refine am_oc_elim h (fun p248 e249 h => ?_) (fun _ h => nomatch h)
      refine ev_gf (v := .ref p248) dX12_init_439 (fun _ => am_sh c247) 3 (by decide) (by decide) kF_X12_13 (fun _ => congrArg va_rf e249) ?_
      refine ev_iload_n 1 dX12_init_442 rfl ?_
      refine ev_iconst dX12_init_443 rfl ?_
      obtain ⟨v250, g251, e252, h⟩ := am_bd_elim h
      refine ev_callSi (v := v250) [.int x244, .int (1 : Int32)] [.ref p248] dX12_init_444 (tkX12_slopeAt hF hZ e252) (by decide) mo_X12_slopeAt kM_X12_159 ks_X12_slopeAt (Nat.le_of_ble_eq_true rfl) ?_
      refine ev_sipush dX12_init_447 rfl ?_
      obtain ⟨c253, h⟩ := am_gd_elim h
      obtain ⟨c254, h⟩ := am_gd_elim h
      refine ev_iast dX12_init_450 (fun _ => am_shk c253) (am_in_vp c254) ?_
      refine am_let_elim (P := fun g255 => am_Ev Z MX12_init 1 451 [(0, .ref a0), (1, .int x244)] [] g255 (am_rv r)) h fun g255 h => ?_
      refine ev_aload_n 0 dX12_init_451 rfl ?_
      obtain ⟨c256, h⟩ := am_gd_elim h
      refine am_oc_elim h (fun p257 e258 h => ?_) (fun _ h => nomatch h)
      refine ev_gf (v := .ref p257) dX12_init_452 (fun _ => am_sh c256) 3 (by decide) (by decide) kF_X12_13 (fun _ => congrArg va_rf e258) ?_
      refine ev_iload_n 1 dX12_init_455 rfl ?_
      refine ev_iconst dX12_init_456 rfl ?_
      obtain ⟨v259, g260, e261, h⟩ := am_bd_elim h
      refine ev_callSi (v := v259) [.int x244, .int (2 : Int32)] [.ref p257] dX12_init_457 (tkX12_slopeAt hF hZ e261) (by decide) mo_X12_slopeAt kM_X12_159 ks_X12_slopeAt (Nat.le_of_ble_eq_true rfl) ?_
      refine ev_iconst dX12_init_460 rfl ?_
      obtain ⟨c262, h⟩ := am_gd_elim h
      obtain ⟨c263, h⟩ := am_gd_elim h
      refine ev_iast dX12_init_461 (fun _ => am_shk c262) (am_in_vp c263) ?_
      refine am_let_elim (P := fun g264 => am_Ev Z MX12_init 1 462 [(0, .ref a0), (1, .int x244)] [] g264 (am_rv r)) h fun g264 h => ?_
      refine ev_iconst dX12_init_462 rfl ?_
      refine ev_istore_n (ls' := [(2, .int (0 : Int32)), (0, .ref a0), (1, .int x244)]) dX12_init_463 rfl (by decide) rfl ?_
      refine ev_sub [1, 2, 0] rfl ?_
      refine tfX12_init_L464 hF hZ a0 x244 ?_ _ _ _ _ h
      intro  g279 r h
      try dsimp only at h
      obtain ⟨x280, ex280, h⟩ := am_let_ex h
      refine ev_iinc (ls' := [(1, .int x280), (0, .ref a0)]) 1 dX12_init_488 rfl ex280 (by decide) rfl ?_
      refine ev_goto 432 dX12_init_491 (by decide) ?_
      refine ev_sub [1, 0] rfl ?_
      exact ih _ _ _ h
set_option maxRecDepth 100000 in
set_option maxHeartbeats 4000000 in
theorem eX12_init {Z : am_Z} {fx : Nat} (hF : ∀ g : am_G, am_ok Z g → ∀ k, Z.2 (am_n g) k = none) (hZ : ∀ a k, fx ≤ a → Z.2 a k = none) (a0 : Nat) (g : am_G) (r : Unit × am_G) (h : fX12_init fx a0 g = some r) : am_Ev Z MX12_init 1 0 [(0, .ref a0)] [] g (am_rv r) := by
  unfold fX12_init at h
  refine ev_aload_n 0 dX12_init_0 rfl ?_
  refine ev_objInit dX12_init_1 kM_X12_1 k_objI k_objC (Nat.le_of_ble_eq_true rfl) ?_
  refine ev_aload_n 0 dX12_init_4 rfl ?_
  refine ev_bipush dX12_init_5 rfl ?_
  refine ev_newa 20 7 dX12_init_7 (fun h9 => hF _ h9) (by decide) (by decide) kA_int (by decide) rfl (by decide) ?_
  refine am_let_elim (P := fun p1 => am_Ev Z MX12_init 1 9 [(0, .ref a0)] [.ref p1, .ref a0] (am_new g 20 7) (am_rv r)) h fun p1 h => ?_
  refine am_let_elim (P := fun g2 => am_Ev Z MX12_init 1 9 [(0, .ref a0)] [.ref p1, .ref a0] g2 (am_rv r)) h fun g2 h => ?_
  obtain ⟨c3, h⟩ := am_gd_elim h
  obtain ⟨c5, h⟩ := am_gd_elim h
  refine ev_pfr dX12_init_9 (fun _ => am_sh c3) 2 (by decide) (by decide) kF_X12_7 rfl ⟨rfl, rfl⟩ (hZ _ _ (of_decide_eq_true c5)) (fun _ => rfl) (fun _ => rfl) (fun _ => rfl) ?_
  refine am_let_elim (P := fun g4 => am_Ev Z MX12_init 1 12 [(0, .ref a0)] [] g4 (am_rv r)) h fun g4 h => ?_
  refine ev_aload_n 0 dX12_init_12 rfl ?_
  refine ev_sipush dX12_init_13 rfl ?_
  refine ev_newa 20 5660 dX12_init_16 (fun h9 => hF _ h9) (by decide) (by decide) kA_int (by decide) rfl (by decide) ?_
  refine am_let_elim (P := fun p6 => am_Ev Z MX12_init 1 18 [(0, .ref a0)] [.ref p6, .ref a0] (am_new g4 20 5660) (am_rv r)) h fun p6 h => ?_
  refine am_let_elim (P := fun g7 => am_Ev Z MX12_init 1 18 [(0, .ref a0)] [.ref p6, .ref a0] g7 (am_rv r)) h fun g7 h => ?_
  obtain ⟨c8, h⟩ := am_gd_elim h
  obtain ⟨c10, h⟩ := am_gd_elim h
  refine ev_pfr dX12_init_18 (fun _ => am_sh c8) 3 (by decide) (by decide) kF_X12_13 rfl ⟨rfl, rfl⟩ (hZ _ _ (of_decide_eq_true c10)) (fun _ => rfl) (fun _ => rfl) (fun _ => rfl) ?_
  refine am_let_elim (P := fun g9 => am_Ev Z MX12_init 1 21 [(0, .ref a0)] [] g9 (am_rv r)) h fun g9 h => ?_
  refine ev_aload_n 0 dX12_init_21 rfl ?_
  refine ev_sipush dX12_init_22 rfl ?_
  refine ev_newa 20 11320 dX12_init_25 (fun h9 => hF _ h9) (by decide) (by decide) kA_int (by decide) rfl (by decide) ?_
  refine am_let_elim (P := fun p11 => am_Ev Z MX12_init 1 27 [(0, .ref a0)] [.ref p11, .ref a0] (am_new g9 20 11320) (am_rv r)) h fun p11 h => ?_
  refine am_let_elim (P := fun g12 => am_Ev Z MX12_init 1 27 [(0, .ref a0)] [.ref p11, .ref a0] g12 (am_rv r)) h fun g12 h => ?_
  obtain ⟨c13, h⟩ := am_gd_elim h
  obtain ⟨c15, h⟩ := am_gd_elim h
  refine ev_pfr dX12_init_27 (fun _ => am_sh c13) 4 (by decide) (by decide) kF_X12_16 rfl ⟨rfl, rfl⟩ (hZ _ _ (of_decide_eq_true c15)) (fun _ => rfl) (fun _ => rfl) (fun _ => rfl) ?_
  refine am_let_elim (P := fun g14 => am_Ev Z MX12_init 1 30 [(0, .ref a0)] [] g14 (am_rv r)) h fun g14 h => ?_
  refine ev_aload_n 0 dX12_init_30 rfl ?_
  refine ev_iconst dX12_init_31 rfl ?_
  refine ev_newa 22 2 dX12_init_32 (fun h9 => hF _ h9) (by decide) (by decide) kA_boolean (by decide) rfl (by decide) ?_
  refine am_let_elim (P := fun p16 => am_Ev Z MX12_init 1 34 [(0, .ref a0)] [.ref p16, .ref a0] (am_new g14 22 2) (am_rv r)) h fun p16 h => ?_
  refine am_let_elim (P := fun g17 => am_Ev Z MX12_init 1 34 [(0, .ref a0)] [.ref p16, .ref a0] g17 (am_rv r)) h fun g17 h => ?_
  obtain ⟨c18, h⟩ := am_gd_elim h
  obtain ⟨c20, h⟩ := am_gd_elim h
  refine ev_pfr dX12_init_34 (fun _ => am_sh c18) 5 (by decide) (by decide) kF_X12_19 rfl ⟨rfl, rfl⟩ (hZ _ _ (of_decide_eq_true c20)) (fun _ => rfl) (fun _ => rfl) (fun _ => rfl) ?_
  refine am_let_elim (P := fun g19 => am_Ev Z MX12_init 1 37 [(0, .ref a0)] [] g19 (am_rv r)) h fun g19 h => ?_
  refine ev_aload_n 0 dX12_init_37 rfl ?_
  refine ev_sipush dX12_init_38 rfl ?_
  refine ev_newa 20 2856 dX12_init_41 (fun h9 => hF _ h9) (by decide) (by decide) kA_int (by decide) rfl (by decide) ?_
  refine am_let_elim (P := fun p21 => am_Ev Z MX12_init 1 43 [(0, .ref a0)] [.ref p21, .ref a0] (am_new g19 20 2856) (am_rv r)) h fun p21 h => ?_
  refine am_let_elim (P := fun g22 => am_Ev Z MX12_init 1 43 [(0, .ref a0)] [.ref p21, .ref a0] g22 (am_rv r)) h fun g22 h => ?_
  obtain ⟨c23, h⟩ := am_gd_elim h
  obtain ⟨c25, h⟩ := am_gd_elim h
  refine ev_pfr dX12_init_43 (fun _ => am_sh c23) 6 (by decide) (by decide) kF_X12_23 rfl ⟨rfl, rfl⟩ (hZ _ _ (of_decide_eq_true c25)) (fun _ => rfl) (fun _ => rfl) (fun _ => rfl) ?_
  refine am_let_elim (P := fun g24 => am_Ev Z MX12_init 1 46 [(0, .ref a0)] [] g24 (am_rv r)) h fun g24 h => ?_
  refine ev_aload_n 0 dX12_init_46 rfl ?_
  refine ev_bipush dX12_init_47 rfl ?_
  refine ev_newa 20 16 dX12_init_49 (fun h9 => hF _ h9) (by decide) (by decide) kA_int (by decide) rfl (by decide) ?_
  refine am_let_elim (P := fun p26 => am_Ev Z MX12_init 1 51 [(0, .ref a0)] [.ref p26, .ref a0] (am_new g24 20 16) (am_rv r)) h fun p26 h => ?_
  refine am_let_elim (P := fun g27 => am_Ev Z MX12_init 1 51 [(0, .ref a0)] [.ref p26, .ref a0] g27 (am_rv r)) h fun g27 h => ?_
  obtain ⟨c28, h⟩ := am_gd_elim h
  obtain ⟨c30, h⟩ := am_gd_elim h
  refine ev_pfr dX12_init_51 (fun _ => am_sh c28) 7 (by decide) (by decide) kF_X12_26 rfl ⟨rfl, rfl⟩ (hZ _ _ (of_decide_eq_true c30)) (fun _ => rfl) (fun _ => rfl) (fun _ => rfl) ?_
  refine am_let_elim (P := fun g29 => am_Ev Z MX12_init 1 54 [(0, .ref a0)] [] g29 (am_rv r)) h fun g29 h => ?_
  refine ev_aload_n 0 dX12_init_54 rfl ?_
  refine ev_sipush dX12_init_55 rfl ?_
  refine ev_newa 20 2176 dX12_init_58 (fun h9 => hF _ h9) (by decide) (by decide) kA_int (by decide) rfl (by decide) ?_
  refine am_let_elim (P := fun p31 => am_Ev Z MX12_init 1 60 [(0, .ref a0)] [.ref p31, .ref a0] (am_new g29 20 2176) (am_rv r)) h fun p31 h => ?_
  refine am_let_elim (P := fun g32 => am_Ev Z MX12_init 1 60 [(0, .ref a0)] [.ref p31, .ref a0] g32 (am_rv r)) h fun g32 h => ?_
  obtain ⟨c33, h⟩ := am_gd_elim h
  obtain ⟨c35, h⟩ := am_gd_elim h
  refine ev_pfr dX12_init_60 (fun _ => am_sh c33) 9 (by decide) (by decide) kF_X12_29 rfl ⟨rfl, rfl⟩ (hZ _ _ (of_decide_eq_true c35)) (fun _ => rfl) (fun _ => rfl) (fun _ => rfl) ?_
  refine am_let_elim (P := fun g34 => am_Ev Z MX12_init 1 63 [(0, .ref a0)] [] g34 (am_rv r)) h fun g34 h => ?_
  refine ev_aload_n 0 dX12_init_63 rfl ?_
  refine ev_bipush dX12_init_64 rfl ?_
  refine ev_newa 20 16 dX12_init_66 (fun h9 => hF _ h9) (by decide) (by decide) kA_int (by decide) rfl (by decide) ?_
  refine am_let_elim (P := fun p36 => am_Ev Z MX12_init 1 68 [(0, .ref a0)] [.ref p36, .ref a0] (am_new g34 20 16) (am_rv r)) h fun p36 h => ?_
  refine am_let_elim (P := fun g37 => am_Ev Z MX12_init 1 68 [(0, .ref a0)] [.ref p36, .ref a0] g37 (am_rv r)) h fun g37 h => ?_
  obtain ⟨c38, h⟩ := am_gd_elim h
  obtain ⟨c40, h⟩ := am_gd_elim h
  refine ev_pfr dX12_init_68 (fun _ => am_sh c38) 10 (by decide) (by decide) kF_X12_32 rfl ⟨rfl, rfl⟩ (hZ _ _ (of_decide_eq_true c40)) (fun _ => rfl) (fun _ => rfl) (fun _ => rfl) ?_
  refine am_let_elim (P := fun g39 => am_Ev Z MX12_init 1 71 [(0, .ref a0)] [] g39 (am_rv r)) h fun g39 h => ?_
  refine ev_aload_n 0 dX12_init_71 rfl ?_
  refine ev_sipush dX12_init_72 rfl ?_
  refine ev_newa 20 400 dX12_init_75 (fun h9 => hF _ h9) (by decide) (by decide) kA_int (by decide) rfl (by decide) ?_
  refine am_let_elim (P := fun p41 => am_Ev Z MX12_init 1 77 [(0, .ref a0)] [.ref p41, .ref a0] (am_new g39 20 400) (am_rv r)) h fun p41 h => ?_
  refine am_let_elim (P := fun g42 => am_Ev Z MX12_init 1 77 [(0, .ref a0)] [.ref p41, .ref a0] g42 (am_rv r)) h fun g42 h => ?_
  obtain ⟨c43, h⟩ := am_gd_elim h
  obtain ⟨c45, h⟩ := am_gd_elim h
  refine ev_pfr dX12_init_77 (fun _ => am_sh c43) 12 (by decide) (by decide) kF_X12_35 rfl ⟨rfl, rfl⟩ (hZ _ _ (of_decide_eq_true c45)) (fun _ => rfl) (fun _ => rfl) (fun _ => rfl) ?_
  refine am_let_elim (P := fun g44 => am_Ev Z MX12_init 1 80 [(0, .ref a0)] [] g44 (am_rv r)) h fun g44 h => ?_
  refine ev_aload_n 0 dX12_init_80 rfl ?_
  refine ev_iconst dX12_init_81 rfl ?_
  obtain ⟨c46, h⟩ := am_gd_elim h
  refine ev_pfi dX12_init_82 (fun _ => am_sh c46) 18 (by decide) (by decide) kF_X12_38 rfl rfl rfl (fun _ => rfl) ?_
  refine am_let_elim (P := fun g47 => am_Ev Z MX12_init 1 85 [(0, .ref a0)] [] g47 (am_rv r)) h fun g47 h => ?_
  refine ev_aload_n 0 dX12_init_85 rfl ?_
  refine ev_bipush dX12_init_86 rfl ?_
  refine ev_newa 20 96 dX12_init_88 (fun h9 => hF _ h9) (by decide) (by decide) kA_int (by decide) rfl (by decide) ?_
  refine am_let_elim (P := fun p48 => am_Ev Z MX12_init 1 90 [(0, .ref a0)] [.ref p48, .ref a0] (am_new g47 20 96) (am_rv r)) h fun p48 h => ?_
  refine am_let_elim (P := fun g49 => am_Ev Z MX12_init 1 90 [(0, .ref a0)] [.ref p48, .ref a0] g49 (am_rv r)) h fun g49 h => ?_
  obtain ⟨c50, h⟩ := am_gd_elim h
  obtain ⟨c52, h⟩ := am_gd_elim h
  refine ev_pfr dX12_init_90 (fun _ => am_sh c50) 22 (by decide) (by decide) kF_X12_42 rfl ⟨rfl, rfl⟩ (hZ _ _ (of_decide_eq_true c52)) (fun _ => rfl) (fun _ => rfl) (fun _ => rfl) ?_
  refine am_let_elim (P := fun g51 => am_Ev Z MX12_init 1 93 [(0, .ref a0)] [] g51 (am_rv r)) h fun g51 h => ?_
  refine ev_aload_n 0 dX12_init_93 rfl ?_
  refine ev_sipush dX12_init_94 rfl ?_
  refine ev_newa 20 400 dX12_init_97 (fun h9 => hF _ h9) (by decide) (by decide) kA_int (by decide) rfl (by decide) ?_
  refine am_let_elim (P := fun p53 => am_Ev Z MX12_init 1 99 [(0, .ref a0)] [.ref p53, .ref a0] (am_new g51 20 400) (am_rv r)) h fun p53 h => ?_
  refine am_let_elim (P := fun g54 => am_Ev Z MX12_init 1 99 [(0, .ref a0)] [.ref p53, .ref a0] g54 (am_rv r)) h fun g54 h => ?_
  obtain ⟨c55, h⟩ := am_gd_elim h
  obtain ⟨c57, h⟩ := am_gd_elim h
  refine ev_pfr dX12_init_99 (fun _ => am_sh c55) 24 (by decide) (by decide) kF_X12_45 rfl ⟨rfl, rfl⟩ (hZ _ _ (of_decide_eq_true c57)) (fun _ => rfl) (fun _ => rfl) (fun _ => rfl) ?_
  refine am_let_elim (P := fun g56 => am_Ev Z MX12_init 1 102 [(0, .ref a0)] [] g56 (am_rv r)) h fun g56 h => ?_
  refine ev_aload_n 0 dX12_init_102 rfl ?_
  refine ev_sipush dX12_init_103 rfl ?_
  refine ev_newa 20 400 dX12_init_106 (fun h9 => hF _ h9) (by decide) (by decide) kA_int (by decide) rfl (by decide) ?_
  refine am_let_elim (P := fun p58 => am_Ev Z MX12_init 1 108 [(0, .ref a0)] [.ref p58, .ref a0] (am_new g56 20 400) (am_rv r)) h fun p58 h => ?_
  refine am_let_elim (P := fun g59 => am_Ev Z MX12_init 1 108 [(0, .ref a0)] [.ref p58, .ref a0] g59 (am_rv r)) h fun g59 h => ?_
  obtain ⟨c60, h⟩ := am_gd_elim h
  obtain ⟨c62, h⟩ := am_gd_elim h
  refine ev_pfr dX12_init_108 (fun _ => am_sh c60) 25 (by decide) (by decide) kF_X12_48 rfl ⟨rfl, rfl⟩ (hZ _ _ (of_decide_eq_true c62)) (fun _ => rfl) (fun _ => rfl) (fun _ => rfl) ?_
  refine am_let_elim (P := fun g61 => am_Ev Z MX12_init 1 111 [(0, .ref a0)] [] g61 (am_rv r)) h fun g61 h => ?_
  refine ev_aload_n 0 dX12_init_111 rfl ?_
  refine ev_sipush dX12_init_112 rfl ?_
  refine ev_newa 20 400 dX12_init_115 (fun h9 => hF _ h9) (by decide) (by decide) kA_int (by decide) rfl (by decide) ?_
  refine am_let_elim (P := fun p63 => am_Ev Z MX12_init 1 117 [(0, .ref a0)] [.ref p63, .ref a0] (am_new g61 20 400) (am_rv r)) h fun p63 h => ?_
  refine am_let_elim (P := fun g64 => am_Ev Z MX12_init 1 117 [(0, .ref a0)] [.ref p63, .ref a0] g64 (am_rv r)) h fun g64 h => ?_
  obtain ⟨c65, h⟩ := am_gd_elim h
  obtain ⟨c67, h⟩ := am_gd_elim h
  refine ev_pfr dX12_init_117 (fun _ => am_sh c65) 27 (by decide) (by decide) kF_X12_51 rfl ⟨rfl, rfl⟩ (hZ _ _ (of_decide_eq_true c67)) (fun _ => rfl) (fun _ => rfl) (fun _ => rfl) ?_
  refine am_let_elim (P := fun g66 => am_Ev Z MX12_init 1 120 [(0, .ref a0)] [] g66 (am_rv r)) h fun g66 h => ?_
  refine ev_aload_n 0 dX12_init_120 rfl ?_
  refine ev_sipush dX12_init_121 rfl ?_
  refine ev_newa 20 400 dX12_init_124 (fun h9 => hF _ h9) (by decide) (by decide) kA_int (by decide) rfl (by decide) ?_
  refine am_let_elim (P := fun p68 => am_Ev Z MX12_init 1 126 [(0, .ref a0)] [.ref p68, .ref a0] (am_new g66 20 400) (am_rv r)) h fun p68 h => ?_
  refine am_let_elim (P := fun g69 => am_Ev Z MX12_init 1 126 [(0, .ref a0)] [.ref p68, .ref a0] g69 (am_rv r)) h fun g69 h => ?_
  obtain ⟨c70, h⟩ := am_gd_elim h
  obtain ⟨c72, h⟩ := am_gd_elim h
  refine ev_pfr dX12_init_126 (fun _ => am_sh c70) 28 (by decide) (by decide) kF_X12_54 rfl ⟨rfl, rfl⟩ (hZ _ _ (of_decide_eq_true c72)) (fun _ => rfl) (fun _ => rfl) (fun _ => rfl) ?_
  refine am_let_elim (P := fun g71 => am_Ev Z MX12_init 1 129 [(0, .ref a0)] [] g71 (am_rv r)) h fun g71 h => ?_
  refine ev_aload_n 0 dX12_init_129 rfl ?_
  refine ev_bipush dX12_init_130 rfl ?_
  refine ev_newa 23 10 dX12_init_132 (fun h9 => hF _ h9) (by decide) (by decide) kA_long (by decide) rfl (by decide) ?_
  refine am_let_elim (P := fun p73 => am_Ev Z MX12_init 1 134 [(0, .ref a0)] [.ref p73, .ref a0] (am_new g71 23 10) (am_rv r)) h fun p73 h => ?_
  refine am_let_elim (P := fun g74 => am_Ev Z MX12_init 1 134 [(0, .ref a0)] [.ref p73, .ref a0] g74 (am_rv r)) h fun g74 h => ?_
  refine ev_dup dX12_init_134 rfl ?_
  refine ev_iconst dX12_init_135 rfl ?_
  refine ev_ldc2 dX12_init_136 kL_X12_57 ?_
  obtain ⟨c75, h⟩ := am_gd_elim h
  obtain ⟨c76, h⟩ := am_gd_elim h
  refine ev_last dX12_init_139 (fun _ => am_shk c75) (am_in_vp c76) ?_
  refine am_let_elim (P := fun g77 => am_Ev Z MX12_init 1 140 [(0, .ref a0)] [.ref p73, .ref a0] g77 (am_rv r)) h fun g77 h => ?_
  refine ev_dup dX12_init_140 rfl ?_
  refine ev_iconst dX12_init_141 rfl ?_
  refine ev_ldc2 dX12_init_142 kL_X12_59 ?_
  obtain ⟨c78, h⟩ := am_gd_elim h
  obtain ⟨c79, h⟩ := am_gd_elim h
  refine ev_last dX12_init_145 (fun _ => am_shk c78) (am_in_vp c79) ?_
  refine am_let_elim (P := fun g80 => am_Ev Z MX12_init 1 146 [(0, .ref a0)] [.ref p73, .ref a0] g80 (am_rv r)) h fun g80 h => ?_
  refine ev_dup dX12_init_146 rfl ?_
  refine ev_iconst dX12_init_147 rfl ?_
  refine ev_ldc2 dX12_init_148 kL_X12_61 ?_
  obtain ⟨c81, h⟩ := am_gd_elim h
  obtain ⟨c82, h⟩ := am_gd_elim h
  refine ev_last dX12_init_151 (fun _ => am_shk c81) (am_in_vp c82) ?_
  refine am_let_elim (P := fun g83 => am_Ev Z MX12_init 1 152 [(0, .ref a0)] [.ref p73, .ref a0] g83 (am_rv r)) h fun g83 h => ?_
  refine ev_dup dX12_init_152 rfl ?_
  refine ev_iconst dX12_init_153 rfl ?_
  refine ev_ldc2 dX12_init_154 kL_X12_63 ?_
  obtain ⟨c84, h⟩ := am_gd_elim h
  obtain ⟨c85, h⟩ := am_gd_elim h
  refine ev_last dX12_init_157 (fun _ => am_shk c84) (am_in_vp c85) ?_
  refine am_let_elim (P := fun g86 => am_Ev Z MX12_init 1 158 [(0, .ref a0)] [.ref p73, .ref a0] g86 (am_rv r)) h fun g86 h => ?_
  refine ev_dup dX12_init_158 rfl ?_
  refine ev_iconst dX12_init_159 rfl ?_
  refine ev_ldc2 dX12_init_160 kL_X12_65 ?_
  obtain ⟨c87, h⟩ := am_gd_elim h
  obtain ⟨c88, h⟩ := am_gd_elim h
  refine ev_last dX12_init_163 (fun _ => am_shk c87) (am_in_vp c88) ?_
  refine am_let_elim (P := fun g89 => am_Ev Z MX12_init 1 164 [(0, .ref a0)] [.ref p73, .ref a0] g89 (am_rv r)) h fun g89 h => ?_
  refine ev_dup dX12_init_164 rfl ?_
  refine ev_iconst dX12_init_165 rfl ?_
  refine ev_ldc2 dX12_init_166 kL_X12_67 ?_
  obtain ⟨c90, h⟩ := am_gd_elim h
  obtain ⟨c91, h⟩ := am_gd_elim h
  refine ev_last dX12_init_169 (fun _ => am_shk c90) (am_in_vp c91) ?_
  refine am_let_elim (P := fun g92 => am_Ev Z MX12_init 1 170 [(0, .ref a0)] [.ref p73, .ref a0] g92 (am_rv r)) h fun g92 h => ?_
  refine ev_dup dX12_init_170 rfl ?_
  refine ev_bipush dX12_init_171 rfl ?_
  refine ev_ldc2 dX12_init_173 kL_X12_69 ?_
  obtain ⟨c93, h⟩ := am_gd_elim h
  obtain ⟨c94, h⟩ := am_gd_elim h
  refine ev_last dX12_init_176 (fun _ => am_shk c93) (am_in_vp c94) ?_
  refine am_let_elim (P := fun g95 => am_Ev Z MX12_init 1 177 [(0, .ref a0)] [.ref p73, .ref a0] g95 (am_rv r)) h fun g95 h => ?_
  refine ev_dup dX12_init_177 rfl ?_
  refine ev_bipush dX12_init_178 rfl ?_
  refine ev_ldc2 dX12_init_180 kL_X12_71 ?_
  obtain ⟨c96, h⟩ := am_gd_elim h
  obtain ⟨c97, h⟩ := am_gd_elim h
  refine ev_last dX12_init_183 (fun _ => am_shk c96) (am_in_vp c97) ?_
  refine am_let_elim (P := fun g98 => am_Ev Z MX12_init 1 184 [(0, .ref a0)] [.ref p73, .ref a0] g98 (am_rv r)) h fun g98 h => ?_
  refine ev_dup dX12_init_184 rfl ?_
  refine ev_bipush dX12_init_185 rfl ?_
  refine ev_ldc2 dX12_init_187 kL_X12_73 ?_
  obtain ⟨c99, h⟩ := am_gd_elim h
  obtain ⟨c100, h⟩ := am_gd_elim h
  refine ev_last dX12_init_190 (fun _ => am_shk c99) (am_in_vp c100) ?_
  refine am_let_elim (P := fun g101 => am_Ev Z MX12_init 1 191 [(0, .ref a0)] [.ref p73, .ref a0] g101 (am_rv r)) h fun g101 h => ?_
  refine ev_dup dX12_init_191 rfl ?_
  refine ev_bipush dX12_init_192 rfl ?_
  refine ev_ldc2 dX12_init_194 kL_X12_75 ?_
  obtain ⟨c102, h⟩ := am_gd_elim h
  obtain ⟨c103, h⟩ := am_gd_elim h
  refine ev_last dX12_init_197 (fun _ => am_shk c102) (am_in_vp c103) ?_
  refine am_let_elim (P := fun g104 => am_Ev Z MX12_init 1 198 [(0, .ref a0)] [.ref p73, .ref a0] g104 (am_rv r)) h fun g104 h => ?_
  obtain ⟨c105, h⟩ := am_gd_elim h
  obtain ⟨c107, h⟩ := am_gd_elim h
  refine ev_pfr dX12_init_198 (fun _ => am_sh c105) 31 (by decide) (by decide) kF_X12_77 rfl ⟨rfl, rfl⟩ (hZ _ _ (of_decide_eq_true c107)) (fun _ => rfl) (fun _ => rfl) (fun _ => rfl) ?_
  refine am_let_elim (P := fun g106 => am_Ev Z MX12_init 1 201 [(0, .ref a0)] [] g106 (am_rv r)) h fun g106 h => ?_
  refine ev_aload_n 0 dX12_init_201 rfl ?_
  refine ev_bipush dX12_init_202 rfl ?_
  refine ev_newa 23 7 dX12_init_204 (fun h9 => hF _ h9) (by decide) (by decide) kA_long (by decide) rfl (by decide) ?_
  refine am_let_elim (P := fun p108 => am_Ev Z MX12_init 1 206 [(0, .ref a0)] [.ref p108, .ref a0] (am_new g106 23 7) (am_rv r)) h fun p108 h => ?_
  refine am_let_elim (P := fun g109 => am_Ev Z MX12_init 1 206 [(0, .ref a0)] [.ref p108, .ref a0] g109 (am_rv r)) h fun g109 h => ?_
  refine ev_dup dX12_init_206 rfl ?_
  refine ev_iconst dX12_init_207 rfl ?_
  refine ev_ldc2 dX12_init_208 kL_X12_73 ?_
  obtain ⟨c110, h⟩ := am_gd_elim h
  obtain ⟨c111, h⟩ := am_gd_elim h
  refine ev_last dX12_init_211 (fun _ => am_shk c110) (am_in_vp c111) ?_
  refine am_let_elim (P := fun g112 => am_Ev Z MX12_init 1 212 [(0, .ref a0)] [.ref p108, .ref a0] g112 (am_rv r)) h fun g112 h => ?_
  refine ev_dup dX12_init_212 rfl ?_
  refine ev_iconst dX12_init_213 rfl ?_
  refine ev_ldc2 dX12_init_214 kL_X12_81 ?_
  obtain ⟨c113, h⟩ := am_gd_elim h
  obtain ⟨c114, h⟩ := am_gd_elim h
  refine ev_last dX12_init_217 (fun _ => am_shk c113) (am_in_vp c114) ?_
  refine am_let_elim (P := fun g115 => am_Ev Z MX12_init 1 218 [(0, .ref a0)] [.ref p108, .ref a0] g115 (am_rv r)) h fun g115 h => ?_
  refine ev_dup dX12_init_218 rfl ?_
  refine ev_iconst dX12_init_219 rfl ?_
  refine ev_ldc2 dX12_init_220 kL_X12_83 ?_
  obtain ⟨c116, h⟩ := am_gd_elim h
  obtain ⟨c117, h⟩ := am_gd_elim h
  refine ev_last dX12_init_223 (fun _ => am_shk c116) (am_in_vp c117) ?_
  refine am_let_elim (P := fun g118 => am_Ev Z MX12_init 1 224 [(0, .ref a0)] [.ref p108, .ref a0] g118 (am_rv r)) h fun g118 h => ?_
  refine ev_dup dX12_init_224 rfl ?_
  refine ev_iconst dX12_init_225 rfl ?_
  refine ev_ldc2 dX12_init_226 kL_X12_85 ?_
  obtain ⟨c119, h⟩ := am_gd_elim h
  obtain ⟨c120, h⟩ := am_gd_elim h
  refine ev_last dX12_init_229 (fun _ => am_shk c119) (am_in_vp c120) ?_
  refine am_let_elim (P := fun g121 => am_Ev Z MX12_init 1 230 [(0, .ref a0)] [.ref p108, .ref a0] g121 (am_rv r)) h fun g121 h => ?_
  refine ev_dup dX12_init_230 rfl ?_
  refine ev_iconst dX12_init_231 rfl ?_
  refine ev_ldc2 dX12_init_232 kL_X12_87 ?_
  obtain ⟨c122, h⟩ := am_gd_elim h
  obtain ⟨c123, h⟩ := am_gd_elim h
  refine ev_last dX12_init_235 (fun _ => am_shk c122) (am_in_vp c123) ?_
  refine am_let_elim (P := fun g124 => am_Ev Z MX12_init 1 236 [(0, .ref a0)] [.ref p108, .ref a0] g124 (am_rv r)) h fun g124 h => ?_
  refine ev_dup dX12_init_236 rfl ?_
  refine ev_iconst dX12_init_237 rfl ?_
  refine ev_ldc2 dX12_init_238 kL_X12_71 ?_
  obtain ⟨c125, h⟩ := am_gd_elim h
  obtain ⟨c126, h⟩ := am_gd_elim h
  refine ev_last dX12_init_241 (fun _ => am_shk c125) (am_in_vp c126) ?_
  refine am_let_elim (P := fun g127 => am_Ev Z MX12_init 1 242 [(0, .ref a0)] [.ref p108, .ref a0] g127 (am_rv r)) h fun g127 h => ?_
  refine ev_dup dX12_init_242 rfl ?_
  refine ev_bipush dX12_init_243 rfl ?_
  refine ev_ldc2 dX12_init_245 kL_X12_89 ?_
  obtain ⟨c128, h⟩ := am_gd_elim h
  obtain ⟨c129, h⟩ := am_gd_elim h
  refine ev_last dX12_init_248 (fun _ => am_shk c128) (am_in_vp c129) ?_
  refine am_let_elim (P := fun g130 => am_Ev Z MX12_init 1 249 [(0, .ref a0)] [.ref p108, .ref a0] g130 (am_rv r)) h fun g130 h => ?_
  obtain ⟨c131, h⟩ := am_gd_elim h
  obtain ⟨c133, h⟩ := am_gd_elim h
  refine ev_pfr dX12_init_249 (fun _ => am_sh c131) 32 (by decide) (by decide) kF_X12_91 rfl ⟨rfl, rfl⟩ (hZ _ _ (of_decide_eq_true c133)) (fun _ => rfl) (fun _ => rfl) (fun _ => rfl) ?_
  refine am_let_elim (P := fun g132 => am_Ev Z MX12_init 1 252 [(0, .ref a0)] [] g132 (am_rv r)) h fun g132 h => ?_
  refine ev_aload_n 0 dX12_init_252 rfl ?_
  refine ev_iconst dX12_init_253 rfl ?_
  refine ev_newa 23 4 dX12_init_254 (fun h9 => hF _ h9) (by decide) (by decide) kA_long (by decide) rfl (by decide) ?_
  refine am_let_elim (P := fun p134 => am_Ev Z MX12_init 1 256 [(0, .ref a0)] [.ref p134, .ref a0] (am_new g132 23 4) (am_rv r)) h fun p134 h => ?_
  refine am_let_elim (P := fun g135 => am_Ev Z MX12_init 1 256 [(0, .ref a0)] [.ref p134, .ref a0] g135 (am_rv r)) h fun g135 h => ?_
  refine ev_dup dX12_init_256 rfl ?_
  refine ev_iconst dX12_init_257 rfl ?_
  refine ev_ldc2 dX12_init_258 kL_X12_94 ?_
  obtain ⟨c136, h⟩ := am_gd_elim h
  obtain ⟨c137, h⟩ := am_gd_elim h
  refine ev_last dX12_init_261 (fun _ => am_shk c136) (am_in_vp c137) ?_
  refine am_let_elim (P := fun g138 => am_Ev Z MX12_init 1 262 [(0, .ref a0)] [.ref p134, .ref a0] g138 (am_rv r)) h fun g138 h => ?_
  refine ev_dup dX12_init_262 rfl ?_
  refine ev_iconst dX12_init_263 rfl ?_
  refine ev_ldc2 dX12_init_264 kL_X12_96 ?_
  obtain ⟨c139, h⟩ := am_gd_elim h
  obtain ⟨c140, h⟩ := am_gd_elim h
  refine ev_last dX12_init_267 (fun _ => am_shk c139) (am_in_vp c140) ?_
  refine am_let_elim (P := fun g141 => am_Ev Z MX12_init 1 268 [(0, .ref a0)] [.ref p134, .ref a0] g141 (am_rv r)) h fun g141 h => ?_
  refine ev_dup dX12_init_268 rfl ?_
  refine ev_iconst dX12_init_269 rfl ?_
  refine ev_ldc2 dX12_init_270 kL_X12_98 ?_
  obtain ⟨c142, h⟩ := am_gd_elim h
  obtain ⟨c143, h⟩ := am_gd_elim h
  refine ev_last dX12_init_273 (fun _ => am_shk c142) (am_in_vp c143) ?_
  refine am_let_elim (P := fun g144 => am_Ev Z MX12_init 1 274 [(0, .ref a0)] [.ref p134, .ref a0] g144 (am_rv r)) h fun g144 h => ?_
  refine ev_dup dX12_init_274 rfl ?_
  refine ev_iconst dX12_init_275 rfl ?_
  refine ev_ldc2 dX12_init_276 kL_X12_100 ?_
  obtain ⟨c145, h⟩ := am_gd_elim h
  obtain ⟨c146, h⟩ := am_gd_elim h
  refine ev_last dX12_init_279 (fun _ => am_shk c145) (am_in_vp c146) ?_
  refine am_let_elim (P := fun g147 => am_Ev Z MX12_init 1 280 [(0, .ref a0)] [.ref p134, .ref a0] g147 (am_rv r)) h fun g147 h => ?_
  obtain ⟨c148, h⟩ := am_gd_elim h
  obtain ⟨c150, h⟩ := am_gd_elim h
  refine ev_pfr dX12_init_280 (fun _ => am_sh c148) 33 (by decide) (by decide) kF_X12_102 rfl ⟨rfl, rfl⟩ (hZ _ _ (of_decide_eq_true c150)) (fun _ => rfl) (fun _ => rfl) (fun _ => rfl) ?_
  refine am_let_elim (P := fun g149 => am_Ev Z MX12_init 1 283 [(0, .ref a0)] [] g149 (am_rv r)) h fun g149 h => ?_
  refine ev_aload_n 0 dX12_init_283 rfl ?_
  refine ev_bipush dX12_init_284 rfl ?_
  refine ev_newa 23 13 dX12_init_286 (fun h9 => hF _ h9) (by decide) (by decide) kA_long (by decide) rfl (by decide) ?_
  refine am_let_elim (P := fun p151 => am_Ev Z MX12_init 1 288 [(0, .ref a0)] [.ref p151, .ref a0] (am_new g149 23 13) (am_rv r)) h fun p151 h => ?_
  refine am_let_elim (P := fun g152 => am_Ev Z MX12_init 1 288 [(0, .ref a0)] [.ref p151, .ref a0] g152 (am_rv r)) h fun g152 h => ?_
  obtain ⟨c153, h⟩ := am_gd_elim h
  obtain ⟨c155, h⟩ := am_gd_elim h
  refine ev_pfr dX12_init_288 (fun _ => am_sh c153) 35 (by decide) (by decide) kF_X12_105 rfl ⟨rfl, rfl⟩ (hZ _ _ (of_decide_eq_true c155)) (fun _ => rfl) (fun _ => rfl) (fun _ => rfl) ?_
  refine am_let_elim (P := fun g154 => am_Ev Z MX12_init 1 291 [(0, .ref a0)] [] g154 (am_rv r)) h fun g154 h => ?_
  refine ev_aload_n 0 dX12_init_291 rfl ?_
  refine ev_bipush dX12_init_292 rfl ?_
  refine ev_newa 23 13 dX12_init_294 (fun h9 => hF _ h9) (by decide) (by decide) kA_long (by decide) rfl (by decide) ?_
  refine am_let_elim (P := fun p156 => am_Ev Z MX12_init 1 296 [(0, .ref a0)] [.ref p156, .ref a0] (am_new g154 23 13) (am_rv r)) h fun p156 h => ?_
  refine am_let_elim (P := fun g157 => am_Ev Z MX12_init 1 296 [(0, .ref a0)] [.ref p156, .ref a0] g157 (am_rv r)) h fun g157 h => ?_
  obtain ⟨c158, h⟩ := am_gd_elim h
  obtain ⟨c160, h⟩ := am_gd_elim h
  refine ev_pfr dX12_init_296 (fun _ => am_sh c158) 36 (by decide) (by decide) kF_X12_108 rfl ⟨rfl, rfl⟩ (hZ _ _ (of_decide_eq_true c160)) (fun _ => rfl) (fun _ => rfl) (fun _ => rfl) ?_
  refine am_let_elim (P := fun g159 => am_Ev Z MX12_init 1 299 [(0, .ref a0)] [] g159 (am_rv r)) h fun g159 h => ?_
  refine ev_aload_n 0 dX12_init_299 rfl ?_
  refine ev_sipush dX12_init_300 rfl ?_
  refine ev_newa 23 400 dX12_init_303 (fun h9 => hF _ h9) (by decide) (by decide) kA_long (by decide) rfl (by decide) ?_
  refine am_let_elim (P := fun p161 => am_Ev Z MX12_init 1 305 [(0, .ref a0)] [.ref p161, .ref a0] (am_new g159 23 400) (am_rv r)) h fun p161 h => ?_
  refine am_let_elim (P := fun g162 => am_Ev Z MX12_init 1 305 [(0, .ref a0)] [.ref p161, .ref a0] g162 (am_rv r)) h fun g162 h => ?_
  obtain ⟨c163, h⟩ := am_gd_elim h
  obtain ⟨c165, h⟩ := am_gd_elim h
  refine ev_pfr dX12_init_305 (fun _ => am_sh c163) 37 (by decide) (by decide) kF_X12_111 rfl ⟨rfl, rfl⟩ (hZ _ _ (of_decide_eq_true c165)) (fun _ => rfl) (fun _ => rfl) (fun _ => rfl) ?_
  refine am_let_elim (P := fun g164 => am_Ev Z MX12_init 1 308 [(0, .ref a0)] [] g164 (am_rv r)) h fun g164 h => ?_
  refine ev_aload_n 0 dX12_init_308 rfl ?_
  refine ev_bipush dX12_init_309 rfl ?_
  refine ev_newa 20 6 dX12_init_311 (fun h9 => hF _ h9) (by decide) (by decide) kA_int (by decide) rfl (by decide) ?_
  refine am_let_elim (P := fun p166 => am_Ev Z MX12_init 1 313 [(0, .ref a0)] [.ref p166, .ref a0] (am_new g164 20 6) (am_rv r)) h fun p166 h => ?_
  refine am_let_elim (P := fun g167 => am_Ev Z MX12_init 1 313 [(0, .ref a0)] [.ref p166, .ref a0] g167 (am_rv r)) h fun g167 h => ?_
  obtain ⟨c168, h⟩ := am_gd_elim h
  obtain ⟨c170, h⟩ := am_gd_elim h
  refine ev_pfr dX12_init_313 (fun _ => am_sh c168) 41 (by decide) (by decide) kF_X12_114 rfl ⟨rfl, rfl⟩ (hZ _ _ (of_decide_eq_true c170)) (fun _ => rfl) (fun _ => rfl) (fun _ => rfl) ?_
  refine am_let_elim (P := fun g169 => am_Ev Z MX12_init 1 316 [(0, .ref a0)] [] g169 (am_rv r)) h fun g169 h => ?_
  refine ev_aload_n 0 dX12_init_316 rfl ?_
  refine ev_bipush dX12_init_317 rfl ?_
  refine ev_newa 20 6 dX12_init_319 (fun h9 => hF _ h9) (by decide) (by decide) kA_int (by decide) rfl (by decide) ?_
  refine am_let_elim (P := fun p171 => am_Ev Z MX12_init 1 321 [(0, .ref a0)] [.ref p171, .ref a0] (am_new g169 20 6) (am_rv r)) h fun p171 h => ?_
  refine am_let_elim (P := fun g172 => am_Ev Z MX12_init 1 321 [(0, .ref a0)] [.ref p171, .ref a0] g172 (am_rv r)) h fun g172 h => ?_
  obtain ⟨c173, h⟩ := am_gd_elim h
  obtain ⟨c175, h⟩ := am_gd_elim h
  refine ev_pfr dX12_init_321 (fun _ => am_sh c173) 42 (by decide) (by decide) kF_X12_117 rfl ⟨rfl, rfl⟩ (hZ _ _ (of_decide_eq_true c175)) (fun _ => rfl) (fun _ => rfl) (fun _ => rfl) ?_
  refine am_let_elim (P := fun g174 => am_Ev Z MX12_init 1 324 [(0, .ref a0)] [] g174 (am_rv r)) h fun g174 h => ?_
  refine ev_aload_n 0 dX12_init_324 rfl ?_
  refine ev_bipush dX12_init_325 rfl ?_
  refine ev_newa 20 96 dX12_init_327 (fun h9 => hF _ h9) (by decide) (by decide) kA_int (by decide) rfl (by decide) ?_
  refine am_let_elim (P := fun p176 => am_Ev Z MX12_init 1 329 [(0, .ref a0)] [.ref p176, .ref a0] (am_new g174 20 96) (am_rv r)) h fun p176 h => ?_
  refine am_let_elim (P := fun g177 => am_Ev Z MX12_init 1 329 [(0, .ref a0)] [.ref p176, .ref a0] g177 (am_rv r)) h fun g177 h => ?_
  obtain ⟨c178, h⟩ := am_gd_elim h
  obtain ⟨c180, h⟩ := am_gd_elim h
  refine ev_pfr dX12_init_329 (fun _ => am_sh c178) 43 (by decide) (by decide) kF_X12_120 rfl ⟨rfl, rfl⟩ (hZ _ _ (of_decide_eq_true c180)) (fun _ => rfl) (fun _ => rfl) (fun _ => rfl) ?_
  refine am_let_elim (P := fun g179 => am_Ev Z MX12_init 1 332 [(0, .ref a0)] [] g179 (am_rv r)) h fun g179 h => ?_
  refine ev_aload_n 0 dX12_init_332 rfl ?_
  refine ev_bipush dX12_init_333 rfl ?_
  refine ev_newa 22 16 dX12_init_335 (fun h9 => hF _ h9) (by decide) (by decide) kA_boolean (by decide) rfl (by decide) ?_
  refine am_let_elim (P := fun p181 => am_Ev Z MX12_init 1 337 [(0, .ref a0)] [.ref p181, .ref a0] (am_new g179 22 16) (am_rv r)) h fun p181 h => ?_
  refine am_let_elim (P := fun g182 => am_Ev Z MX12_init 1 337 [(0, .ref a0)] [.ref p181, .ref a0] g182 (am_rv r)) h fun g182 h => ?_
  obtain ⟨c183, h⟩ := am_gd_elim h
  obtain ⟨c185, h⟩ := am_gd_elim h
  refine ev_pfr dX12_init_337 (fun _ => am_sh c183) 44 (by decide) (by decide) kF_X12_123 rfl ⟨rfl, rfl⟩ (hZ _ _ (of_decide_eq_true c185)) (fun _ => rfl) (fun _ => rfl) (fun _ => rfl) ?_
  refine am_let_elim (P := fun g184 => am_Ev Z MX12_init 1 340 [(0, .ref a0)] [] g184 (am_rv r)) h fun g184 h => ?_
  refine ev_aload_n 0 dX12_init_340 rfl ?_
  refine ev_iconst dX12_init_341 rfl ?_
  refine ev_newa 20 5 dX12_init_342 (fun h9 => hF _ h9) (by decide) (by decide) kA_int (by decide) rfl (by decide) ?_
  refine am_let_elim (P := fun p186 => am_Ev Z MX12_init 1 344 [(0, .ref a0)] [.ref p186, .ref a0] (am_new g184 20 5) (am_rv r)) h fun p186 h => ?_
  refine am_let_elim (P := fun g187 => am_Ev Z MX12_init 1 344 [(0, .ref a0)] [.ref p186, .ref a0] g187 (am_rv r)) h fun g187 h => ?_
  obtain ⟨c188, h⟩ := am_gd_elim h
  obtain ⟨c190, h⟩ := am_gd_elim h
  refine ev_pfr dX12_init_344 (fun _ => am_sh c188) 45 (by decide) (by decide) kF_X12_126 rfl ⟨rfl, rfl⟩ (hZ _ _ (of_decide_eq_true c190)) (fun _ => rfl) (fun _ => rfl) (fun _ => rfl) ?_
  refine am_let_elim (P := fun g189 => am_Ev Z MX12_init 1 347 [(0, .ref a0)] [] g189 (am_rv r)) h fun g189 h => ?_
  refine ev_aload_n 0 dX12_init_347 rfl ?_
  refine ev_iconst dX12_init_348 rfl ?_
  refine ev_newa 20 5 dX12_init_349 (fun h9 => hF _ h9) (by decide) (by decide) kA_int (by decide) rfl (by decide) ?_
  refine am_let_elim (P := fun p191 => am_Ev Z MX12_init 1 351 [(0, .ref a0)] [.ref p191, .ref a0] (am_new g189 20 5) (am_rv r)) h fun p191 h => ?_
  refine am_let_elim (P := fun g192 => am_Ev Z MX12_init 1 351 [(0, .ref a0)] [.ref p191, .ref a0] g192 (am_rv r)) h fun g192 h => ?_
  obtain ⟨c193, h⟩ := am_gd_elim h
  obtain ⟨c195, h⟩ := am_gd_elim h
  refine ev_pfr dX12_init_351 (fun _ => am_sh c193) 46 (by decide) (by decide) kF_X12_129 rfl ⟨rfl, rfl⟩ (hZ _ _ (of_decide_eq_true c195)) (fun _ => rfl) (fun _ => rfl) (fun _ => rfl) ?_
  refine am_let_elim (P := fun g194 => am_Ev Z MX12_init 1 354 [(0, .ref a0)] [] g194 (am_rv r)) h fun g194 h => ?_
  refine ev_aload_n 0 dX12_init_354 rfl ?_
  refine ev_bipush dX12_init_355 rfl ?_
  refine ev_newa 20 6 dX12_init_357 (fun h9 => hF _ h9) (by decide) (by decide) kA_int (by decide) rfl (by decide) ?_
  refine am_let_elim (P := fun p196 => am_Ev Z MX12_init 1 359 [(0, .ref a0)] [.ref p196, .ref a0] (am_new g194 20 6) (am_rv r)) h fun p196 h => ?_
  refine am_let_elim (P := fun g197 => am_Ev Z MX12_init 1 359 [(0, .ref a0)] [.ref p196, .ref a0] g197 (am_rv r)) h fun g197 h => ?_
  obtain ⟨c198, h⟩ := am_gd_elim h
  obtain ⟨c200, h⟩ := am_gd_elim h
  refine ev_pfr dX12_init_359 (fun _ => am_sh c198) 49 (by decide) (by decide) kF_X12_132 rfl ⟨rfl, rfl⟩ (hZ _ _ (of_decide_eq_true c200)) (fun _ => rfl) (fun _ => rfl) (fun _ => rfl) ?_
  refine am_let_elim (P := fun g199 => am_Ev Z MX12_init 1 362 [(0, .ref a0)] [] g199 (am_rv r)) h fun g199 h => ?_
  refine ev_aload_n 0 dX12_init_362 rfl ?_
  refine ev_bipush dX12_init_363 rfl ?_
  refine ev_newa 20 6 dX12_init_365 (fun h9 => hF _ h9) (by decide) (by decide) kA_int (by decide) rfl (by decide) ?_
  refine am_let_elim (P := fun p201 => am_Ev Z MX12_init 1 367 [(0, .ref a0)] [.ref p201, .ref a0] (am_new g199 20 6) (am_rv r)) h fun p201 h => ?_
  refine am_let_elim (P := fun g202 => am_Ev Z MX12_init 1 367 [(0, .ref a0)] [.ref p201, .ref a0] g202 (am_rv r)) h fun g202 h => ?_
  obtain ⟨c203, h⟩ := am_gd_elim h
  obtain ⟨c205, h⟩ := am_gd_elim h
  refine ev_pfr dX12_init_367 (fun _ => am_sh c203) 50 (by decide) (by decide) kF_X12_135 rfl ⟨rfl, rfl⟩ (hZ _ _ (of_decide_eq_true c205)) (fun _ => rfl) (fun _ => rfl) (fun _ => rfl) ?_
  refine am_let_elim (P := fun g204 => am_Ev Z MX12_init 1 370 [(0, .ref a0)] [] g204 (am_rv r)) h fun g204 h => ?_
  refine ev_aload_n 0 dX12_init_370 rfl ?_
  refine ev_iconst dX12_init_371 rfl ?_
  refine ev_newa 20 3 dX12_init_372 (fun h9 => hF _ h9) (by decide) (by decide) kA_int (by decide) rfl (by decide) ?_
  refine am_let_elim (P := fun p206 => am_Ev Z MX12_init 1 374 [(0, .ref a0)] [.ref p206, .ref a0] (am_new g204 20 3) (am_rv r)) h fun p206 h => ?_
  refine am_let_elim (P := fun g207 => am_Ev Z MX12_init 1 374 [(0, .ref a0)] [.ref p206, .ref a0] g207 (am_rv r)) h fun g207 h => ?_
  obtain ⟨c208, h⟩ := am_gd_elim h
  obtain ⟨c210, h⟩ := am_gd_elim h
  refine ev_pfr dX12_init_374 (fun _ => am_sh c208) 51 (by decide) (by decide) kF_X12_138 rfl ⟨rfl, rfl⟩ (hZ _ _ (of_decide_eq_true c210)) (fun _ => rfl) (fun _ => rfl) (fun _ => rfl) ?_
  refine am_let_elim (P := fun g209 => am_Ev Z MX12_init 1 377 [(0, .ref a0)] [] g209 (am_rv r)) h fun g209 h => ?_
  refine ev_aload_n 0 dX12_init_377 rfl ?_
  refine ev_sipush dX12_init_378 rfl ?_
  refine ev_newa 22 10000 dX12_init_381 (fun h9 => hF _ h9) (by decide) (by decide) kA_boolean (by decide) rfl (by decide) ?_
  refine am_let_elim (P := fun p211 => am_Ev Z MX12_init 1 383 [(0, .ref a0)] [.ref p211, .ref a0] (am_new g209 22 10000) (am_rv r)) h fun p211 h => ?_
  refine am_let_elim (P := fun g212 => am_Ev Z MX12_init 1 383 [(0, .ref a0)] [.ref p211, .ref a0] g212 (am_rv r)) h fun g212 h => ?_
  obtain ⟨c213, h⟩ := am_gd_elim h
  obtain ⟨c215, h⟩ := am_gd_elim h
  refine ev_pfr dX12_init_383 (fun _ => am_sh c213) 52 (by decide) (by decide) kF_X12_141 rfl ⟨rfl, rfl⟩ (hZ _ _ (of_decide_eq_true c215)) (fun _ => rfl) (fun _ => rfl) (fun _ => rfl) ?_
  refine am_let_elim (P := fun g214 => am_Ev Z MX12_init 1 386 [(0, .ref a0)] [] g214 (am_rv r)) h fun g214 h => ?_
  refine ev_aload_n 0 dX12_init_386 rfl ?_
  refine ev_bipush dX12_init_387 rfl ?_
  refine ev_newa 20 16 dX12_init_389 (fun h9 => hF _ h9) (by decide) (by decide) kA_int (by decide) rfl (by decide) ?_
  refine am_let_elim (P := fun p216 => am_Ev Z MX12_init 1 391 [(0, .ref a0)] [.ref p216, .ref a0] (am_new g214 20 16) (am_rv r)) h fun p216 h => ?_
  refine am_let_elim (P := fun g217 => am_Ev Z MX12_init 1 391 [(0, .ref a0)] [.ref p216, .ref a0] g217 (am_rv r)) h fun g217 h => ?_
  obtain ⟨c218, h⟩ := am_gd_elim h
  obtain ⟨c220, h⟩ := am_gd_elim h
  refine ev_pfr dX12_init_391 (fun _ => am_sh c218) 53 (by decide) (by decide) kF_X12_144 rfl ⟨rfl, rfl⟩ (hZ _ _ (of_decide_eq_true c220)) (fun _ => rfl) (fun _ => rfl) (fun _ => rfl) ?_
  refine am_let_elim (P := fun g219 => am_Ev Z MX12_init 1 394 [(0, .ref a0)] [] g219 (am_rv r)) h fun g219 h => ?_
  refine ev_aload_n 0 dX12_init_394 rfl ?_
  refine ev_bipush dX12_init_395 rfl ?_
  refine ev_newa 20 16 dX12_init_397 (fun h9 => hF _ h9) (by decide) (by decide) kA_int (by decide) rfl (by decide) ?_
  refine am_let_elim (P := fun p221 => am_Ev Z MX12_init 1 399 [(0, .ref a0)] [.ref p221, .ref a0] (am_new g219 20 16) (am_rv r)) h fun p221 h => ?_
  refine am_let_elim (P := fun g222 => am_Ev Z MX12_init 1 399 [(0, .ref a0)] [.ref p221, .ref a0] g222 (am_rv r)) h fun g222 h => ?_
  obtain ⟨c223, h⟩ := am_gd_elim h
  obtain ⟨c225, h⟩ := am_gd_elim h
  refine ev_pfr dX12_init_399 (fun _ => am_sh c223) 54 (by decide) (by decide) kF_X12_147 rfl ⟨rfl, rfl⟩ (hZ _ _ (of_decide_eq_true c225)) (fun _ => rfl) (fun _ => rfl) (fun _ => rfl) ?_
  refine am_let_elim (P := fun g224 => am_Ev Z MX12_init 1 402 [(0, .ref a0)] [] g224 (am_rv r)) h fun g224 h => ?_
  refine ev_aload_n 0 dX12_init_402 rfl ?_
  refine ev_bipush dX12_init_403 rfl ?_
  refine ev_newa 20 120 dX12_init_405 (fun h9 => hF _ h9) (by decide) (by decide) kA_int (by decide) rfl (by decide) ?_
  refine am_let_elim (P := fun p226 => am_Ev Z MX12_init 1 407 [(0, .ref a0)] [.ref p226, .ref a0] (am_new g224 20 120) (am_rv r)) h fun p226 h => ?_
  refine am_let_elim (P := fun g227 => am_Ev Z MX12_init 1 407 [(0, .ref a0)] [.ref p226, .ref a0] g227 (am_rv r)) h fun g227 h => ?_
  obtain ⟨c228, h⟩ := am_gd_elim h
  obtain ⟨c230, h⟩ := am_gd_elim h
  refine ev_pfr dX12_init_407 (fun _ => am_sh c228) 55 (by decide) (by decide) kF_X12_150 rfl ⟨rfl, rfl⟩ (hZ _ _ (of_decide_eq_true c230)) (fun _ => rfl) (fun _ => rfl) (fun _ => rfl) ?_
  refine am_let_elim (P := fun g229 => am_Ev Z MX12_init 1 410 [(0, .ref a0)] [] g229 (am_rv r)) h fun g229 h => ?_
  refine ev_aload_n 0 dX12_init_410 rfl ?_
  refine ev_iconst dX12_init_411 rfl ?_
  obtain ⟨c231, h⟩ := am_gd_elim h
  refine ev_pfi dX12_init_412 (fun _ => am_sh c231) 59 (by decide) (by decide) kF_X12_153 rfl rfl rfl (fun _ => rfl) ?_
  refine am_let_elim (P := fun g232 => am_Ev Z MX12_init 1 415 [(0, .ref a0)] [] g232 (am_rv r)) h fun g232 h => ?_
  refine ev_aload_n 0 dX12_init_415 rfl ?_
  refine ev_bipush dX12_init_416 rfl ?_
  refine ev_newa 20 12 dX12_init_418 (fun h9 => hF _ h9) (by decide) (by decide) kA_int (by decide) rfl (by decide) ?_
  refine am_let_elim (P := fun p233 => am_Ev Z MX12_init 1 420 [(0, .ref a0)] [.ref p233, .ref a0] (am_new g232 20 12) (am_rv r)) h fun p233 h => ?_
  refine am_let_elim (P := fun g234 => am_Ev Z MX12_init 1 420 [(0, .ref a0)] [.ref p233, .ref a0] g234 (am_rv r)) h fun g234 h => ?_
  obtain ⟨c235, h⟩ := am_gd_elim h
  obtain ⟨c237, h⟩ := am_gd_elim h
  refine ev_pfr dX12_init_420 (fun _ => am_sh c235) 62 (by decide) (by decide) kF_X12_156 rfl ⟨rfl, rfl⟩ (hZ _ _ (of_decide_eq_true c237)) (fun _ => rfl) (fun _ => rfl) (fun _ => rfl) ?_
  refine am_let_elim (P := fun g236 => am_Ev Z MX12_init 1 423 [(0, .ref a0)] [] g236 (am_rv r)) h fun g236 h => ?_
  refine ev_aload_n 0 dX12_init_423 rfl ?_
  obtain ⟨c238, h⟩ := am_gd_elim h
  refine am_oc_elim h (fun p239 e240 h => ?_) (fun _ h => nomatch h)
  refine ev_gf (v := .ref p239) dX12_init_424 (fun _ => am_sh c238) 3 (by decide) (by decide) kF_X12_13 (fun _ => congrArg va_rf e240) ?_
  refine ev_iconst dX12_init_427 rfl ?_
  refine ev_iconst dX12_init_428 rfl ?_
  obtain ⟨c241, h⟩ := am_gd_elim h
  obtain ⟨c242, h⟩ := am_gd_elim h
  refine ev_iast dX12_init_429 (fun _ => am_shk c241) (am_in_vp c242) ?_
  refine am_let_elim (P := fun g243 => am_Ev Z MX12_init 1 430 [(0, .ref a0)] [] g243 (am_rv r)) h fun g243 h => ?_
  refine ev_iconst dX12_init_430 rfl ?_
  refine ev_istore_n (ls' := [(1, .int (0 : Int32)), (0, .ref a0)]) dX12_init_431 rfl (by decide) rfl ?_
  refine ev_sub [1, 0] rfl ?_
  exact tfX12_init_L432 hF hZ a0 _ _ _ _ h
theorem tX12_init {Z : am_Z} {fx : Nat} (hF : ∀ g : am_G, am_ok Z g → ∀ k, Z.2 (am_n g) k = none) (hZ : ∀ a k, fx ≤ a → Z.2 a k = none) {a0 : Nat} {g : am_G} {r : Unit × am_G} (h : fX12_init fx a0 g = some r) : am_Mt Z MX12_init 1 [.ref a0] g (am_rv r) := am_Mt.of rfl (Nat.le_of_ble_eq_true rfl) (eX12_init hF hZ _ _ _ h)
