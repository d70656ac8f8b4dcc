def fX12_readSum (a1 : Int32) (g : am_G) : Option (Unit × am_G) :=
  am_gd (am_in a1 120) <|
  am_let (am_si g 33 a1.toNatClampNeg (am_I g 0 23)) fun g2 =>
  if (am_I g2 0 19) = 0 then (
    am_bd (fX12_readExpression (0 : Int32) g2) fun u6 g7 =>
    am_gd (am_in (a1 + (1 : Int32)) 120) <|
    am_let (am_si g7 33 (a1 + (1 : Int32)).toNatClampNeg (am_I g7 0 23)) fun g10 =>
    some ((), g10))
  else (
    am_gd (am_in (a1 + (1 : Int32)) 120) <|
    am_let (am_si g2 33 (a1 + (1 : Int32)).toNatClampNeg (am_I g2 0 23)) fun g5 =>
    some ((), g5))
set_option maxRecDepth 100000 in
set_option maxHeartbeats 4000000 in
theorem eX12_readSum (a1 : Int32) (g : am_G) (r : Unit × am_G) (h : fX12_readSum a1 g = some r) : am_Ev zr MX12_readSum 7 0 [(0, .ref 0), (1, .int a1)] [] g (am_rv r) := by
  unfold fX12_readSum at h
  refine ev_aload_n 0 dX12_readSum_0 rfl ?_
  refine ev_gf (v := .ref 33) dX12_readSum_1 (fun h9 => (h9.2.1 0 _ rfl).2) 55 (by decide) (by decide) kF_X12_150 (fun h9 => congrArg va_rf (h9.2.2 0 55 33 rfl)) ?_
  refine ev_iload_n 1 dX12_readSum_4 rfl ?_
  refine ev_aload_n 0 dX12_readSum_5 rfl ?_
  refine ev_gf (v := .int (am_I g 0 23)) dX12_readSum_6 (fun h9 => (h9.2.1 0 _ rfl).2) 23 (by decide) (by decide) kF_X12_278 (fun _ => rfl) ?_
  obtain ⟨c1, h⟩ := am_gd_elim h
  refine ev_iast dX12_readSum_9 (fun h9 => (h9.2.1 33 _ rfl).2) (am_in_vp c1) ?_
  refine am_let_elim (P := fun g2 => am_Ev zr MX12_readSum 7 10 [(0, .ref 0), (1, .int a1)] [] g2 (am_rv r)) h fun g2 h => ?_
  refine ev_aload_n 0 dX12_readSum_10 rfl ?_
  refine ev_gf (v := .int (am_I g2 0 19)) dX12_readSum_11 (fun h9 => (h9.2.1 0 _ rfl).2) 19 (by decide) (by decide) kF_X12_239 (fun _ => rfl) ?_
  refine ev_if_ne 22 dX12_readSum_14 (by decide) (fun c3 => ?_) (fun c3 => ?_)
  · replace h := am_ifn c3 h
    refine ev_aload_n 0 dX12_readSum_22 rfl ?_
    refine ev_gf (v := .ref 33) dX12_readSum_23 (fun h9 => (h9.2.1 0 _ rfl).2) 55 (by decide) (by decide) kF_X12_150 (fun h9 => congrArg va_rf (h9.2.2 0 55 33 rfl)) ?_
    refine ev_iload_n 1 dX12_readSum_26 rfl ?_
    refine ev_iconst dX12_readSum_27 rfl ?_
    refine ev_iadd dX12_readSum_28 ?_
    refine ev_aload_n 0 dX12_readSum_29 rfl ?_
    refine ev_gf (v := .int (am_I g2 0 23)) dX12_readSum_30 (fun h9 => (h9.2.1 0 _ rfl).2) 23 (by decide) (by decide) kF_X12_278 (fun _ => rfl) ?_
    obtain ⟨c4, h⟩ := am_gd_elim h
    refine ev_iast dX12_readSum_33 (fun h9 => (h9.2.1 33 _ rfl).2) (am_in_vp c4) ?_
    refine am_let_elim (P := fun g5 => am_Ev zr MX12_readSum 7 34 [(0, .ref 0), (1, .int a1)] [] g5 (am_rv r)) h fun g5 h => ?_
    cases h
    exact ev_ret dX12_readSum_34 rfl
  · replace h := am_ifp c3 h
    refine ev_aload_n 0 dX12_readSum_17 rfl ?_
    refine ev_iconst dX12_readSum_18 rfl ?_
    obtain ⟨u6, g7, e8, h⟩ := am_bd_elim h
    refine ev_callVv [.int (0 : Int32)] [] dX12_readSum_19 (tX12_readExpression e8) (by decide) mo_X12_readExpression kM_X12_373 ki_X12_readExpression kv_X12_readExpression (fun h9 => (h9.2.1 0 _ rfl).2) (by decide) rfl (Nat.le_of_ble_eq_true rfl) ?_
    refine ev_aload_n 0 dX12_readSum_22 rfl ?_
    refine ev_gf (v := .ref 33) dX12_readSum_23 (fun h9 => (h9.2.1 0 _ rfl).2) 55 (by decide) (by decide) kF_X12_150 (fun h9 => congrArg va_rf (h9.2.2 0 55 33 rfl)) ?_
    refine ev_iload_n 1 dX12_readSum_26 rfl ?_
    refine ev_iconst dX12_readSum_27 rfl ?_
    refine ev_iadd dX12_readSum_28 ?_
    refine ev_aload_n 0 dX12_readSum_29 rfl ?_
    refine ev_gf (v := .int (am_I g7 0 23)) dX12_readSum_30 (fun h9 => (h9.2.1 0 _ rfl).2) 23 (by decide) (by decide) kF_X12_278 (fun _ => rfl) ?_
    obtain ⟨c9, h⟩ := am_gd_elim h
    refine ev_iast dX12_readSum_33 (fun h9 => (h9.2.1 33 _ rfl).2) (am_in_vp c9) ?_
    refine am_let_elim (P := fun g10 => am_Ev zr MX12_readSum 7 34 [(0, .ref 0), (1, .int a1)] [] g10 (am_rv r)) h fun g10 h => ?_
    cases h
    exact ev_ret dX12_readSum_34 rfl
theorem tX12_readSum {a1 : Int32} {g : am_G} {r : Unit × am_G} (h : fX12_readSum a1 g = some r) : am_Mt zr MX12_readSum 7 [.ref 0, .int a1] g (am_rv r) := am_Mt.of rfl (Nat.le_of_ble_eq_true rfl) (eX12_readSum _ _ _ h)
def fX12_readBehind (a1 : Int32) (a2 : Int64) (g : am_G) : Option (Unit × am_G) :=
  if (am_I g 0 19) = 0 then (
    am_bd (fX12_isWord a2 g) fun v5 g6 =>
    am_bd (fX12_must v5 g6) fun u8 g9 =>
    am_bd (fX12_readSum a1 g9) fun u11 g12 =>
    some ((), g12))
  else (
    am_bd (fX12_readSum a1 g) fun u2 g3 =>
    some ((), g3))
set_option maxRecDepth 100000 in
set_option maxHeartbeats 4000000 in
theorem eX12_readBehind (a1 : Int32) (a2 : Int64) (g : am_G) (r : Unit × am_G) (h : fX12_readBehind a1 a2 g = some r) : am_Ev zr MX12_readBehind 8 0 [(0, .ref 0), (1, .int a1), (2, .long a2)] [] g (am_rv r) := by
  unfold fX12_readBehind at h
  refine ev_aload_n 0 dX12_readBehind_0 rfl ?_
  refine ev_gf (v := .int (am_I g 0 19)) dX12_readBehind_1 (fun h9 => (h9.2.1 0 _ rfl).2) 19 (by decide) (by decide) kF_X12_239 (fun _ => rfl) ?_
  refine ev_if_ne 16 dX12_readBehind_4 (by decide) (fun c1 => ?_) (fun c1 => ?_)
  · replace h := am_ifn c1 h
    refine ev_aload_n 0 dX12_readBehind_16 rfl ?_
    refine ev_iload_n 1 dX12_readBehind_17 rfl ?_
    obtain ⟨u2, g3, e4, h⟩ := am_bd_elim h
    refine ev_callVv [.int a1] [] dX12_readBehind_18 (tX12_readSum e4) (by decide) mo_X12_readSum kM_X12_497 ki_X12_readSum kv_X12_readSum (fun h9 => (h9.2.1 0 _ rfl).2) (by decide) rfl (Nat.le_of_ble_eq_true rfl) ?_
    cases h
    exact ev_ret dX12_readBehind_21 rfl
  · replace h := am_ifp c1 h
    refine ev_aload_n 0 dX12_readBehind_7 rfl ?_
    refine ev_aload_n 0 dX12_readBehind_8 rfl ?_
    refine ev_lload_n 2 dX12_readBehind_9 rfl ?_
    obtain ⟨v5, g6, e7, h⟩ := am_bd_elim h
    refine ev_callVi (v := v5) [.long a2] [.ref 0] dX12_readBehind_10 (tX12_isWord e7) (by decide) mo_X12_isWord kM_X12_299 ki_X12_isWord kv_X12_isWord (fun h9 => (h9.2.1 0 _ rfl).2) (by decide) rfl (Nat.le_of_ble_eq_true rfl) ?_
    obtain ⟨u8, g9, e10, h⟩ := am_bd_elim h
    refine ev_callVv [.int v5] [] dX12_readBehind_13 (tX12_must e10) (by decide) mo_X12_must kM_X12_274 ki_X12_must kv_X12_must (fun h9 => (h9.2.1 0 _ rfl).2) (by decide) rfl (Nat.le_of_ble_eq_true rfl) ?_
    refine ev_aload_n 0 dX12_readBehind_16 rfl ?_
    refine ev_iload_n 1 dX12_readBehind_17 rfl ?_
    obtain ⟨u11, g12, e13, h⟩ := am_bd_elim h
    refine ev_callVv [.int a1] [] dX12_readBehind_18 (tX12_readSum e13) (by decide) mo_X12_readSum kM_X12_497 ki_X12_readSum kv_X12_readSum (fun h9 => (h9.2.1 0 _ rfl).2) (by decide) rfl (Nat.le_of_ble_eq_true rfl) ?_
    cases h
    exact ev_ret dX12_readBehind_21 rfl
theorem tX12_readBehind {a1 : Int32} {a2 : Int64} {g : am_G} {r : Unit × am_G} (h : fX12_readBehind a1 a2 g = some r) : am_Mt zr MX12_readBehind 8 [.ref 0, .int a1, .long a2] g (am_rv r) := am_Mt.of rfl (Nat.le_of_ble_eq_true rfl) (eX12_readBehind _ _ _ _ h)
def fX12_readTold (g : am_G) : Option (Unit × am_G) :=
  am_bd (fX12_isWord (19513 : Int64) g) fun v1 g2 =>
  am_jn (fun (x5 : Int32) (g6 : am_G) =>
    am_jn (fun (x9 : Int32) (g10 : am_G) =>
      am_bd (fX12_must x9 g10) fun u12 g13 =>
      if (am_I g13 0 19) = 0 then (
        am_let ((10 : Int32) * (am_I g13 0 21)) fun x16 =>
        am_let (am_si g13 0 21 ((am_I g13 0 21) + (1 : Int32))) fun g17 =>
        am_gd (am_in x16 120) <|
        am_let (am_si g17 33 x16.toNatClampNeg x5) fun g19 =>
        am_jn (fun  (g21 : am_G) =>
          am_gd (am_in (x16 + (9 : Int32)) 120) <|
          am_let (am_si g21 33 (x16 + (9 : Int32)).toNatClampNeg (1 : Int32)) fun g24 =>
          am_jn (fun  (g26 : am_G) =>
            am_gd (am_in (x16 + (7 : Int32)) 120) <|
            am_let (am_si g26 33 (x16 + (7 : Int32)).toNatClampNeg (am_I g26 0 23)) fun g29 =>
            if (am_I g29 0 19) = 0 then (
              am_bd (fX12_isWord (294 : Int64) g29) fun v33 g34 =>
              if v33 = 0 then (
                am_gd (am_in (x16 + (8 : Int32)) 120) <|
                am_let (am_si g34 33 (x16 + (8 : Int32)).toNatClampNeg (am_I g34 0 23)) fun g38 =>
                some ((), g38))
              else (
                am_bd (fX12_next g34) fun u39 g40 =>
                am_bd (fX12_readExpression (1 : Int32) g40) fun u42 g43 =>
                am_gd (am_in (x16 + (8 : Int32)) 120) <|
                am_let (am_si g43 33 (x16 + (8 : Int32)).toNatClampNeg (am_I g43 0 23)) fun g46 =>
                some ((), g46)))
            else (
              am_gd (am_in (x16 + (8 : Int32)) 120) <|
              am_let (am_si g29 33 (x16 + (8 : Int32)).toNatClampNeg (am_I g29 0 23)) fun g32 =>
              some ((), g32))) fun j27 =>
          if (am_I g24 0 19) = 0 then (
            am_bd (fX12_isWord (21279923 : Int64) g24) fun v47 g48 =>
            if v47 = 0 then (
              j27 g48)
            else (
              am_bd (fX12_next g48) fun u51 g52 =>
              am_bd (fX12_number (1 : Int64) (20 : Int64) g52) fun v54 g55 =>
              am_gd (am_in (x16 + (9 : Int32)) 120) <|
              am_let (am_si g55 33 (x16 + (9 : Int32)).toNatClampNeg v54) fun g58 =>
              j27 g58))
          else (
            j27 g24)) fun j22 =>
        if x5 = 0 then (
          am_bd (fX12_readSum (x16 + (1 : Int32)) g19) fun u59 g60 =>
          am_bd (fX12_readBehind (x16 + (3 : Int32)) (52 : Int64) g60) fun u62 g63 =>
          am_bd (fX12_readBehind (x16 + (5 : Int32)) (409252 : Int64) g63) fun u65 g66 =>
          j22 g66)
        else (
          j22 g19))
      else (
        some ((), g13))) fun j11 =>
    am_jn (fun  (g68 : am_G) =>
      j11 (0 : Int32) g68) fun j69 =>
    if x5 = (-1 : Int32) then (
      j69 g6)
    else (
      if (12 : Int32) ≤ (am_I g6 0 21) then (
        j69 g6)
      else (
        j11 (1 : Int32) g6))) fun j7 =>
  if v1 = 0 then (
    am_bd (fX12_isWord (132846 : Int64) g2) fun v71 g72 =>
    if v71 = 0 then (
      j7 (-1 : Int32) g72)
    else (
      j7 (1 : Int32) g72))
  else (
    j7 (0 : Int32) g2)
set_option maxRecDepth 100000 in
set_option maxHeartbeats 4000000 in
theorem eX12_readTold (g : am_G) (r : Unit × am_G) (h : fX12_readTold g = some r) : am_Ev zr MX12_readTold 9 0 [(0, .ref 0)] [] g (am_rv r) := by
  unfold fX12_readTold at h
  refine ev_aload_n 0 dX12_readTold_0 rfl ?_
  refine ev_ldc2 dX12_readTold_1 kL_X12_500 ?_
  obtain ⟨v1, g2, e3, h⟩ := am_bd_elim h
  refine ev_callVi (v := v1) [.long (19513 : Int64)] [] dX12_readTold_4 (tX12_isWord e3) (by decide) mo_X12_isWord kM_X12_299 ki_X12_isWord kv_X12_isWord (fun h9 => (h9.2.1 0 _ rfl).2) (by decide) rfl (Nat.le_of_ble_eq_true rfl) ?_
  refine am_jn_elim (fun q9 => ∀ (x5 : Int32) (g6 : am_G) (r : Unit × am_G), q9 x5 g6 = some r → am_Ev zr MX12_readTold 9 29 [(0, .ref 0)] [.int x5] g6 (am_rv r)) h ?_ (fun j7 hj7 h => ?_)
  · intro x5 g6 r h
    try dsimp only at h
    refine ev_istore_n (ls' := [(1, .int x5), (0, .ref 0)]) dX12_readTold_29 rfl (by decide) rfl ?_
    refine ev_aload_n 1 dX12_readTold_30 rfl ?_
    refine ev_iload_n 0 dX12_readTold_31 rfl ?_
    refine ev_iconst dX12_readTold_32 rfl ?_
    refine am_jn_elim (fun q9 => ∀ (x9 : Int32) (g10 : am_G) (r : Unit × am_G), q9 x9 g10 = some r → am_Ev zr MX12_readTold 9 50 [(0, .ref 0), (1, .int x5)] [.int x9, .ref 0] g10 (am_rv r)) h ?_ (fun j11 hj11 h => ?_)
    · intro x9 g10 r h
      try dsimp only at h
      obtain ⟨u12, g13, e14, h⟩ := am_bd_elim h
      refine ev_callVv [.int x9] [] dX12_readTold_50 (tX12_must e14) (by decide) mo_X12_must kM_X12_274 ki_X12_must kv_X12_must (fun h9 => (h9.2.1 0 _ rfl).2) (by decide) rfl (Nat.le_of_ble_eq_true rfl) ?_
      refine ev_aload_n 0 dX12_readTold_53 rfl ?_
      refine ev_gf (v := .int (am_I g13 0 19)) dX12_readTold_54 (fun h9 => (h9.2.1 0 _ rfl).2) 19 (by decide) (by decide) kF_X12_239 (fun _ => rfl) ?_
      refine ev_if_eq 61 dX12_readTold_57 (by decide) (fun c15 => ?_) (fun c15 => ?_)
      · replace h := am_ifp c15 h
        refine ev_bipush dX12_readTold_61 rfl ?_
        refine ev_aload_n 0 dX12_readTold_63 rfl ?_
        refine ev_gf (v := .int (am_I g13 0 21)) dX12_readTold_64 (fun h9 => (h9.2.1 0 _ rfl).2) 21 (by decide) (by decide) kF_X12_370 (fun _ => rfl) ?_
        refine ev_imul dX12_readTold_67 ?_
        refine am_let_elim (P := fun x16 => am_Ev zr MX12_readTold 9 68 [(0, .ref 0), (1, .int x5)] [.int x16] g13 (am_rv r)) h fun x16 h => ?_
        refine ev_istore_n (ls' := [(2, .int x16), (0, .ref 0), (1, .int x5)]) dX12_readTold_68 rfl (by decide) rfl ?_
        refine ev_aload_n 1 dX12_readTold_69 rfl ?_
        refine ev_dup dX12_readTold_70 rfl ?_
        refine ev_gf (v := .int (am_I g13 0 21)) dX12_readTold_71 (fun h9 => (h9.2.1 0 _ rfl).2) 21 (by decide) (by decide) kF_X12_370 (fun _ => rfl) ?_
        refine ev_iconst dX12_readTold_74 rfl ?_
        refine ev_iadd dX12_readTold_75 ?_
        refine ev_pfi dX12_readTold_76 (fun h9 => (h9.2.1 0 _ rfl).2) 21 (by decide) (by decide) kF_X12_370 rfl rfl rfl (fun _ => rfl) ?_
        refine am_let_elim (P := fun g17 => am_Ev zr MX12_readTold 9 79 [(2, .int x16), (0, .ref 0), (1, .int x5)] [] g17 (am_rv r)) h fun g17 h => ?_
        refine ev_aload_n 1 dX12_readTold_79 rfl ?_
        refine ev_gf (v := .ref 33) dX12_readTold_80 (fun h9 => (h9.2.1 0 _ rfl).2) 55 (by decide) (by decide) kF_X12_150 (fun h9 => congrArg va_rf (h9.2.2 0 55 33 rfl)) ?_
        refine ev_iload_n 0 dX12_readTold_83 rfl ?_
        refine ev_iload_n 2 dX12_readTold_84 rfl ?_
        obtain ⟨c18, h⟩ := am_gd_elim h
        refine ev_iast dX12_readTold_85 (fun h9 => (h9.2.1 33 _ rfl).2) (am_in_vp c18) ?_
        refine am_let_elim (P := fun g19 => am_Ev zr MX12_readTold 9 86 [(2, .int x16), (0, .ref 0), (1, .int x5)] [] g19 (am_rv r)) h fun g19 h => ?_
        refine ev_iload_n 2 dX12_readTold_86 rfl ?_
        refine am_jn_elim (fun q9 => ∀  (g21 : am_G) (r : Unit × am_G), q9  g21 = some r → am_Ev zr MX12_readTold 9 117 [(0, .ref 0), (2, .int x16)] [] g21 (am_rv r)) h ?_ (fun j22 hj22 h => ?_)
        · intro  g21 r h
          try dsimp only at h
          refine ev_aload_n 0 dX12_readTold_117 rfl ?_
          refine ev_gf (v := .ref 33) dX12_readTold_118 (fun h9 => (h9.2.1 0 _ rfl).2) 55 (by decide) (by decide) kF_X12_150 (fun h9 => congrArg va_rf (h9.2.2 0 55 33 rfl)) ?_
          refine ev_iload_n 1 dX12_readTold_121 rfl ?_
          refine ev_bipush dX12_readTold_122 rfl ?_
          refine ev_iadd dX12_readTold_124 ?_
          refine ev_iconst dX12_readTold_125 rfl ?_
          obtain ⟨c23, h⟩ := am_gd_elim h
          refine ev_iast dX12_readTold_126 (fun h9 => (h9.2.1 33 _ rfl).2) (am_in_vp c23) ?_
          refine am_let_elim (P := fun g24 => am_Ev zr MX12_readTold 9 127 [(0, .ref 0), (2, .int x16)] [] g24 (am_rv r)) h fun g24 h => ?_
          refine ev_aload_n 0 dX12_readTold_127 rfl ?_
          refine ev_gf (v := .int (am_I g24 0 19)) dX12_readTold_128 (fun h9 => (h9.2.1 0 _ rfl).2) 19 (by decide) (by decide) kF_X12_239 (fun _ => rfl) ?_
          refine am_jn_elim (fun q9 => ∀  (g26 : am_G) (r : Unit × am_G), q9  g26 = some r → am_Ev zr MX12_readTold 9 165 [(0, .ref 0), (2, .int x16)] [] g26 (am_rv r)) h ?_ (fun j27 hj27 h => ?_)
          · intro  g26 r h
            try dsimp only at h
            refine ev_aload_n 0 dX12_readTold_165 rfl ?_
            refine ev_gf (v := .ref 33) dX12_readTold_166 (fun h9 => (h9.2.1 0 _ rfl).2) 55 (by decide) (by decide) kF_X12_150 (fun h9 => congrArg va_rf (h9.2.2 0 55 33 rfl)) ?_
            refine ev_iload_n 1 dX12_readTold_169 rfl ?_
            refine ev_bipush dX12_readTold_170 rfl ?_
            refine ev_iadd dX12_readTold_172 ?_
            refine ev_aload_n 0 dX12_readTold_173 rfl ?_
            refine ev_gf (v := .int (am_I g26 0 23)) dX12_readTold_174 (fun h9 => (h9.2.1 0 _ rfl).2) 23 (by decide) (by decide) kF_X12_278 (fun _ => rfl) ?_
            obtain ⟨c28, h⟩ := am_gd_elim h
            refine ev_iast dX12_readTold_177 (fun h9 => (h9.2.1 33 _ rfl).2) (am_in_vp c28) ?_
            refine am_let_elim (P := fun g29 => am_Ev zr MX12_readTold 9 178 [(0, .ref 0), (2, .int x16)] [] g29 (am_rv r)) h fun g29 h => ?_
            refine ev_aload_n 0 dX12_readTold_178 rfl ?_
            refine ev_gf (v := .int (am_I g29 0 19)) dX12_readTold_179 (fun h9 => (h9.2.1 0 _ rfl).2) 19 (by decide) (by decide) kF_X12_239 (fun _ => rfl) ?_
            refine ev_if_ne 204 dX12_readTold_182 (by decide) (fun c30 => ?_) (fun c30 => ?_)
            · replace h := am_ifn c30 h
              refine ev_aload_n 0 dX12_readTold_204 rfl ?_
              refine ev_gf (v := .ref 33) dX12_readTold_205 (fun h9 => (h9.2.1 0 _ rfl).2) 55 (by decide) (by decide) kF_X12_150 (fun h9 => congrArg va_rf (h9.2.2 0 55 33 rfl)) ?_
              refine ev_iload_n 1 dX12_readTold_208 rfl ?_
              refine ev_bipush dX12_readTold_209 rfl ?_
              refine ev_iadd dX12_readTold_211 ?_
              refine ev_aload_n 0 dX12_readTold_212 rfl ?_
              refine ev_gf (v := .int (am_I g29 0 23)) dX12_readTold_213 (fun h9 => (h9.2.1 0 _ rfl).2) 23 (by decide) (by decide) kF_X12_278 (fun _ => rfl) ?_
              obtain ⟨c31, h⟩ := am_gd_elim h
              refine ev_iast dX12_readTold_216 (fun h9 => (h9.2.1 33 _ rfl).2) (am_in_vp c31) ?_
              refine am_let_elim (P := fun g32 => am_Ev zr MX12_readTold 9 217 [(0, .ref 0), (2, .int x16)] [] g32 (am_rv r)) h fun g32 h => ?_
              cases h
              exact ev_ret dX12_readTold_217 rfl
            · replace h := am_ifp c30 h
              refine ev_aload_n 0 dX12_readTold_185 rfl ?_
              refine ev_ldc2 dX12_readTold_186 kL_X12_376 ?_
              obtain ⟨v33, g34, e35, h⟩ := am_bd_elim h
              refine ev_callVi (v := v33) [.long (294 : Int64)] [] dX12_readTold_189 (tX12_isWord e35) (by decide) mo_X12_isWord kM_X12_299 ki_X12_isWord kv_X12_isWord (fun h9 => (h9.2.1 0 _ rfl).2) (by decide) rfl (Nat.le_of_ble_eq_true rfl) ?_
              refine ev_if_eq 204 dX12_readTold_192 (by decide) (fun c36 => ?_) (fun c36 => ?_)
              · replace h := am_ifp c36 h
                refine ev_aload_n 0 dX12_readTold_204 rfl ?_
                refine ev_gf (v := .ref 33) dX12_readTold_205 (fun h9 => (h9.2.1 0 _ rfl).2) 55 (by decide) (by decide) kF_X12_150 (fun h9 => congrArg va_rf (h9.2.2 0 55 33 rfl)) ?_
                refine ev_iload_n 1 dX12_readTold_208 rfl ?_
                refine ev_bipush dX12_readTold_209 rfl ?_
                refine ev_iadd dX12_readTold_211 ?_
                refine ev_aload_n 0 dX12_readTold_212 rfl ?_
                refine ev_gf (v := .int (am_I g34 0 23)) dX12_readTold_213 (fun h9 => (h9.2.1 0 _ rfl).2) 23 (by decide) (by decide) kF_X12_278 (fun _ => rfl) ?_
                obtain ⟨c37, h⟩ := am_gd_elim h
                refine ev_iast dX12_readTold_216 (fun h9 => (h9.2.1 33 _ rfl).2) (am_in_vp c37) ?_
                refine am_let_elim (P := fun g38 => am_Ev zr MX12_readTold 9 217 [(0, .ref 0), (2, .int x16)] [] g38 (am_rv r)) h fun g38 h => ?_
                cases h
                exact ev_ret dX12_readTold_217 rfl
              · replace h := am_ifn c36 h
                refine ev_aload_n 0 dX12_readTold_195 rfl ?_
                obtain ⟨u39, g40, e41, h⟩ := am_bd_elim h
                refine ev_callVv [] [] dX12_readTold_196 (tX12_next e41) (by decide) mo_X12_next kM_X12_243 ki_X12_next kv_X12_next (fun h9 => (h9.2.1 0 _ rfl).2) (by decide) rfl (Nat.le_of_ble_eq_true rfl) ?_
                refine ev_aload_n 0 dX12_readTold_199 rfl ?_
                refine ev_iconst dX12_readTold_200 rfl ?_
                obtain ⟨u42, g43, e44, h⟩ := am_bd_elim h
                refine ev_callVv [.int (1 : Int32)] [] dX12_readTold_201 (tX12_readExpression e44) (by decide) mo_X12_readExpression kM_X12_373 ki_X12_readExpression kv_X12_readExpression (fun h9 => (h9.2.1 0 _ rfl).2) (by decide) rfl (Nat.le_of_ble_eq_true rfl) ?_
                refine ev_aload_n 0 dX12_readTold_204 rfl ?_
                refine ev_gf (v := .ref 33) dX12_readTold_205 (fun h9 => (h9.2.1 0 _ rfl).2) 55 (by decide) (by decide) kF_X12_150 (fun h9 => congrArg va_rf (h9.2.2 0 55 33 rfl)) ?_
                refine ev_iload_n 1 dX12_readTold_208 rfl ?_
                refine ev_bipush dX12_readTold_209 rfl ?_
                refine ev_iadd dX12_readTold_211 ?_
                refine ev_aload_n 0 dX12_readTold_212 rfl ?_
                refine ev_gf (v := .int (am_I g43 0 23)) dX12_readTold_213 (fun h9 => (h9.2.1 0 _ rfl).2) 23 (by decide) (by decide) kF_X12_278 (fun _ => rfl) ?_
                obtain ⟨c45, h⟩ := am_gd_elim h
                refine ev_iast dX12_readTold_216 (fun h9 => (h9.2.1 33 _ rfl).2) (am_in_vp c45) ?_
                refine am_let_elim (P := fun g46 => am_Ev zr MX12_readTold 9 217 [(0, .ref 0), (2, .int x16)] [] g46 (am_rv r)) h fun g46 h => ?_
                cases h
                exact ev_ret dX12_readTold_217 rfl
          · refine ev_if_ne 165 dX12_readTold_131 (by decide) (fun c25 => ?_) (fun c25 => ?_)
            · replace h := am_ifn c25 h
              refine ev_sub [0, 1] rfl ?_
              exact hj27  _ _ h
            · replace h := am_ifp c25 h
              refine ev_aload_n 0 dX12_readTold_134 rfl ?_
              refine ev_ldc2 dX12_readTold_135 kL_X12_510 ?_
              obtain ⟨v47, g48, e49, h⟩ := am_bd_elim h
              refine ev_callVi (v := v47) [.long (21279923 : Int64)] [] dX12_readTold_138 (tX12_isWord e49) (by decide) mo_X12_isWord kM_X12_299 ki_X12_isWord kv_X12_isWord (fun h9 => (h9.2.1 0 _ rfl).2) (by decide) rfl (Nat.le_of_ble_eq_true rfl) ?_
              refine ev_if_eq 165 dX12_readTold_141 (by decide) (fun c50 => ?_) (fun c50 => ?_)
              · replace h := am_ifp c50 h
                refine ev_sub [0, 1] rfl ?_
                exact hj27  _ _ h
              · replace h := am_ifn c50 h
                refine ev_aload_n 0 dX12_readTold_144 rfl ?_
                obtain ⟨u51, g52, e53, h⟩ := am_bd_elim h
                refine ev_callVv [] [] dX12_readTold_145 (tX12_next e53) (by decide) mo_X12_next kM_X12_243 ki_X12_next kv_X12_next (fun h9 => (h9.2.1 0 _ rfl).2) (by decide) rfl (Nat.le_of_ble_eq_true rfl) ?_
                refine ev_aload_n 0 dX12_readTold_148 rfl ?_
                refine ev_gf (v := .ref 33) dX12_readTold_149 (fun h9 => (h9.2.1 0 _ rfl).2) 55 (by decide) (by decide) kF_X12_150 (fun h9 => congrArg va_rf (h9.2.2 0 55 33 rfl)) ?_
                refine ev_iload_n 1 dX12_readTold_152 rfl ?_
                refine ev_bipush dX12_readTold_153 rfl ?_
                refine ev_iadd dX12_readTold_155 ?_
                refine ev_aload_n 0 dX12_readTold_156 rfl ?_
                refine ev_lconst dX12_readTold_157 rfl ?_
                refine ev_ldc2 dX12_readTold_158 kL_X12_291 ?_
                obtain ⟨v54, g55, e56, h⟩ := am_bd_elim h
                refine ev_callVi (v := v54) [.long (1 : Int64), .long (20 : Int64)] [.int (x16 + (9 : Int32)), .ref 33] dX12_readTold_161 (tX12_number e56) (by decide) mo_X12_number kM_X12_334 ki_X12_number kv_X12_number (fun h9 => (h9.2.1 0 _ rfl).2) (by decide) rfl (Nat.le_of_ble_eq_true rfl) ?_
                obtain ⟨c57, h⟩ := am_gd_elim h
                refine ev_iast dX12_readTold_164 (fun h9 => (h9.2.1 33 _ rfl).2) (am_in_vp c57) ?_
                refine am_let_elim (P := fun g58 => am_Ev zr MX12_readTold 9 165 [(0, .ref 0), (2, .int x16)] [] g58 (am_rv r)) h fun g58 h => ?_
                refine ev_sub [0, 1] rfl ?_
                exact hj27  _ _ h
        · refine ev_if_ne 117 dX12_readTold_87 (by decide) (fun c20 => ?_) (fun c20 => ?_)
          · replace h := am_ifn c20 h
            refine ev_sub [1, 0] rfl ?_
            exact hj22  _ _ h
          · replace h := am_ifp c20 h
            refine ev_aload_n 1 dX12_readTold_90 rfl ?_
            refine ev_iload_n 0 dX12_readTold_91 rfl ?_
            refine ev_iconst dX12_readTold_92 rfl ?_
            refine ev_iadd dX12_readTold_93 ?_
            obtain ⟨u59, g60, e61, h⟩ := am_bd_elim h
            refine ev_callVv [.int (x16 + (1 : Int32))] [] dX12_readTold_94 (tX12_readSum e61) (by decide) mo_X12_readSum kM_X12_497 ki_X12_readSum kv_X12_readSum (fun h9 => (h9.2.1 0 _ rfl).2) (by decide) rfl (Nat.le_of_ble_eq_true rfl) ?_
            refine ev_aload_n 1 dX12_readTold_97 rfl ?_
            refine ev_iload_n 0 dX12_readTold_98 rfl ?_
            refine ev_iconst dX12_readTold_99 rfl ?_
            refine ev_iadd dX12_readTold_100 ?_
            refine ev_ldc2 dX12_readTold_101 kL_X12_504 ?_
            obtain ⟨u62, g63, e64, h⟩ := am_bd_elim h
            refine ev_callVv [.int (x16 + (3 : Int32)), .long (52 : Int64)] [] dX12_readTold_104 (tX12_readBehind e64) (by decide) mo_X12_readBehind kM_X12_506 ki_X12_readBehind kv_X12_readBehind (fun h9 => (h9.2.1 0 _ rfl).2) (by decide) rfl (Nat.le_of_ble_eq_true rfl) ?_
            refine ev_aload_n 1 dX12_readTold_107 rfl ?_
            refine ev_iload_n 0 dX12_readTold_108 rfl ?_
            refine ev_iconst dX12_readTold_109 rfl ?_
            refine ev_iadd dX12_readTold_110 ?_
            refine ev_ldc2 dX12_readTold_111 kL_X12_63 ?_
            obtain ⟨u65, g66, e67, h⟩ := am_bd_elim h
            refine ev_callVv [.int (x16 + (5 : Int32)), .long (409252 : Int64)] [] dX12_readTold_114 (tX12_readBehind e67) (by decide) mo_X12_readBehind kM_X12_506 ki_X12_readBehind kv_X12_readBehind (fun h9 => (h9.2.1 0 _ rfl).2) (by decide) rfl (Nat.le_of_ble_eq_true rfl) ?_
            refine ev_sub [1, 0] rfl ?_
            exact hj22  _ _ h
      · replace h := am_ifn c15 h
        cases h
        exact ev_ret dX12_readTold_60 rfl
    · refine am_jn_elim (fun q9 => ∀  (g68 : am_G) (r : Unit × am_G), q9  g68 = some r → am_Ev zr MX12_readTold 9 49 [(0, .ref 0), (1, .int x5)] [.ref 0] g68 (am_rv r)) h ?_ (fun j69 hj69 h => ?_)
      · intro  g68 r h
        try dsimp only at h
        refine ev_iconst dX12_readTold_49 rfl ?_
        refine ev_sub [0, 1] rfl ?_
        exact hj11 _ _ _ h
      · refine ev_icmp_eq 49 dX12_readTold_33 (by decide) (fun c8 => ?_) (fun c8 => ?_)
        · replace h := am_ifp c8 h
          refine ev_sub [1, 0] rfl ?_
          exact hj69  _ _ h
        · replace h := am_ifn c8 h
          refine ev_aload_n 1 dX12_readTold_36 rfl ?_
          refine ev_gf (v := .int (am_I g6 0 21)) dX12_readTold_37 (fun h9 => (h9.2.1 0 _ rfl).2) 21 (by decide) (by decide) kF_X12_370 (fun _ => rfl) ?_
          refine ev_bipush dX12_readTold_40 rfl ?_
          refine ev_icmp_ge 49 dX12_readTold_42 (by decide) (fun c70 => ?_) (fun c70 => ?_)
          · replace h := am_ifp c70 h
            refine ev_sub [1, 0] rfl ?_
            exact hj69  _ _ h
          · replace h := am_ifn c70 h
            refine ev_iconst dX12_readTold_45 rfl ?_
            refine ev_goto 50 dX12_readTold_46 (by decide) ?_
            refine ev_sub [1, 0] rfl ?_
            exact hj11 _ _ _ h
  · refine ev_if_eq 14 dX12_readTold_7 (by decide) (fun c4 => ?_) (fun c4 => ?_)
    · replace h := am_ifp c4 h
      refine ev_aload_n 0 dX12_readTold_14 rfl ?_
      refine ev_ldc2 dX12_readTold_15 kL_X12_502 ?_
      obtain ⟨v71, g72, e73, h⟩ := am_bd_elim h
      refine ev_callVi (v := v71) [.long (132846 : Int64)] [] dX12_readTold_18 (tX12_isWord e73) (by decide) mo_X12_isWord kM_X12_299 ki_X12_isWord kv_X12_isWord (fun h9 => (h9.2.1 0 _ rfl).2) (by decide) rfl (Nat.le_of_ble_eq_true rfl) ?_
      refine ev_if_eq 28 dX12_readTold_21 (by decide) (fun c74 => ?_) (fun c74 => ?_)
      · replace h := am_ifp c74 h
        refine ev_iconst dX12_readTold_28 rfl ?_
        refine ev_sub [0] rfl ?_
        exact hj7 _ _ _ h
      · replace h := am_ifn c74 h
        refine ev_iconst dX12_readTold_24 rfl ?_
        refine ev_goto 29 dX12_readTold_25 (by decide) ?_
        refine ev_sub [0] rfl ?_
        exact hj7 _ _ _ h
    · replace h := am_ifn c4 h
      refine ev_iconst dX12_readTold_10 rfl ?_
      refine ev_goto 29 dX12_readTold_11 (by decide) ?_
      refine ev_sub [0] rfl ?_
      exact hj7 _ _ _ h
theorem tX12_readTold {g : am_G} {r : Unit × am_G} (h : fX12_readTold g = some r) : am_Mt zr MX12_readTold 9 [.ref 0] g (am_rv r) := am_Mt.of rfl (Nat.le_of_ble_eq_true rfl) (eX12_readTold _ _ h)
def fX12_sumOf (a1 : Int32) (g : am_G) : Option (Int64 × am_G) :=
  if (am_I g 0 60) = 0 then (
    am_let (am_si g 0 20 (1 : Int32)) fun g2 =>
    am_gd (am_in a1 120) <|
    am_gd (am_in (a1 + (1 : Int32)) 120) <|
    am_bd (fX12_reckonAll (am_I g2 33 a1.toNatClampNeg) (am_I g2 33 (a1 + (1 : Int32)).toNatClampNeg) g2) fun u5 g6 =>
    am_let (am_si g6 0 20 (0 : Int32)) fun g8 =>
    am_gd (am_zb (am_I g8 0 38)) <|
    am_let (am_si g8 0 60 (am_I g8 0 38)) fun g9 =>
    some (am_L g9 0 39, g9))
  else (
    some ((0 : Int64), g))
set_option maxRecDepth 100000 in
set_option maxHeartbeats 4000000 in
theorem eX12_sumOf (a1 : Int32) (g : am_G) (r : Int64 × am_G) (h : fX12_sumOf a1 g = some r) : am_Ev zr MX12_sumOf 3 0 [(0, .ref 0), (1, .int a1)] [] g (am_rl r) := by
  unfold fX12_sumOf at h
  refine ev_aload_n 0 dX12_sumOf_0 rfl ?_
  refine ev_gf (v := .int (am_I g 0 60)) dX12_sumOf_1 (fun h9 => (h9.2.1 0 _ rfl).2) 60 (by decide) (by decide) kF_X12_512 (fun _ => rfl) ?_
  refine ev_if_eq 9 dX12_sumOf_4 (by decide) (fun c1 => ?_) (fun c1 => ?_)
  · replace h := am_ifp c1 h
    refine ev_aload_n 0 dX12_sumOf_9 rfl ?_
    refine ev_iconst dX12_sumOf_10 rfl ?_
    refine ev_pfi dX12_sumOf_11 (fun h9 => (h9.2.1 0 _ rfl).2) 20 (by decide) (by decide) kF_X12_318 rfl rfl rfl (fun _ => rfl) ?_
    refine am_let_elim (P := fun g2 => am_Ev zr MX12_sumOf 3 14 [(0, .ref 0), (1, .int a1)] [] g2 (am_rl r)) h fun g2 h => ?_
    refine ev_aload_n 0 dX12_sumOf_14 rfl ?_
    refine ev_aload_n 0 dX12_sumOf_15 rfl ?_
    refine ev_gf (v := .ref 33) dX12_sumOf_16 (fun h9 => (h9.2.1 0 _ rfl).2) 55 (by decide) (by decide) kF_X12_150 (fun h9 => congrArg va_rf (h9.2.2 0 55 33 rfl)) ?_
    refine ev_iload_n 1 dX12_sumOf_19 rfl ?_
    obtain ⟨c3, h⟩ := am_gd_elim h
    refine ev_iald dX12_sumOf_20 (fun h9 => (h9.2.1 33 _ rfl).2) (am_in_vp c3) ?_
    refine ev_aload_n 0 dX12_sumOf_21 rfl ?_
    refine ev_gf (v := .ref 33) dX12_sumOf_22 (fun h9 => (h9.2.1 0 _ rfl).2) 55 (by decide) (by decide) kF_X12_150 (fun h9 => congrArg va_rf (h9.2.2 0 55 33 rfl)) ?_
    refine ev_iload_n 1 dX12_sumOf_25 rfl ?_
    refine ev_iconst dX12_sumOf_26 rfl ?_
    refine ev_iadd dX12_sumOf_27 ?_
    obtain ⟨c4, h⟩ := am_gd_elim h
    refine ev_iald dX12_sumOf_28 (fun h9 => (h9.2.1 33 _ rfl).2) (am_in_vp c4) ?_
    obtain ⟨u5, g6, e7, h⟩ := am_bd_elim h
    refine ev_callVv [.int (am_I g2 33 a1.toNatClampNeg), .int (am_I g2 33 (a1 + (1 : Int32)).toNatClampNeg)] [] dX12_sumOf_29 (tX12_reckonAll e7) (by decide) mo_X12_reckonAll kM_X12_404 ki_X12_reckonAll kv_X12_reckonAll (fun h9 => (h9.2.1 0 _ rfl).2) (by decide) rfl (Nat.le_of_ble_eq_true rfl) ?_
    refine ev_aload_n 0 dX12_sumOf_32 rfl ?_
    refine ev_iconst dX12_sumOf_33 rfl ?_
    refine ev_pfi dX12_sumOf_34 (fun h9 => (h9.2.1 0 _ rfl).2) 20 (by decide) (by decide) kF_X12_318 rfl rfl rfl (fun _ => rfl) ?_
    refine am_let_elim (P := fun g8 => am_Ev zr MX12_sumOf 3 37 [(0, .ref 0), (1, .int a1)] [] g8 (am_rl r)) h fun g8 h => ?_
    refine ev_aload_n 0 dX12_sumOf_37 rfl ?_
    refine ev_aload_n 0 dX12_sumOf_38 rfl ?_
    refine ev_gf (v := .int (am_I g8 0 38)) dX12_sumOf_39 (fun h9 => (h9.2.1 0 _ rfl).2) 38 (by decide) (by decide) kF_X12_387 (fun _ => rfl) ?_
    obtain ⟨c10, h⟩ := am_gd_elim h
    refine ev_pfi dX12_sumOf_42 (fun h9 => (h9.2.1 0 _ rfl).2) 60 (by decide) (by decide) kF_X12_512 rfl (am_zb_n c10) (am_zb_f c10) (fun _ => rfl) ?_
    refine am_let_elim (P := fun g9 => am_Ev zr MX12_sumOf 3 45 [(0, .ref 0), (1, .int a1)] [] g9 (am_rl r)) h fun g9 h => ?_
    refine ev_aload_n 0 dX12_sumOf_45 rfl ?_
    refine ev_gf (v := .long (am_L g9 0 39)) dX12_sumOf_46 (fun h9 => (h9.2.1 0 _ rfl).2) 39 (by decide) (by decide) kF_X12_401 (fun _ => rfl) ?_
    cases h
    exact ev_lret dX12_sumOf_49 rfl
  · replace h := am_ifn c1 h
    refine ev_lconst dX12_sumOf_7 rfl ?_
    cases h
    exact ev_lret dX12_sumOf_8 rfl
theorem tX12_sumOf {a1 : Int32} {g : am_G} {r : Int64 × am_G} (h : fX12_sumOf a1 g = some r) : am_Mt zr MX12_sumOf 3 [.ref 0, .int a1] g (am_rl r) := am_Mt.of rfl (Nat.le_of_ble_eq_true rfl) (eX12_sumOf _ _ _ h)
def fX12_run (a1 : Int32) (g : am_G) : Option (Int32 × am_G) :=
  am_bd (fX12_day g) fun v1 g2 =>
  am_gd (am_in (1 : Int32) 13) <|
  am_let (am_sl g2 19 (1 : Int32).toNatClampNeg v1.toInt64) fun g5 =>
  am_gd (am_in (0 : Int32) 5660) <|
  am_gd (am_in (2 : Int32) 13) <|
  am_let (am_sl g5 19 (2 : Int32).toNatClampNeg ((am_I g5 2 (0 : Int32).toNatClampNeg).toInt64)) fun g8 =>
  am_gd (am_in (3 : Int32) 13) <|
  am_let (am_sl g8 19 (3 : Int32).toNatClampNeg ((am_I g8 0 56).toInt64)) fun g10 =>
  am_gd (am_in (4 : Int32) 13) <|
  am_let (am_sl g10 19 (4 : Int32).toNatClampNeg ((am_I g10 0 57).toInt64)) fun g12 =>
  am_gd (am_in (8 : Int32) 5660) <|
  am_gd (am_in (5 : Int32) 13) <|
  am_let (am_sl g12 19 (5 : Int32).toNatClampNeg (((am_I g12 2 (8 : Int32).toNatClampNeg) - (am_I g12 0 58)).toInt64)) fun g15 =>
  am_let (am_si g15 0 60 (0 : Int32)) fun g16 =>
  am_gd (am_in (a1 + (7 : Int32)) 120) <|
  am_gd (am_in (a1 + (8 : Int32)) 120) <|
  am_jn (fun  (g20 : am_G) =>
    am_gd (am_in a1 120) <|
    am_jn (fun (x24 : Int32) (g25 : am_G) =>
      if 0 ≤ x24 then (
        am_let (am_si g25 0 57 ((am_I g25 0 57) + x24)) fun g28 =>
        am_let (am_si g28 0 56 ((am_I g28 0 56) + (1 : Int32))) fun g29 =>
        some ((0 : Int32), g29))
      else (
        some ((-3 : Int32), g25))) fun j26 =>
    if (am_I g20 33 a1.toNatClampNeg) = (1 : Int32) then (
      am_bd (fX12_dawnNow g20) fun v49 g50 =>
      j26 v49 g50)
    else (
      am_bd (fX12_sumOf (a1 + (1 : Int32)) g20) fun w30 g31 =>
      am_let (w30.toInt32) fun x33 =>
      am_bd (fX12_sumOf (a1 + (3 : Int32)) g31) fun w34 g35 =>
      am_let (w34.toInt32) fun x37 =>
      am_bd (fX12_sumOf (a1 + (5 : Int32)) g35) fun w38 g39 =>
      am_let (w38.toInt32) fun x41 =>
      am_jn (fun (x43 : Int32) (g44 : am_G) =>
        j26 x43 g44) fun j45 =>
      if (am_I g39 0 60) = 0 then (
        am_bd (fX12_sayNow (0 : Int32) x33 x37 x41 g39) fun v46 g47 =>
        j45 v46 g47)
      else (
        j45 (-3 : Int32) g39))) fun j21 =>
  if (am_I g16 33 (a1 + (8 : Int32)).toNatClampNeg) ≤ (am_I g16 33 (a1 + (7 : Int32)).toNatClampNeg) then (
    j21 g16)
  else (
    am_bd (fX12_sumOf (a1 + (7 : Int32)) g16) fun w52 g53 =>
    if (am_I g53 0 60) = 0 then (
      if (lg_cmp w52 (0 : Int64)) = 0 then (
        some ((0 : Int32), g53))
      else (
        j21 g53))
    else (
      some ((0 : Int32), g53)))
set_option maxRecDepth 100000 in
set_option maxHeartbeats 4000000 in
theorem eX12_run (a1 : Int32) (g : am_G) (r : Int32 × am_G) (h : fX12_run a1 g = some r) : am_Ev zr MX12_run 8 0 [(0, .ref 0), (1, .int a1)] [] g (am_ri r) := by
  unfold fX12_run at h
  refine ev_aload_n 0 dX12_run_0 rfl ?_
  refine ev_gf (v := .ref 19) dX12_run_1 (fun h9 => (h9.2.1 0 _ rfl).2) 36 (by decide) (by decide) kF_X12_108 (fun h9 => congrArg va_rf (h9.2.2 0 36 19 rfl)) ?_
  refine ev_iconst dX12_run_4 rfl ?_
  refine ev_aload_n 0 dX12_run_5 rfl ?_
  obtain ⟨v1, g2, e3, h⟩ := am_bd_elim h
  refine ev_callVi (v := v1) [] [.int (1 : Int32), .ref 19] dX12_run_6 (tX12_day e3) (by decide) mo_X12_day kM_X12_413 ki_X12_day kv_X12_day (fun h9 => (h9.2.1 0 _ rfl).2) (by decide) rfl (Nat.le_of_ble_eq_true rfl) ?_
  refine ev_i2l dX12_run_9 ?_
  obtain ⟨c4, h⟩ := am_gd_elim h
  refine ev_last dX12_run_10 (fun h9 => (h9.2.1 19 _ rfl).2) (am_in_vp c4) ?_
  refine am_let_elim (P := fun g5 => am_Ev zr MX12_run 8 11 [(0, .ref 0), (1, .int a1)] [] g5 (am_ri r)) h fun g5 h => ?_
  refine ev_aload_n 0 dX12_run_11 rfl ?_
  refine ev_gf (v := .ref 19) dX12_run_12 (fun h9 => (h9.2.1 0 _ rfl).2) 36 (by decide) (by decide) kF_X12_108 (fun h9 => congrArg va_rf (h9.2.2 0 36 19 rfl)) ?_
  refine ev_iconst dX12_run_15 rfl ?_
  refine ev_aload_n 0 dX12_run_16 rfl ?_
  refine ev_gf (v := .ref 2) dX12_run_17 (fun h9 => (h9.2.1 0 _ rfl).2) 3 (by decide) (by decide) kF_X12_13 (fun h9 => congrArg va_rf (h9.2.2 0 3 2 rfl)) ?_
  refine ev_iconst dX12_run_20 rfl ?_
  obtain ⟨c6, h⟩ := am_gd_elim h
  refine ev_iald dX12_run_21 (fun h9 => (h9.2.1 2 _ rfl).2) (am_in_vp c6) ?_
  refine ev_i2l dX12_run_22 ?_
  obtain ⟨c7, h⟩ := am_gd_elim h
  refine ev_last dX12_run_23 (fun h9 => (h9.2.1 19 _ rfl).2) (am_in_vp c7) ?_
  refine am_let_elim (P := fun g8 => am_Ev zr MX12_run 8 24 [(0, .ref 0), (1, .int a1)] [] g8 (am_ri r)) h fun g8 h => ?_
  refine ev_aload_n 0 dX12_run_24 rfl ?_
  refine ev_gf (v := .ref 19) dX12_run_25 (fun h9 => (h9.2.1 0 _ rfl).2) 36 (by decide) (by decide) kF_X12_108 (fun h9 => congrArg va_rf (h9.2.2 0 36 19 rfl)) ?_
  refine ev_iconst dX12_run_28 rfl ?_
  refine ev_aload_n 0 dX12_run_29 rfl ?_
  refine ev_gf (v := .int (am_I g8 0 56)) dX12_run_30 (fun h9 => (h9.2.1 0 _ rfl).2) 56 (by decide) (by decide) kF_X12_515 (fun _ => rfl) ?_
  refine ev_i2l dX12_run_33 ?_
  obtain ⟨c9, h⟩ := am_gd_elim h
  refine ev_last dX12_run_34 (fun h9 => (h9.2.1 19 _ rfl).2) (am_in_vp c9) ?_
  refine am_let_elim (P := fun g10 => am_Ev zr MX12_run 8 35 [(0, .ref 0), (1, .int a1)] [] g10 (am_ri r)) h fun g10 h => ?_
  refine ev_aload_n 0 dX12_run_35 rfl ?_
  refine ev_gf (v := .ref 19) dX12_run_36 (fun h9 => (h9.2.1 0 _ rfl).2) 36 (by decide) (by decide) kF_X12_108 (fun h9 => congrArg va_rf (h9.2.2 0 36 19 rfl)) ?_
  refine ev_iconst dX12_run_39 rfl ?_
  refine ev_aload_n 0 dX12_run_40 rfl ?_
  refine ev_gf (v := .int (am_I g10 0 57)) dX12_run_41 (fun h9 => (h9.2.1 0 _ rfl).2) 57 (by decide) (by decide) kF_X12_518 (fun _ => rfl) ?_
  refine ev_i2l dX12_run_44 ?_
  obtain ⟨c11, h⟩ := am_gd_elim h
  refine ev_last dX12_run_45 (fun h9 => (h9.2.1 19 _ rfl).2) (am_in_vp c11) ?_
  refine am_let_elim (P := fun g12 => am_Ev zr MX12_run 8 46 [(0, .ref 0), (1, .int a1)] [] g12 (am_ri r)) h fun g12 h => ?_
  refine ev_aload_n 0 dX12_run_46 rfl ?_
  refine ev_gf (v := .ref 19) dX12_run_47 (fun h9 => (h9.2.1 0 _ rfl).2) 36 (by decide) (by decide) kF_X12_108 (fun h9 => congrArg va_rf (h9.2.2 0 36 19 rfl)) ?_
  refine ev_iconst dX12_run_50 rfl ?_
  refine ev_aload_n 0 dX12_run_51 rfl ?_
  refine ev_gf (v := .ref 2) dX12_run_52 (fun h9 => (h9.2.1 0 _ rfl).2) 3 (by decide) (by decide) kF_X12_13 (fun h9 => congrArg va_rf (h9.2.2 0 3 2 rfl)) ?_
  refine ev_bipush dX12_run_55 rfl ?_
  obtain ⟨c13, h⟩ := am_gd_elim h
  refine ev_iald dX12_run_57 (fun h9 => (h9.2.1 2 _ rfl).2) (am_in_vp c13) ?_
  refine ev_aload_n 0 dX12_run_58 rfl ?_
  refine ev_gf (v := .int (am_I g12 0 58)) dX12_run_59 (fun h9 => (h9.2.1 0 _ rfl).2) 58 (by decide) (by decide) kF_X12_521 (fun _ => rfl) ?_
  refine ev_isub dX12_run_62 ?_
  refine ev_i2l dX12_run_63 ?_
  obtain ⟨c14, h⟩ := am_gd_elim h
  refine ev_last dX12_run_64 (fun h9 => (h9.2.1 19 _ rfl).2) (am_in_vp c14) ?_
  refine am_let_elim (P := fun g15 => am_Ev zr MX12_run 8 65 [(0, .ref 0), (1, .int a1)] [] g15 (am_ri r)) h fun g15 h => ?_
  refine ev_aload_n 0 dX12_run_65 rfl ?_
  refine ev_iconst dX12_run_66 rfl ?_
  refine ev_pfi dX12_run_67 (fun h9 => (h9.2.1 0 _ rfl).2) 60 (by decide) (by decide) kF_X12_512 rfl rfl rfl (fun _ => rfl) ?_
  refine am_let_elim (P := fun g16 => am_Ev zr MX12_run 8 70 [(0, .ref 0), (1, .int a1)] [] g16 (am_ri r)) h fun g16 h => ?_
  refine ev_aload_n 0 dX12_run_70 rfl ?_
  refine ev_gf (v := .ref 33) dX12_run_71 (fun h9 => (h9.2.1 0 _ rfl).2) 55 (by decide) (by decide) kF_X12_150 (fun h9 => congrArg va_rf (h9.2.2 0 55 33 rfl)) ?_
  refine ev_iload_n 1 dX12_run_74 rfl ?_
  refine ev_bipush dX12_run_75 rfl ?_
  refine ev_iadd dX12_run_77 ?_
  obtain ⟨c17, h⟩ := am_gd_elim h
  refine ev_iald dX12_run_78 (fun h9 => (h9.2.1 33 _ rfl).2) (am_in_vp c17) ?_
  refine ev_aload_n 0 dX12_run_79 rfl ?_
  refine ev_gf (v := .ref 33) dX12_run_80 (fun h9 => (h9.2.1 0 _ rfl).2) 55 (by decide) (by decide) kF_X12_150 (fun h9 => congrArg va_rf (h9.2.2 0 55 33 rfl)) ?_
  refine ev_iload_n 1 dX12_run_83 rfl ?_
  refine ev_bipush dX12_run_84 rfl ?_
  refine ev_iadd dX12_run_86 ?_
  obtain ⟨c18, h⟩ := am_gd_elim h
  refine ev_iald dX12_run_87 (fun h9 => (h9.2.1 33 _ rfl).2) (am_in_vp c18) ?_
  refine am_jn_elim (fun q9 => ∀  (g20 : am_G) (r : Int32 × am_G), q9  g20 = some r → am_Ev zr MX12_run 8 115 [(0, .ref 0), (1, .int a1)] [] g20 (am_ri r)) h ?_ (fun j21 hj21 h => ?_)
  · intro  g20 r h
    try dsimp only at h
    refine ev_iconst dX12_run_115 rfl ?_
    refine ev_istore_n (ls' := [(2, .int (0 : Int32)), (0, .ref 0), (1, .int a1)]) dX12_run_116 rfl (by decide) rfl ?_
    refine ev_aload_n 1 dX12_run_117 rfl ?_
    refine ev_gf (v := .ref 33) dX12_run_118 (fun h9 => (h9.2.1 0 _ rfl).2) 55 (by decide) (by decide) kF_X12_150 (fun h9 => congrArg va_rf (h9.2.2 0 55 33 rfl)) ?_
    refine ev_iload_n 2 dX12_run_121 rfl ?_
    obtain ⟨c22, h⟩ := am_gd_elim h
    refine ev_iald dX12_run_122 (fun h9 => (h9.2.1 33 _ rfl).2) (am_in_vp c22) ?_
    refine ev_iconst dX12_run_123 rfl ?_
    refine am_jn_elim (fun q9 => ∀ (x24 : Int32) (g25 : am_G) (r : Int32 × am_G), q9 x24 g25 = some r → am_Ev zr MX12_run 8 187 [(0, .ref 0), (2, .int x24)] [] g25 (am_ri r)) h ?_ (fun j26 hj26 h => ?_)
    · intro x24 g25 r h
      try dsimp only at h
      refine ev_iload_n 1 dX12_run_187 rfl ?_
      refine ev_if_ge 194 dX12_run_188 (by decide) (fun c27 => ?_) (fun c27 => ?_)
      · replace h := am_ifp c27 h
        refine ev_aload_n 0 dX12_run_194 rfl ?_
        refine ev_dup dX12_run_195 rfl ?_
        refine ev_gf (v := .int (am_I g25 0 57)) dX12_run_196 (fun h9 => (h9.2.1 0 _ rfl).2) 57 (by decide) (by decide) kF_X12_518 (fun _ => rfl) ?_
        refine ev_iload_n 1 dX12_run_199 rfl ?_
        refine ev_iadd dX12_run_200 ?_
        refine ev_pfi dX12_run_201 (fun h9 => (h9.2.1 0 _ rfl).2) 57 (by decide) (by decide) kF_X12_518 rfl rfl rfl (fun _ => rfl) ?_
        refine am_let_elim (P := fun g28 => am_Ev zr MX12_run 8 204 [(0, .ref 0), (2, .int x24)] [] g28 (am_ri r)) h fun g28 h => ?_
        refine ev_aload_n 0 dX12_run_204 rfl ?_
        refine ev_dup dX12_run_205 rfl ?_
        refine ev_gf (v := .int (am_I g28 0 56)) dX12_run_206 (fun h9 => (h9.2.1 0 _ rfl).2) 56 (by decide) (by decide) kF_X12_515 (fun _ => rfl) ?_
        refine ev_iconst dX12_run_209 rfl ?_
        refine ev_iadd dX12_run_210 ?_
        refine ev_pfi dX12_run_211 (fun h9 => (h9.2.1 0 _ rfl).2) 56 (by decide) (by decide) kF_X12_515 rfl rfl rfl (fun _ => rfl) ?_
        refine am_let_elim (P := fun g29 => am_Ev zr MX12_run 8 214 [(0, .ref 0), (2, .int x24)] [] g29 (am_ri r)) h fun g29 h => ?_
        refine ev_iconst dX12_run_214 rfl ?_
        cases h
        exact ev_iret dX12_run_215 rfl
      · replace h := am_ifn c27 h
        refine ev_bipush dX12_run_191 rfl ?_
        cases h
        exact ev_iret dX12_run_193 rfl
    · refine ev_icmp_ne 135 dX12_run_124 (by decide) (fun c23 => ?_) (fun c23 => ?_)
      · replace h := am_ifn c23 h
        refine ev_aload_n 1 dX12_run_135 rfl ?_
        refine ev_iload_n 2 dX12_run_136 rfl ?_
        refine ev_iconst dX12_run_137 rfl ?_
        refine ev_iadd dX12_run_138 ?_
        obtain ⟨w30, g31, e32, h⟩ := am_bd_elim h
        refine ev_callVl (v := w30) [.int (a1 + (1 : Int32))] [] dX12_run_139 (tX12_sumOf e32) (by decide) mo_X12_sumOf kM_X12_524 ki_X12_sumOf kv_X12_sumOf (fun h9 => (h9.2.1 0 _ rfl).2) (by decide) rfl (Nat.le_of_ble_eq_true rfl) ?_
        refine ev_l2i dX12_run_142 ?_
        refine am_let_elim (P := fun x33 => am_Ev zr MX12_run 8 143 [(2, .int (0 : Int32)), (0, .ref 0), (1, .int a1)] [.int x33] g31 (am_ri r)) h fun x33 h => ?_
        refine ev_istore_n (ls' := [(3, .int x33), (2, .int (0 : Int32)), (0, .ref 0), (1, .int a1)]) dX12_run_143 rfl (by decide) rfl ?_
        refine ev_aload_n 2 dX12_run_144 rfl ?_
        refine ev_iload_n 3 dX12_run_145 rfl ?_
        refine ev_iconst dX12_run_146 rfl ?_
        refine ev_iadd dX12_run_147 ?_
        obtain ⟨w34, g35, e36, h⟩ := am_bd_elim h
        refine ev_callVl (v := w34) [.int (a1 + (3 : Int32))] [] dX12_run_148 (tX12_sumOf e36) (by decide) mo_X12_sumOf kM_X12_524 ki_X12_sumOf kv_X12_sumOf (fun h9 => (h9.2.1 0 _ rfl).2) (by decide) rfl (Nat.le_of_ble_eq_true rfl) ?_
        refine ev_l2i dX12_run_151 ?_
        refine am_let_elim (P := fun x37 => am_Ev zr MX12_run 8 152 [(3, .int x33), (2, .int (0 : Int32)), (0, .ref 0), (1, .int a1)] [.int x37] g35 (am_ri r)) h fun x37 h => ?_
        refine ev_istore (ls' := [(4, .int x37), (3, .int x33), (2, .int (0 : Int32)), (0, .ref 0), (1, .int a1)]) dX12_run_152 (by decide) rfl ?_
        refine ev_aload_n 3 dX12_run_154 rfl ?_
        refine ev_iload_n 4 dX12_run_155 rfl ?_
        refine ev_iconst dX12_run_156 rfl ?_
        refine ev_iadd dX12_run_157 ?_
        obtain ⟨w38, g39, e40, h⟩ := am_bd_elim h
        refine ev_callVl (v := w38) [.int (a1 + (5 : Int32))] [] dX12_run_158 (tX12_sumOf e40) (by decide) mo_X12_sumOf kM_X12_524 ki_X12_sumOf kv_X12_sumOf (fun h9 => (h9.2.1 0 _ rfl).2) (by decide) rfl (Nat.le_of_ble_eq_true rfl) ?_
        refine ev_l2i dX12_run_161 ?_
        refine am_let_elim (P := fun x41 => am_Ev zr MX12_run 8 162 [(4, .int x37), (3, .int x33), (2, .int (0 : Int32)), (0, .ref 0), (1, .int a1)] [.int x41] g39 (am_ri r)) h fun x41 h => ?_
        refine ev_istore (ls' := [(5, .int x41), (4, .int x37), (3, .int x33), (2, .int (0 : Int32)), (0, .ref 0), (1, .int a1)]) dX12_run_162 (by decide) rfl ?_
        refine ev_aload_n 4 dX12_run_164 rfl ?_
        refine ev_gf (v := .int (am_I g39 0 60)) dX12_run_165 (fun h9 => (h9.2.1 0 _ rfl).2) 60 (by decide) (by decide) kF_X12_512 (fun _ => rfl) ?_
        refine am_jn_elim (fun q9 => ∀ (x43 : Int32) (g44 : am_G) (r : Int32 × am_G), q9 x43 g44 = some r → am_Ev zr MX12_run 8 186 [(0, .ref 0)] [.int x43] g44 (am_ri r)) h ?_ (fun j45 hj45 h => ?_)
        · intro x43 g44 r h
          try dsimp only at h
          refine ev_istore_n (ls' := [(2, .int x43), (0, .ref 0)]) dX12_run_186 rfl (by decide) rfl ?_
          refine ev_sub [1, 0] rfl ?_
          exact hj26 _ _ _ h
        · refine ev_if_eq 176 dX12_run_168 (by decide) (fun c42 => ?_) (fun c42 => ?_)
          · replace h := am_ifp c42 h
            refine ev_aload_n 4 dX12_run_176 rfl ?_
            refine ev_iconst dX12_run_177 rfl ?_
            refine ev_iload_n 2 dX12_run_178 rfl ?_
            refine ev_iload 1 dX12_run_179 rfl ?_
            refine ev_iload 0 dX12_run_181 rfl ?_
            obtain ⟨v46, g47, e48, h⟩ := am_bd_elim h
            refine ev_callVi (v := v46) [.int (0 : Int32), .int x33, .int x37, .int x41] [] dX12_run_183 (tX12_sayNow e48) (by decide) mo_X12_sayNow kM_X12_460 ki_X12_sayNow kv_X12_sayNow (fun h9 => (h9.2.1 0 _ rfl).2) (by decide) rfl (Nat.le_of_ble_eq_true rfl) ?_
            refine ev_sub [4] rfl ?_
            exact hj45 _ _ _ h
          · replace h := am_ifn c42 h
            refine ev_bipush dX12_run_171 rfl ?_
            refine ev_goto 186 dX12_run_173 (by decide) ?_
            refine ev_sub [4] rfl ?_
            exact hj45 _ _ _ h
      · replace h := am_ifp c23 h
        refine ev_aload_n 1 dX12_run_127 rfl ?_
        obtain ⟨v49, g50, e51, h⟩ := am_bd_elim h
        refine ev_callVi (v := v49) [] [] dX12_run_128 (tX12_dawnNow e51) (by decide) mo_X12_dawnNow kM_X12_463 ki_X12_dawnNow kv_X12_dawnNow (fun h9 => (h9.2.1 0 _ rfl).2) (by decide) rfl (Nat.le_of_ble_eq_true rfl) ?_
        refine ev_istore_n (ls' := [(2, .int v49), (0, .ref 0), (1, .int a1)]) dX12_run_131 rfl (by decide) rfl ?_
        refine ev_goto 187 dX12_run_132 (by decide) ?_
        refine ev_sub [1, 0] rfl ?_
        exact hj26 _ _ _ h
  · refine ev_icmp_ge 115 dX12_run_88 (by decide) (fun c19 => ?_) (fun c19 => ?_)
    · replace h := am_ifp c19 h
      refine ev_sub [0, 1] rfl ?_
      exact hj21  _ _ h
    · replace h := am_ifn c19 h
      refine ev_aload_n 0 dX12_run_91 rfl ?_
      refine ev_iload_n 1 dX12_run_92 rfl ?_
      refine ev_bipush dX12_run_93 rfl ?_
      refine ev_iadd dX12_run_95 ?_
      obtain ⟨w52, g53, e54, h⟩ := am_bd_elim h
      refine ev_callVl (v := w52) [.int (a1 + (7 : Int32))] [] dX12_run_96 (tX12_sumOf e54) (by decide) mo_X12_sumOf kM_X12_524 ki_X12_sumOf kv_X12_sumOf (fun h9 => (h9.2.1 0 _ rfl).2) (by decide) rfl (Nat.le_of_ble_eq_true rfl) ?_
      refine ev_lstore_n (ls' := [(2, .long w52), (0, .ref 0), (1, .int a1)]) dX12_run_99 rfl (by decide) rfl ?_
      refine ev_aload_n 1 dX12_run_100 rfl ?_
      refine ev_gf (v := .int (am_I g53 0 60)) dX12_run_101 (fun h9 => (h9.2.1 0 _ rfl).2) 60 (by decide) (by decide) kF_X12_512 (fun _ => rfl) ?_
      refine ev_if_ne 113 dX12_run_104 (by decide) (fun c55 => ?_) (fun c55 => ?_)
      · replace h := am_ifn c55 h
        refine ev_iconst dX12_run_113 rfl ?_
        cases h
        exact ev_iret dX12_run_114 rfl
      · replace h := am_ifp c55 h
        refine ev_lload_n 0 dX12_run_107 rfl ?_
        refine ev_lconst dX12_run_108 rfl ?_
        refine ev_lcmp dX12_run_109 ?_
        refine ev_if_ne 115 dX12_run_110 (by decide) (fun c56 => ?_) (fun c56 => ?_)
        · replace h := am_ifn c56 h
          refine ev_sub [1, 2] rfl ?_
          exact hj21  _ _ h
        · replace h := am_ifp c56 h
          refine ev_iconst dX12_run_113 rfl ?_
          cases h
          exact ev_iret dX12_run_114 rfl
theorem tX12_run {a1 : Int32} {g : am_G} {r : Int32 × am_G} (h : fX12_run a1 g = some r) : am_Mt zr MX12_run 8 [.ref 0, .int a1] g (am_ri r) := am_Mt.of rfl (Nat.le_of_ble_eq_true rfl) (eX12_run _ _ _ h)
def fX12_told_L19 (k : am_G → Option (Int32 × am_G)) : Nat → am_G → Option (Int32 × am_G)
  | 0, _ => none
  | n + 1, g9 =>
    if (am_I g9 0 19) = 0 then (
      am_bd (fX12_isSign (59 : Int32) g9) fun v12 g13 =>
      if v12 = 0 then (
        k g13)
      else (
        am_bd (fX12_next g13) fun u16 g17 =>
        am_bd (fX12_readTold g17) fun u19 g20 =>
        fX12_told_L19 k n g20))
    else (
      k g9)
def fX12_told_L77 (k : am_G → Option (Int32 × am_G)) (x30 : Int32) : Nat → Int32 → am_G → Option (Int32 × am_G)
  | 0, _, _ => none
  | n + 1, x31, g32 =>
    if (2176 : Int32) ≤ x31 then (
      k g32)
    else (
      am_gd (am_in x31 2856) <|
      am_gd (am_in x31 2176) <|
      am_let (am_si g32 7 x31.toNatClampNeg (am_I g32 5 x31.toNatClampNeg)) fun g37 =>
      am_let (x31 + (1 : Int32)) fun x38 =>
      fX12_told_L77 k x30 n x38 g37)
def fX12_told_L104 (k : am_G → Option (Int32 × am_G)) (x30 : Int32) : Nat → Int32 → am_G → Option (Int32 × am_G)
  | 0, _, _ => none
  | n + 1, x40, g41 =>
    if (16 : Int32) ≤ x40 then (
      k g41)
    else (
      am_gd (am_in x40 16) <|
      am_gd (am_in x40 16) <|
      am_let (am_si g41 8 x40.toNatClampNeg (am_I g41 6 x40.toNatClampNeg)) fun g46 =>
      am_let (x40 + (1 : Int32)) fun x47 =>
      fX12_told_L104 k x30 n x47 g46)
def fX12_told_L197 (k : am_G → Option (Int32 × am_G)) (x30 : Int32) (x53 : Int32) : Nat → Int32 → am_G → Option (Int32 × am_G)
  | 0, _, _ => none
  | n + 1, x74, g75 =>
    if (2176 : Int32) ≤ x74 then (
      k g75)
    else (
      am_gd (am_in x74 2176) <|
      am_gd (am_in x74 2856) <|
      am_let (am_si g75 5 x74.toNatClampNeg (am_I g75 7 x74.toNatClampNeg)) fun g80 =>
      am_let (x74 + (1 : Int32)) fun x81 =>
      fX12_told_L197 k x30 x53 n x81 g80)
def fX12_told_L228 (x30 : Int32) (x53 : Int32) : Nat → Int32 → am_G → Option (Int32 × am_G)
  | 0, _, _ => none
  | n + 1, x83, g84 =>
    if (16 : Int32) ≤ x83 then (
      am_let (am_si g84 0 8 x30) fun g86 =>
      am_let (am_si g86 0 59 x53) fun g87 =>
      am_bd (fX12_tell (-3 : Int32) g87) fun v88 g89 =>
      some (v88, g89))
    else (
      am_gd (am_in x83 16) <|
      am_gd (am_in x83 16) <|
      am_let (am_si g84 6 x83.toNatClampNeg (am_I g84 8 x83.toNatClampNeg)) fun g93 =>
      am_let (x83 + (1 : Int32)) fun x94 =>
      fX12_told_L228 x30 x53 n x94 g93)
def fX12_told_L161 (k : am_G → Option (Int32 × am_G)) (x30 : Int32) (x53 : Int32) : Nat → Int32 → am_G → Option (Int32 × am_G)
  | 0, _, _ => none
  | n + 1, x61, g62 =>
    am_gd (am_in (((10 : Int32) * x53) + (9 : Int32)) 120) <|
    if (am_I g62 33 (((10 : Int32) * x53) + (9 : Int32)).toNatClampNeg) ≤ x61 then (
      k g62)
    else (
      am_bd (fX12_run ((10 : Int32) * x53) g62) fun v66 g67 =>
      if 0 ≤ v66 then (
        am_let (x61 + (1 : Int32)) fun x70 =>
        fX12_told_L161 k x30 x53 n x70 g67)
      else (
        am_bd (fX12_putBack (20 : Int32) g67) fun u71 g72 =>
        fX12_told_L197 (fun  (g82 : am_G) =>
          fX12_told_L228 x30 x53 am_fu (0 : Int32) g82) x30 x53 am_fu (0 : Int32) g72))
def fX12_told_L151 (k : Int32 → am_G → Option (Int32 × am_G)) (x30 : Int32) : Nat → Int32 → am_G → Option (Int32 × am_G)
  | 0, _, _ => none
  | n + 1, x53, g54 =>
    if (am_I g54 0 21) ≤ x53 then (
      am_bd (fX12_tell (am_I g54 0 56) g54) fun v58 g59 =>
      some (v58, g59))
    else (
      fX12_told_L161 (fun  (g95 : am_G) =>
        am_let (x53 + (1 : Int32)) fun x96 =>
        fX12_told_L151 k x30 n x96 g95) x30 x53 am_fu (0 : Int32) g54)
def fX12_told (g : am_G) : Option (Int32 × am_G) :=
  am_let (am_si g 0 0 (0 : Int32)) fun g1 =>
  am_let (am_si g1 0 59 (-1 : Int32)) fun g2 =>
  am_bd (fX12_beginText (1 : Int32) g2) fun u3 g4 =>
  am_bd (fX12_readTold g4) fun u6 g7 =>
  fX12_told_L19 (fun  (g22 : am_G) =>
    am_bd (fX12_endText g22) fun u23 g24 =>
    if (am_I g24 0 19) = 0 then (
      am_bd (fX12_keepAll (20 : Int32) g24) fun u27 g28 =>
      am_let (am_I g28 0 8) fun x30 =>
      fX12_told_L77 (fun  (g39 : am_G) =>
        fX12_told_L104 (fun  (g48 : am_G) =>
          am_let (am_si g48 0 56 (0 : Int32)) fun g49 =>
          am_let (am_si g49 0 57 (0 : Int32)) fun g50 =>
          am_gd (am_in (8 : Int32) 5660) <|
          am_let (am_si g50 0 58 (am_I g50 2 (8 : Int32).toNatClampNeg)) fun g52 =>
          fX12_told_L151 (fun (x97 : Int32) (g98 : am_G) =>
            am_bd (fX12_putBack (20 : Int32) g98) fun u99 g100 =>
            fX12_told_L197 (fun  (g102 : am_G) =>
              fX12_told_L228 x30 x97 am_fu (0 : Int32) g102) x30 x97 am_fu (0 : Int32) g100) x30 am_fu (0 : Int32) g52) x30 am_fu (0 : Int32) g39) x30 am_fu (0 : Int32) g28)
    else (
      am_bd (fX12_tell (-6 : Int32) g24) fun v103 g104 =>
      some (v103, g104))) am_fu g7
set_option maxRecDepth 100000 in
set_option maxHeartbeats 4000000 in
theorem tfX12_told_L19  {k : am_G → Option (Int32 × am_G)} (hk : ∀  (g10 : am_G) (r : Int32 × am_G), k  g10 = some r → am_Ev zr MX12_told 10 46 [(0, .ref 0)] [] g10 (am_ri r)) : ∀ (n : Nat)  (g9 : am_G) (r : Int32 × am_G), fX12_told_L19 k n  g9 = some r → am_Ev zr MX12_told 10 19 [(0, .ref 0)] [] g9 (am_ri r) := by
  intro n
  induction n with
  | zero => intro  g9 r h; exact nomatch (show (none : Option (Int32 × am_G)) = some r from h)
  | succ n ih =>
    intro  g9 r h
    rw [fX12_told_L19] at h
    refine ev_aload_n 0 dX12_told_19 rfl ?_
    refine ev_gf (v := .int (am_I g9 0 19)) dX12_told_20 (fun h9 => (h9.2.1 0 _ rfl).2) 19 (by decide) (by decide) kF_X12_239 (fun _ => rfl) ?_
    refine ev_if_ne 46 dX12_told_23 (by decide) (fun c11 => ?_) (fun c11 => ?_)
    · replace h := am_ifn c11 h
      refine ev_sub [0] rfl ?_
      exact hk  _ _ h
    · replace h := am_ifp c11 h
      refine ev_aload_n 0 dX12_told_26 rfl ?_
      refine ev_bipush dX12_told_27 rfl ?_
      obtain ⟨v12, g13, e14, h⟩ := am_bd_elim h
      refine ev_callVi (v := v12) [.int (59 : Int32)] [] dX12_told_29 (tX12_isSign e14) (by decide) mo_X12_isSign kM_X12_312 ki_X12_isSign kv_X12_isSign (fun h9 => (h9.2.1 0 _ rfl).2) (by decide) rfl (Nat.le_of_ble_eq_true rfl) ?_
      refine ev_if_eq 46 dX12_told_32 (by decide) (fun c15 => ?_) (fun c15 => ?_)
      · replace h := am_ifp c15 h
        refine ev_sub [0] rfl ?_
        exact hk  _ _ h
      · replace h := am_ifn c15 h
        refine ev_aload_n 0 dX12_told_35 rfl ?_
        obtain ⟨u16, g17, e18, h⟩ := am_bd_elim h
        refine ev_callVv [] [] dX12_told_36 (tX12_next e18) (by decide) mo_X12_next kM_X12_243 ki_X12_next kv_X12_next (fun h9 => (h9.2.1 0 _ rfl).2) (by decide) rfl (Nat.le_of_ble_eq_true rfl) ?_
        refine ev_aload_n 0 dX12_told_39 rfl ?_
        obtain ⟨u19, g20, e21, h⟩ := am_bd_elim h
        refine ev_callVv [] [] dX12_told_40 (tX12_readTold e21) (by decide) mo_X12_readTold kM_X12_528 ki_X12_readTold kv_X12_readTold (fun h9 => (h9.2.1 0 _ rfl).2) (by decide) rfl (Nat.le_of_ble_eq_true rfl) ?_
        refine ev_goto 19 dX12_told_43 (by decide) ?_
        refine ev_sub [0] rfl ?_
        exact ih  _ _ h
set_option maxRecDepth 100000 in
set_option maxHeartbeats 4000000 in
theorem tfX12_told_L77  {k : am_G → Option (Int32 × am_G)} (x30 : Int32) (hk : ∀  (g33 : am_G) (r : Int32 × am_G), k  g33 = some r → am_Ev zr MX12_told 10 102 [(0, .ref 0), (1, .int x30)] [] g33 (am_ri r)) : ∀ (n : Nat) (x31 : Int32) (g32 : am_G) (r : Int32 × am_G), fX12_told_L77 k x30 n x31 g32 = some r → am_Ev zr MX12_told 10 77 [(0, .ref 0), (1, .int x30), (2, .int x31)] [] g32 (am_ri r) := by
  intro n
  induction n with
  | zero => intro x31 g32 r h; exact nomatch (show (none : Option (Int32 × am_G)) = some r from h)
  | succ n ih =>
    intro x31 g32 r h
    rw [fX12_told_L77] at h
    refine ev_iload_n 2 dX12_told_77 rfl ?_
    refine ev_sipush dX12_told_78 rfl ?_
    refine ev_icmp_ge 102 dX12_told_81 (by decide) (fun c34 => ?_) (fun c34 => ?_)
    · replace h := am_ifp c34 h
      refine ev_sub [0, 1] rfl ?_
      exact hk  _ _ h
    · replace h := am_ifn c34 h
      refine ev_aload_n 0 dX12_told_84 rfl ?_
      refine ev_gf (v := .ref 7) dX12_told_85 (fun h9 => (h9.2.1 0 _ rfl).2) 9 (by decide) (by decide) kF_X12_29 (fun h9 => congrArg va_rf (h9.2.2 0 9 7 rfl)) ?_
      refine ev_iload_n 2 dX12_told_88 rfl ?_
      refine ev_aload_n 0 dX12_told_89 rfl ?_
      refine ev_gf (v := .ref 5) dX12_told_90 (fun h9 => (h9.2.1 0 _ rfl).2) 6 (by decide) (by decide) kF_X12_23 (fun h9 => congrArg va_rf (h9.2.2 0 6 5 rfl)) ?_
      refine ev_iload_n 2 dX12_told_93 rfl ?_
      obtain ⟨c35, h⟩ := am_gd_elim h
      refine ev_iald dX12_told_94 (fun h9 => (h9.2.1 5 _ rfl).2) (am_in_vp c35) ?_
      obtain ⟨c36, h⟩ := am_gd_elim h
      refine ev_iast dX12_told_95 (fun h9 => (h9.2.1 7 _ rfl).2) (am_in_vp c36) ?_
      refine am_let_elim (P := fun g37 => am_Ev zr MX12_told 10 96 [(0, .ref 0), (1, .int x30), (2, .int x31)] [] g37 (am_ri r)) h fun g37 h => ?_
      obtain ⟨x38, ex38, h⟩ := am_let_ex h
      refine ev_iinc (ls' := [(2, .int x38), (0, .ref 0), (1, .int x30)]) 2 dX12_told_96 rfl ex38 (by decide) rfl ?_
      refine ev_goto 77 dX12_told_99 (by decide) ?_
      refine ev_sub [1, 2, 0] rfl ?_
      exact ih _ _ _ h
set_option maxRecDepth 100000 in
set_option maxHeartbeats 4000000 in
theorem tfX12_told_L104  {k : am_G → Option (Int32 × am_G)} (x30 : Int32) (hk : ∀  (g42 : am_G) (r : Int32 × am_G), k  g42 = some r → am_Ev zr MX12_told 10 128 [(0, .ref 0), (1, .int x30)] [] g42 (am_ri r)) : ∀ (n : Nat) (x40 : Int32) (g41 : am_G) (r : Int32 × am_G), fX12_told_L104 k x30 n x40 g41 = some r → am_Ev zr MX12_told 10 104 [(0, .ref 0), (1, .int x30), (2, .int x40)] [] g41 (am_ri r) := by
  intro n
  induction n with
  | zero => intro x40 g41 r h; exact nomatch (show (none : Option (Int32 × am_G)) = some r from h)
  | succ n ih =>
    intro x40 g41 r h
    rw [fX12_told_L104] at h
    refine ev_iload_n 2 dX12_told_104 rfl ?_
    refine ev_bipush dX12_told_105 rfl ?_
    refine ev_icmp_ge 128 dX12_told_107 (by decide) (fun c43 => ?_) (fun c43 => ?_)
    · replace h := am_ifp c43 h
      refine ev_sub [0, 1] rfl ?_
      exact hk  _ _ h
    · replace h := am_ifn c43 h
      refine ev_aload_n 0 dX12_told_110 rfl ?_
      refine ev_gf (v := .ref 8) dX12_told_111 (fun h9 => (h9.2.1 0 _ rfl).2) 10 (by decide) (by decide) kF_X12_32 (fun h9 => congrArg va_rf (h9.2.2 0 10 8 rfl)) ?_
      refine ev_iload_n 2 dX12_told_114 rfl ?_
      refine ev_aload_n 0 dX12_told_115 rfl ?_
      refine ev_gf (v := .ref 6) dX12_told_116 (fun h9 => (h9.2.1 0 _ rfl).2) 7 (by decide) (by decide) kF_X12_26 (fun h9 => congrArg va_rf (h9.2.2 0 7 6 rfl)) ?_
      refine ev_iload_n 2 dX12_told_119 rfl ?_
      obtain ⟨c44, h⟩ := am_gd_elim h
      refine ev_iald dX12_told_120 (fun h9 => (h9.2.1 6 _ rfl).2) (am_in_vp c44) ?_
      obtain ⟨c45, h⟩ := am_gd_elim h
      refine ev_iast dX12_told_121 (fun h9 => (h9.2.1 8 _ rfl).2) (am_in_vp c45) ?_
      refine am_let_elim (P := fun g46 => am_Ev zr MX12_told 10 122 [(0, .ref 0), (1, .int x30), (2, .int x40)] [] g46 (am_ri r)) h fun g46 h => ?_
      obtain ⟨x47, ex47, h⟩ := am_let_ex h
      refine ev_iinc (ls' := [(2, .int x47), (0, .ref 0), (1, .int x30)]) 2 dX12_told_122 rfl ex47 (by decide) rfl ?_
      refine ev_goto 104 dX12_told_125 (by decide) ?_
      refine ev_sub [1, 2, 0] rfl ?_
      exact ih _ _ _ h
set_option maxRecDepth 100000 in
set_option maxHeartbeats 4000000 in
theorem tfX12_told_L197  {k : am_G → Option (Int32 × am_G)} (x30 : Int32) (x53 : Int32) (hk : ∀  (g76 : am_G) (r : Int32 × am_G), k  g76 = some r → am_Ev zr MX12_told 10 225 [(0, .ref 0), (1, .int x30), (2, .int x53)] [] g76 (am_ri r)) : ∀ (n : Nat) (x74 : Int32) (g75 : am_G) (r : Int32 × am_G), fX12_told_L197 k x30 x53 n x74 g75 = some r → am_Ev zr MX12_told 10 197 [(0, .ref 0), (1, .int x30), (2, .int x53), (4, .int x74)] [] g75 (am_ri r) := by
  intro n
  induction n with
  | zero => intro x74 g75 r h; exact nomatch (show (none : Option (Int32 × am_G)) = some r from h)
  | succ n ih =>
    intro x74 g75 r h
    rw [fX12_told_L197] at h
    refine ev_iload 3 dX12_told_197 rfl ?_
    refine ev_sipush dX12_told_199 rfl ?_
    refine ev_icmp_ge 225 dX12_told_202 (by decide) (fun c77 => ?_) (fun c77 => ?_)
    · replace h := am_ifp c77 h
      refine ev_sub [0, 1, 2] rfl ?_
      exact hk  _ _ h
    · replace h := am_ifn c77 h
      refine ev_aload_n 0 dX12_told_205 rfl ?_
      refine ev_gf (v := .ref 5) dX12_told_206 (fun h9 => (h9.2.1 0 _ rfl).2) 6 (by decide) (by decide) kF_X12_23 (fun h9 => congrArg va_rf (h9.2.2 0 6 5 rfl)) ?_
      refine ev_iload 3 dX12_told_209 rfl ?_
      refine ev_aload_n 0 dX12_told_211 rfl ?_
      refine ev_gf (v := .ref 7) dX12_told_212 (fun h9 => (h9.2.1 0 _ rfl).2) 9 (by decide) (by decide) kF_X12_29 (fun h9 => congrArg va_rf (h9.2.2 0 9 7 rfl)) ?_
      refine ev_iload 3 dX12_told_215 rfl ?_
      obtain ⟨c78, h⟩ := am_gd_elim h
      refine ev_iald dX12_told_217 (fun h9 => (h9.2.1 7 _ rfl).2) (am_in_vp c78) ?_
      obtain ⟨c79, h⟩ := am_gd_elim h
      refine ev_iast dX12_told_218 (fun h9 => (h9.2.1 5 _ rfl).2) (am_in_vp c79) ?_
      refine am_let_elim (P := fun g80 => am_Ev zr MX12_told 10 219 [(0, .ref 0), (1, .int x30), (2, .int x53), (4, .int x74)] [] g80 (am_ri r)) h fun g80 h => ?_
      obtain ⟨x81, ex81, h⟩ := am_let_ex h
      refine ev_iinc (ls' := [(4, .int x81), (0, .ref 0), (1, .int x30), (2, .int x53)]) 3 dX12_told_219 rfl ex81 (by decide) rfl ?_
      refine ev_goto 197 dX12_told_222 (by decide) ?_
      refine ev_sub [1, 2, 3, 0] rfl ?_
      exact ih _ _ _ h
set_option maxRecDepth 100000 in
set_option maxHeartbeats 4000000 in
theorem tfX12_told_L228  (x30 : Int32) (x53 : Int32) : ∀ (n : Nat) (x83 : Int32) (g84 : am_G) (r : Int32 × am_G), fX12_told_L228 x30 x53 n x83 g84 = some r → am_Ev zr MX12_told 10 228 [(0, .ref 0), (1, .int x30), (2, .int x53), (4, .int x83)] [] g84 (am_ri r) := by
  intro n
  induction n with
  | zero => intro x83 g84 r h; exact nomatch (show (none : Option (Int32 × am_G)) = some r from h)
  | succ n ih =>
    intro x83 g84 r h
    rw [fX12_told_L228] at h
    refine ev_iload 3 dX12_told_228 rfl ?_
    refine ev_bipush dX12_told_230 rfl ?_
    refine ev_icmp_ge 255 dX12_told_232 (by decide) (fun c85 => ?_) (fun c85 => ?_)
    · replace h := am_ifp c85 h
      refine ev_aload_n 0 dX12_told_255 rfl ?_
      refine ev_iload_n 1 dX12_told_256 rfl ?_
      refine ev_pfi dX12_told_257 (fun h9 => (h9.2.1 0 _ rfl).2) 8 (by decide) (by decide) kF_X12_169 rfl rfl rfl (fun _ => rfl) ?_
      refine am_let_elim (P := fun g86 => am_Ev zr MX12_told 10 260 [(0, .ref 0), (1, .int x30), (2, .int x53), (4, .int x83)] [] g86 (am_ri r)) h fun g86 h => ?_
      refine ev_aload_n 0 dX12_told_260 rfl ?_
      refine ev_iload_n 2 dX12_told_261 rfl ?_
      refine ev_pfi dX12_told_262 (fun h9 => (h9.2.1 0 _ rfl).2) 59 (by decide) (by decide) kF_X12_153 rfl rfl rfl (fun _ => rfl) ?_
      refine am_let_elim (P := fun g87 => am_Ev zr MX12_told 10 265 [(0, .ref 0), (1, .int x30), (2, .int x53), (4, .int x83)] [] g87 (am_ri r)) h fun g87 h => ?_
      refine ev_aload_n 0 dX12_told_265 rfl ?_
      refine ev_bipush dX12_told_266 rfl ?_
      obtain ⟨v88, g89, e90, h⟩ := am_bd_elim h
      refine ev_callVi (v := v88) [.int (-3 : Int32)] [] dX12_told_268 (tX12_tell e90) (by decide) mo_X12_tell kM_X12_176 ki_X12_tell kv_X12_tell (fun h9 => (h9.2.1 0 _ rfl).2) (by decide) rfl (Nat.le_of_ble_eq_true rfl) ?_
      cases h
      exact ev_iret dX12_told_271 rfl
    · replace h := am_ifn c85 h
      refine ev_aload_n 0 dX12_told_235 rfl ?_
      refine ev_gf (v := .ref 6) dX12_told_236 (fun h9 => (h9.2.1 0 _ rfl).2) 7 (by decide) (by decide) kF_X12_26 (fun h9 => congrArg va_rf (h9.2.2 0 7 6 rfl)) ?_
      refine ev_iload 3 dX12_told_239 rfl ?_
      refine ev_aload_n 0 dX12_told_241 rfl ?_
      refine ev_gf (v := .ref 8) dX12_told_242 (fun h9 => (h9.2.1 0 _ rfl).2) 10 (by decide) (by decide) kF_X12_32 (fun h9 => congrArg va_rf (h9.2.2 0 10 8 rfl)) ?_
      refine ev_iload 3 dX12_told_245 rfl ?_
      obtain ⟨c91, h⟩ := am_gd_elim h
      refine ev_iald dX12_told_247 (fun h9 => (h9.2.1 8 _ rfl).2) (am_in_vp c91) ?_
      obtain ⟨c92, h⟩ := am_gd_elim h
      refine ev_iast dX12_told_248 (fun h9 => (h9.2.1 6 _ rfl).2) (am_in_vp c92) ?_
      refine am_let_elim (P := fun g93 => am_Ev zr MX12_told 10 249 [(0, .ref 0), (1, .int x30), (2, .int x53), (4, .int x83)] [] g93 (am_ri r)) h fun g93 h => ?_
      obtain ⟨x94, ex94, h⟩ := am_let_ex h
      refine ev_iinc (ls' := [(4, .int x94), (0, .ref 0), (1, .int x30), (2, .int x53)]) 3 dX12_told_249 rfl ex94 (by decide) rfl ?_
      refine ev_goto 228 dX12_told_252 (by decide) ?_
      refine ev_sub [1, 2, 3, 0] rfl ?_
      exact ih _ _ _ h
set_option maxRecDepth 100000 in
set_option maxHeartbeats 4000000 in
theorem tfX12_told_L161  {k : am_G → Option (Int32 × am_G)} (x30 : Int32) (x53 : Int32) (hk : ∀  (g63 : am_G) (r : Int32 × am_G), k  g63 = some r → am_Ev zr MX12_told 10 278 [(0, .ref 0), (1, .int x30), (2, .int x53)] [] g63 (am_ri r)) : ∀ (n : Nat) (x61 : Int32) (g62 : am_G) (r : Int32 × am_G), fX12_told_L161 k x30 x53 n x61 g62 = some r → am_Ev zr MX12_told 10 161 [(0, .ref 0), (1, .int x30), (2, .int x53), (3, .int x61)] [] g62 (am_ri r) := by
  intro n
  induction n with
  | zero => intro x61 g62 r h; exact nomatch (show (none : Option (Int32 × am_G)) = some r from h)
  | succ n ih =>
    intro x61 g62 r h
    rw [fX12_told_L161] at h
    refine ev_iload_n 3 dX12_told_161 rfl ?_
    refine ev_aload_n 0 dX12_told_162 rfl ?_
    refine ev_gf (v := .ref 33) dX12_told_163 (fun h9 => (h9.2.1 0 _ rfl).2) 55 (by decide) (by decide) kF_X12_150 (fun h9 => congrArg va_rf (h9.2.2 0 55 33 rfl)) ?_
    refine ev_bipush dX12_told_166 rfl ?_
    refine ev_iload_n 2 dX12_told_168 rfl ?_
    refine ev_imul dX12_told_169 ?_
    refine ev_bipush dX12_told_170 rfl ?_
    refine ev_iadd dX12_told_172 ?_
    obtain ⟨c64, h⟩ := am_gd_elim h
    refine ev_iald dX12_told_173 (fun h9 => (h9.2.1 33 _ rfl).2) (am_in_vp c64) ?_
    refine ev_icmp_ge 278 dX12_told_174 (by decide) (fun c65 => ?_) (fun c65 => ?_)
    · replace h := am_ifp c65 h
      refine ev_sub [0, 1, 2] rfl ?_
      exact hk  _ _ h
    · replace h := am_ifn c65 h
      refine ev_aload_n 0 dX12_told_177 rfl ?_
      refine ev_bipush dX12_told_178 rfl ?_
      refine ev_iload_n 2 dX12_told_180 rfl ?_
      refine ev_imul dX12_told_181 ?_
      obtain ⟨v66, g67, e68, h⟩ := am_bd_elim h
      refine ev_callVi (v := v66) [.int ((10 : Int32) * x53)] [] dX12_told_182 (tX12_run e68) (by decide) mo_X12_run kM_X12_531 ki_X12_run kv_X12_run (fun h9 => (h9.2.1 0 _ rfl).2) (by decide) rfl (Nat.le_of_ble_eq_true rfl) ?_
      refine ev_if_ge 272 dX12_told_185 (by decide) (fun c69 => ?_) (fun c69 => ?_)
      · replace h := am_ifp c69 h
        obtain ⟨x70, ex70, h⟩ := am_let_ex h
        refine ev_iinc (ls' := [(3, .int x70), (0, .ref 0), (1, .int x30), (2, .int x53)]) 3 dX12_told_272 rfl ex70 (by decide) rfl ?_
        refine ev_goto 161 dX12_told_275 (by decide) ?_
        refine ev_sub [1, 2, 3, 0] rfl ?_
        exact ih _ _ _ h
      · replace h := am_ifn c69 h
        refine ev_aload_n 0 dX12_told_188 rfl ?_
        refine ev_bipush dX12_told_189 rfl ?_
        obtain ⟨u71, g72, e73, h⟩ := am_bd_elim h
        refine ev_callVv [.int (20 : Int32)] [] dX12_told_191 (tX12_putBack e73) (by decide) mo_X12_putBack kM_X12_180 ki_X12_putBack kv_X12_putBack (fun h9 => (h9.2.1 0 _ rfl).2) (by decide) rfl (Nat.le_of_ble_eq_true rfl) ?_
        refine ev_iconst dX12_told_194 rfl ?_
        refine ev_istore (ls' := [(4, .int (0 : Int32)), (0, .ref 0), (1, .int x30), (2, .int x53), (3, .int x61)]) dX12_told_195 (by decide) rfl ?_
        refine ev_sub [1, 2, 3, 0] rfl ?_
        refine tfX12_told_L197 x30 x53 ?_ _ _ _ _ h
        intro  g82 r h
        try dsimp only at h
        refine ev_iconst dX12_told_225 rfl ?_
        refine ev_istore (ls' := [(4, .int (0 : Int32)), (0, .ref 0), (1, .int x30), (2, .int x53)]) dX12_told_226 (by decide) rfl ?_
        refine ev_sub [1, 2, 3, 0] rfl ?_
        exact tfX12_told_L228 x30 x53 _ _ _ _ h
set_option maxRecDepth 100000 in
set_option maxHeartbeats 4000000 in
theorem tfX12_told_L151  {k : Int32 → am_G → Option (Int32 × am_G)} (x30 : Int32) (hk : ∀ (x55 : Int32) (g56 : am_G) (r : Int32 × am_G), k x55 g56 = some r → am_Ev zr MX12_told 10 188 [(0, .ref 0), (1, .int x30), (2, .int x55)] [] g56 (am_ri r)) : ∀ (n : Nat) (x53 : Int32) (g54 : am_G) (r : Int32 × am_G), fX12_told_L151 k x30 n x53 g54 = some r → am_Ev zr MX12_told 10 151 [(0, .ref 0), (1, .int x30), (2, .int x53)] [] g54 (am_ri r) := by
  intro n
  induction n with
  | zero => intro x53 g54 r h; exact nomatch (show (none : Option (Int32 × am_G)) = some r from h)
  | succ n ih =>
    intro x53 g54 r h
    rw [fX12_told_L151] at h
    refine ev_iload_n 2 dX12_told_151 rfl ?_
    refine ev_aload_n 0 dX12_told_152 rfl ?_
    refine ev_gf (v := .int (am_I g54 0 21)) dX12_told_153 (fun h9 => (h9.2.1 0 _ rfl).2) 21 (by decide) (by decide) kF_X12_370 (fun _ => rfl) ?_
    refine ev_icmp_ge 284 dX12_told_156 (by decide) (fun c57 => ?_) (fun c57 => ?_)
    · replace h := am_ifp c57 h
      refine ev_aload_n 0 dX12_told_284 rfl ?_
      refine ev_aload_n 0 dX12_told_285 rfl ?_
      refine ev_gf (v := .int (am_I g54 0 56)) dX12_told_286 (fun h9 => (h9.2.1 0 _ rfl).2) 56 (by decide) (by decide) kF_X12_515 (fun _ => rfl) ?_
      obtain ⟨v58, g59, e60, h⟩ := am_bd_elim h
      refine ev_callVi (v := v58) [.int (am_I g54 0 56)] [] dX12_told_289 (tX12_tell e60) (by decide) mo_X12_tell kM_X12_176 ki_X12_tell kv_X12_tell (fun h9 => (h9.2.1 0 _ rfl).2) (by decide) rfl (Nat.le_of_ble_eq_true rfl) ?_
      cases h
      exact ev_iret dX12_told_292 rfl
    · replace h := am_ifn c57 h
      refine ev_iconst dX12_told_159 rfl ?_
      refine ev_istore_n (ls' := [(3, .int (0 : Int32)), (0, .ref 0), (1, .int x30), (2, .int x53)]) dX12_told_160 rfl (by decide) rfl ?_
      refine ev_sub [1, 2, 3, 0] rfl ?_
      refine tfX12_told_L161 x30 x53 ?_ _ _ _ _ h
      intro  g95 r h
      try dsimp only at h
      obtain ⟨x96, ex96, h⟩ := am_let_ex h
      refine ev_iinc (ls' := [(2, .int x96), (0, .ref 0), (1, .int x30)]) 2 dX12_told_278 rfl ex96 (by decide) rfl ?_
      refine ev_goto 151 dX12_told_281 (by decide) ?_
      refine ev_sub [1, 2, 0] rfl ?_
      exact ih _ _ _ h
set_option maxRecDepth 100000 in
set_option maxHeartbeats 4000000 in
theorem eX12_told (g : am_G) (r : Int32 × am_G) (h : fX12_told g = some r) : am_Ev zr MX12_told 10 0 [(0, .ref 0)] [] g (am_ri r) := by
  unfold fX12_told at h
  refine ev_aload_n 0 dX12_told_0 rfl ?_
  refine ev_iconst dX12_told_1 rfl ?_
  refine ev_pfi dX12_told_2 (fun h9 => (h9.2.1 0 _ rfl).2) 0 (by decide) (by decide) kF_X12_163 rfl rfl rfl (fun _ => rfl) ?_
  refine am_let_elim (P := fun g1 => am_Ev zr MX12_told 10 5 [(0, .ref 0)] [] g1 (am_ri r)) h fun g1 h => ?_
  refine ev_aload_n 0 dX12_told_5 rfl ?_
  refine ev_iconst dX12_told_6 rfl ?_
  refine ev_pfi dX12_told_7 (fun h9 => (h9.2.1 0 _ rfl).2) 59 (by decide) (by decide) kF_X12_153 rfl rfl rfl (fun _ => rfl) ?_
  refine am_let_elim (P := fun g2 => am_Ev zr MX12_told 10 10 [(0, .ref 0)] [] g2 (am_ri r)) h fun g2 h => ?_
  refine ev_aload_n 0 dX12_told_10 rfl ?_
  refine ev_iconst dX12_told_11 rfl ?_
  obtain ⟨u3, g4, e5, h⟩ := am_bd_elim h
  refine ev_callVv [.int (1 : Int32)] [] dX12_told_12 (tX12_beginText e5) (by decide) mo_X12_beginText kM_X12_378 ki_X12_beginText kv_X12_beginText (fun h9 => (h9.2.1 0 _ rfl).2) (by decide) rfl (Nat.le_of_ble_eq_true rfl) ?_
  refine ev_aload_n 0 dX12_told_15 rfl ?_
  obtain ⟨u6, g7, e8, h⟩ := am_bd_elim h
  refine ev_callVv [] [] dX12_told_16 (tX12_readTold e8) (by decide) mo_X12_readTold kM_X12_528 ki_X12_readTold kv_X12_readTold (fun h9 => (h9.2.1 0 _ rfl).2) (by decide) rfl (Nat.le_of_ble_eq_true rfl) ?_
  refine ev_sub [0] rfl ?_
  refine tfX12_told_L19 ?_ _  _ _ h
  intro  g22 r h
  try dsimp only at h
  refine ev_aload_n 0 dX12_told_46 rfl ?_
  obtain ⟨u23, g24, e25, h⟩ := am_bd_elim h
  refine ev_callVv [] [] dX12_told_47 (tX12_endText e25) (by decide) mo_X12_endText kM_X12_384 ki_X12_endText kv_X12_endText (fun h9 => (h9.2.1 0 _ rfl).2) (by decide) rfl (Nat.le_of_ble_eq_true rfl) ?_
  refine ev_aload_n 0 dX12_told_50 rfl ?_
  refine ev_gf (v := .int (am_I g24 0 19)) dX12_told_51 (fun h9 => (h9.2.1 0 _ rfl).2) 19 (by decide) (by decide) kF_X12_239 (fun _ => rfl) ?_
  refine ev_if_eq 64 dX12_told_54 (by decide) (fun c26 => ?_) (fun c26 => ?_)
  · replace h := am_ifp c26 h
    refine ev_aload_n 0 dX12_told_64 rfl ?_
    refine ev_bipush dX12_told_65 rfl ?_
    obtain ⟨u27, g28, e29, h⟩ := am_bd_elim h
    refine ev_callVv [.int (20 : Int32)] [] dX12_told_67 (tX12_keepAll e29) (by decide) mo_X12_keepAll kM_X12_172 ki_X12_keepAll kv_X12_keepAll (fun h9 => (h9.2.1 0 _ rfl).2) (by decide) rfl (Nat.le_of_ble_eq_true rfl) ?_
    refine ev_aload_n 0 dX12_told_70 rfl ?_
    refine ev_gf (v := .int (am_I g28 0 8)) dX12_told_71 (fun h9 => (h9.2.1 0 _ rfl).2) 8 (by decide) (by decide) kF_X12_169 (fun _ => rfl) ?_
    refine am_let_elim (P := fun x30 => am_Ev zr MX12_told 10 74 [(0, .ref 0)] [.int x30] g28 (am_ri r)) h fun x30 h => ?_
    refine ev_istore_n (ls' := [(1, .int x30), (0, .ref 0)]) dX12_told_74 rfl (by decide) rfl ?_
    refine ev_iconst dX12_told_75 rfl ?_
    refine ev_istore_n (ls' := [(2, .int (0 : Int32)), (1, .int x30), (0, .ref 0)]) dX12_told_76 rfl (by decide) rfl ?_
    refine ev_sub [2, 1, 0] rfl ?_
    refine tfX12_told_L77 x30 ?_ _ _ _ _ h
    intro  g39 r h
    try dsimp only at h
    refine ev_iconst dX12_told_102 rfl ?_
    refine ev_istore_n (ls' := [(2, .int (0 : Int32)), (0, .ref 0), (1, .int x30)]) dX12_told_103 rfl (by decide) rfl ?_
    refine ev_sub [1, 2, 0] rfl ?_
    refine tfX12_told_L104 x30 ?_ _ _ _ _ h
    intro  g48 r h
    try dsimp only at h
    refine ev_aload_n 0 dX12_told_128 rfl ?_
    refine ev_iconst dX12_told_129 rfl ?_
    refine ev_pfi dX12_told_130 (fun h9 => (h9.2.1 0 _ rfl).2) 56 (by decide) (by decide) kF_X12_515 rfl rfl rfl (fun _ => rfl) ?_
    refine am_let_elim (P := fun g49 => am_Ev zr MX12_told 10 133 [(0, .ref 0), (1, .int x30)] [] g49 (am_ri r)) h fun g49 h => ?_
    refine ev_aload_n 0 dX12_told_133 rfl ?_
    refine ev_iconst dX12_told_134 rfl ?_
    refine ev_pfi dX12_told_135 (fun h9 => (h9.2.1 0 _ rfl).2) 57 (by decide) (by decide) kF_X12_518 rfl rfl rfl (fun _ => rfl) ?_
    refine am_let_elim (P := fun g50 => am_Ev zr MX12_told 10 138 [(0, .ref 0), (1, .int x30)] [] g50 (am_ri r)) h fun g50 h => ?_
    refine ev_aload_n 0 dX12_told_138 rfl ?_
    refine ev_aload_n 0 dX12_told_139 rfl ?_
    refine ev_gf (v := .ref 2) dX12_told_140 (fun h9 => (h9.2.1 0 _ rfl).2) 3 (by decide) (by decide) kF_X12_13 (fun h9 => congrArg va_rf (h9.2.2 0 3 2 rfl)) ?_
    refine ev_bipush dX12_told_143 rfl ?_
    obtain ⟨c51, h⟩ := am_gd_elim h
    refine ev_iald dX12_told_145 (fun h9 => (h9.2.1 2 _ rfl).2) (am_in_vp c51) ?_
    refine ev_pfi dX12_told_146 (fun h9 => (h9.2.1 0 _ rfl).2) 58 (by decide) (by decide) kF_X12_521 rfl rfl rfl (fun _ => rfl) ?_
    refine am_let_elim (P := fun g52 => am_Ev zr MX12_told 10 149 [(0, .ref 0), (1, .int x30)] [] g52 (am_ri r)) h fun g52 h => ?_
    refine ev_iconst dX12_told_149 rfl ?_
    refine ev_istore_n (ls' := [(2, .int (0 : Int32)), (0, .ref 0), (1, .int x30)]) dX12_told_150 rfl (by decide) rfl ?_
    refine ev_sub [1, 2, 0] rfl ?_
    refine tfX12_told_L151 x30 ?_ _ _ _ _ h
    intro x97 g98 r h
    try dsimp only at h
    refine ev_aload_n 0 dX12_told_188 rfl ?_
    refine ev_bipush dX12_told_189 rfl ?_
    obtain ⟨u99, g100, e101, h⟩ := am_bd_elim h
    refine ev_callVv [.int (20 : Int32)] [] dX12_told_191 (tX12_putBack e101) (by decide) mo_X12_putBack kM_X12_180 ki_X12_putBack kv_X12_putBack (fun h9 => (h9.2.1 0 _ rfl).2) (by decide) rfl (Nat.le_of_ble_eq_true rfl) ?_
    refine ev_iconst dX12_told_194 rfl ?_
    refine ev_istore (ls' := [(4, .int (0 : Int32)), (0, .ref 0), (1, .int x30), (2, .int x97)]) dX12_told_195 (by decide) rfl ?_
    refine ev_sub [1, 2, 3, 0] rfl ?_
    refine tfX12_told_L197 x30 x97 ?_ _ _ _ _ h
    intro  g102 r h
    try dsimp only at h
    refine ev_iconst dX12_told_225 rfl ?_
    refine ev_istore (ls' := [(4, .int (0 : Int32)), (0, .ref 0), (1, .int x30), (2, .int x97)]) dX12_told_226 (by decide) rfl ?_
    refine ev_sub [1, 2, 3, 0] rfl ?_
    exact tfX12_told_L228 x30 x97 _ _ _ _ h
  · replace h := am_ifn c26 h
    refine ev_aload_n 0 dX12_told_57 rfl ?_
    refine ev_bipush dX12_told_58 rfl ?_
    obtain ⟨v103, g104, e105, h⟩ := am_bd_elim h
    refine ev_callVi (v := v103) [.int (-6 : Int32)] [] dX12_told_60 (tX12_tell e105) (by decide) mo_X12_tell kM_X12_176 ki_X12_tell kv_X12_tell (fun h9 => (h9.2.1 0 _ rfl).2) (by decide) rfl (Nat.le_of_ble_eq_true rfl) ?_
    cases h
    exact ev_iret dX12_told_63 rfl
theorem tX12_told {g : am_G} {r : Int32 × am_G} (h : fX12_told g = some r) : am_Mt zr MX12_told 10 [.ref 0] g (am_ri r) := am_Mt.of rfl (Nat.le_of_ble_eq_true rfl) (eX12_told _ _ h)
def fX12_stopped (g : am_G) : Option (Int32 × am_G) :=
  am_let (am_si g 0 0 (0 : Int32)) fun g1 =>
  some (am_I g1 0 59, g1)
set_option maxRecDepth 100000 in
set_option maxHeartbeats 4000000 in
theorem eX12_stopped (g : am_G) (r : Int32 × am_G) (h : fX12_stopped g = some r) : am_Ev zr MX12_stopped 0 0 [(0, .ref 0)] [] g (am_ri r) := by
  unfold fX12_stopped at h
  refine ev_aload_n 0 dX12_stopped_0 rfl ?_
  refine ev_iconst dX12_stopped_1 rfl ?_
  refine ev_pfi dX12_stopped_2 (fun h9 => (h9.2.1 0 _ rfl).2) 0 (by decide) (by decide) kF_X12_163 rfl rfl rfl (fun _ => rfl) ?_
  refine am_let_elim (P := fun g1 => am_Ev zr MX12_stopped 0 5 [(0, .ref 0)] [] g1 (am_ri r)) h fun g1 h => ?_
  refine ev_aload_n 0 dX12_stopped_5 rfl ?_
  refine ev_gf (v := .int (am_I g1 0 59)) dX12_stopped_6 (fun h9 => (h9.2.1 0 _ rfl).2) 59 (by decide) (by decide) kF_X12_153 (fun _ => rfl) ?_
  cases h
  exact ev_iret dX12_stopped_9 rfl
theorem tX12_stopped {g : am_G} {r : Int32 × am_G} (h : fX12_stopped g = some r) : am_Mt zr MX12_stopped 0 [.ref 0] g (am_ri r) := am_Mt.of rfl (Nat.le_of_ble_eq_true rfl) (eX12_stopped _ _ h)
def fX12_draw (a1 : Int32) (g : am_G) : Option (Int32 × am_G) :=
  am_let (am_sl g 0 61 ((((am_L g 0 61) * (1103 : Int64)) + (12345 : Int64)) - (((am_L g 0 61) * (1103 : Int64)) + (12345 : Int64)) / (1000003 : Int64) * (1000003 : Int64))) fun g1 =>
  am_gd (!decide (a1.toInt64 = 0)) <|
  some (((am_L g1 0 61) - (am_L g1 0 61) / a1.toInt64 * a1.toInt64).toInt32, g1)
set_option maxRecDepth 100000 in
set_option maxHeartbeats 4000000 in
theorem eX12_draw (a1 : Int32) (g : am_G) (r : Int32 × am_G) (h : fX12_draw a1 g = some r) : am_Ev zr MX12_draw 0 0 [(0, .ref 0), (1, .int a1)] [] g (am_ri r) := by
  unfold fX12_draw at h
  refine ev_aload_n 0 dX12_draw_0 rfl ?_
  refine ev_aload_n 0 dX12_draw_1 rfl ?_
  refine ev_gf (v := .long (am_L g 0 61)) dX12_draw_2 (fun h9 => (h9.2.1 0 _ rfl).2) 61 (by decide) (by decide) kF_X12_534 (fun _ => rfl) ?_
  refine ev_ldc2 dX12_draw_5 kL_X12_537 ?_
  refine ev_lmul dX12_draw_8 ?_
  refine ev_ldc2 dX12_draw_9 kL_X12_539 ?_
  refine ev_ladd dX12_draw_12 ?_
  refine ev_ldc2 dX12_draw_13 kL_X12_541 ?_
  refine ev_lrem dX12_draw_16 (by decide) ?_
  refine ev_pfl dX12_draw_17 (fun h9 => (h9.2.1 0 _ rfl).2) 61 (by decide) (by decide) kF_X12_534 rfl rfl ?_
  refine am_let_elim (P := fun g1 => am_Ev zr MX12_draw 0 20 [(0, .ref 0), (1, .int a1)] [] g1 (am_ri r)) h fun g1 h => ?_
  refine ev_aload_n 0 dX12_draw_20 rfl ?_
  refine ev_gf (v := .long (am_L g1 0 61)) dX12_draw_21 (fun h9 => (h9.2.1 0 _ rfl).2) 61 (by decide) (by decide) kF_X12_534 (fun _ => rfl) ?_
  refine ev_iload_n 1 dX12_draw_24 rfl ?_
  refine ev_i2l dX12_draw_25 ?_
  obtain ⟨c2, h⟩ := am_gd_elim h
  refine ev_lrem dX12_draw_26 (by simpa using c2) ?_
  refine ev_l2i dX12_draw_27 ?_
  cases h
  exact ev_iret dX12_draw_28 rfl
theorem tX12_draw {a1 : Int32} {g : am_G} {r : Int32 × am_G} (h : fX12_draw a1 g = some r) : am_Mt zr MX12_draw 0 [.ref 0, .int a1] g (am_ri r) := am_Mt.of rfl (Nat.le_of_ble_eq_true rfl) (eX12_draw _ _ _ h)
def fX12_winter_L63 (k : am_G → Option (Int32 × am_G)) (a2 : Int32) (x19 : Int32) : Nat → Int32 → am_G → Option (Int32 × am_G)
  | 0, _, _ => none
  | n + 1, x20, g21 =>
    if (6 : Int32) ≤ x20 then (
      k g21)
    else (
      am_bd (fX12_ofSlope x20 (9 : Int32) g21) fun v24 g25 =>
      am_gd (am_in (((2 : Int32) * x20) + (1 : Int32)) 12) <|
      am_let (am_si g25 34 (((2 : Int32) * x20) + (1 : Int32)).toNatClampNeg (-v24)) fun g28 =>
      am_let (x20 + (1 : Int32)) fun x29 =>
      fX12_winter_L63 k a2 x19 n x29 g28)
def fX12_winter_L102 (k : am_G → Option (Int32 × am_G)) (a2 : Int32) (x19 : Int32) : Nat → Int32 → Int32 → am_G → Option (Int32 × am_G)
  | 0, _, _, _ => none
  | n + 1, x31, x32, g33 =>
    if a2 ≤ x32 then (
      k g33)
    else (
      if x31 = 0 then (
        k g33)
      else (
        am_gd (am_in (0 : Int32) 5660) <|
        am_jn (fun  (g39 : am_G) =>
          am_bd (fX12_day g39) fun v41 g42 =>
          am_jn (fun (x45 : Int32) (g46 : am_G) =>
            am_jn (fun  (g49 : am_G) =>
              am_let (x32 + (1 : Int32)) fun x51 =>
              fX12_winter_L102 k a2 x19 n x45 x51 g49) fun j50 =>
            if x45 = 0 then (
              j50 g46)
            else (
              am_bd (fX12_dawnIt g46) fun v52 g53 =>
              j50 g53)) fun j47 =>
          if (999 : Int32) ≤ v41 then (
            j47 (0 : Int32) g42)
          else (
            j47 (1 : Int32) g42)) fun j40 =>
        if (am_I g33 2 (0 : Int32).toNatClampNeg) ≤ 0 then (
          j40 g33)
        else (
          am_gd (am_in (0 : Int32) 5660) <|
          am_bd (fX12_draw (am_I g33 2 (0 : Int32).toNatClampNeg) g33) fun v56 g57 =>
          am_bd (fX12_draw (4 : Int32) g57) fun v59 g60 =>
          am_bd (fX12_draw (3 : Int32) g60) fun v62 g63 =>
          am_let (v62 + (1 : Int32)) fun x65 =>
          am_bd (fX12_isBarred v56 v59 x65 g63) fun v66 g67 =>
          if v66 = 0 then (
            am_bd (fX12_sayIt (0 : Int32) v56 v59 x65 g67) fun v70 g71 =>
            j40 g71)
          else (
            j40 g67))))
def fX12_winter_L211 (x19 : Int32) : Nat → Int32 → am_G → Option (Int32 × am_G)
  | 0, _, _ => none
  | n + 1, x74, g75 =>
    if (6 : Int32) ≤ x74 then (
      am_gd (am_in (8 : Int32) 5660) <|
      am_let ((am_I g75 2 (8 : Int32).toNatClampNeg) - x19) fun x78 =>
      am_bd (fX12_putBack (16 : Int32) g75) fun u79 g80 =>
      am_bd (fX12_tell x78 g80) fun v82 g83 =>
      some (v82, g83))
    else (
      am_bd (fX12_ofSlope x74 (0 : Int32) g75) fun v85 g86 =>
      am_gd (am_in ((2 : Int32) * x74) 12) <|
      am_let (am_si g86 34 ((2 : Int32) * x74).toNatClampNeg v85) fun g89 =>
      am_gd (am_in (((2 : Int32) * x74) + (1 : Int32)) 12) <|
      am_bd (fX12_ofSlope x74 (9 : Int32) g89) fun v91 g92 =>
      am_gd (am_in (((2 : Int32) * x74) + (1 : Int32)) 12) <|
      am_let (am_si g92 34 (((2 : Int32) * x74) + (1 : Int32)).toNatClampNeg ((am_I g89 34 (((2 : Int32) * x74) + (1 : Int32)).toNatClampNeg) + v91)) fun g95 =>
      am_let (x74 + (1 : Int32)) fun x96 =>
      fX12_winter_L211 x19 n x96 g95)
def fX12_winter (a1 : Int32) (a2 : Int32) (g : am_G) : Option (Int32 × am_G) :=
  am_let (am_si g 0 0 (0 : Int32)) fun g1 =>
  am_bd (fX12_in a1.toInt64 (0 : Int64) (1000000 : Int64) g1) fun v2 g3 =>
  if v2 = 0 then (
    am_bd (fX12_tell (-1 : Int32) g3) fun v6 g7 =>
    some (v6, g7))
  else (
    am_bd (fX12_in a2.toInt64 (1 : Int64) (100 : Int64) g3) fun v9 g10 =>
    if v9 = 0 then (
      am_bd (fX12_tell (-1 : Int32) g10) fun v97 g98 =>
      some (v97, g98))
    else (
      am_bd (fX12_keepAll (16 : Int32) g10) fun u13 g14 =>
      am_let (am_sl g14 0 61 a1.toInt64) fun g16 =>
      am_let (am_si g16 0 63 (1 : Int32)) fun g17 =>
      am_gd (am_in (8 : Int32) 5660) <|
      am_let (am_I g17 2 (8 : Int32).toNatClampNeg) fun x19 =>
      fX12_winter_L63 (fun  (g30 : am_G) =>
        fX12_winter_L102 (fun  (g73 : am_G) =>
          fX12_winter_L211 x19 am_fu (0 : Int32) g73) a2 x19 am_fu (1 : Int32) (0 : Int32) g30) a2 x19 am_fu (0 : Int32) g17))
set_option maxRecDepth 100000 in
set_option maxHeartbeats 4000000 in
theorem tfX12_winter_L63  {k : am_G → Option (Int32 × am_G)} (a2 : Int32) (x19 : Int32) (hk : ∀  (g22 : am_G) (r : Int32 × am_G), k  g22 = some r → am_Ev zr MX12_winter 7 96 [(0, .ref 0), (2, .int a2), (3, .int x19)] [] g22 (am_ri r)) : ∀ (n : Nat) (x20 : Int32) (g21 : am_G) (r : Int32 × am_G), fX12_winter_L63 k a2 x19 n x20 g21 = some r → am_Ev zr MX12_winter 7 63 [(0, .ref 0), (2, .int a2), (3, .int x19), (4, .int x20)] [] g21 (am_ri r) := by
  intro n
  induction n with
  | zero => intro x20 g21 r h; exact nomatch (show (none : Option (Int32 × am_G)) = some r from h)
  | succ n ih =>
    intro x20 g21 r h
    rw [fX12_winter_L63] at h
    refine ev_iload 3 dX12_winter_63 rfl ?_
    refine ev_bipush dX12_winter_65 rfl ?_
    refine ev_icmp_ge 96 dX12_winter_67 (by decide) (fun c23 => ?_) (fun c23 => ?_)
    · replace h := am_ifp c23 h
      refine ev_sub [0, 1, 2] rfl ?_
      exact hk  _ _ h
    · replace h := am_ifn c23 h
      refine ev_aload_n 0 dX12_winter_70 rfl ?_
      refine ev_gf (v := .ref 34) dX12_winter_71 (fun h9 => (h9.2.1 0 _ rfl).2) 62 (by decide) (by decide) kF_X12_156 (fun h9 => congrArg va_rf (h9.2.2 0 62 34 rfl)) ?_
      refine ev_iconst dX12_winter_74 rfl ?_
      refine ev_iload 3 dX12_winter_75 rfl ?_
      refine ev_imul dX12_winter_77 ?_
      refine ev_iconst dX12_winter_78 rfl ?_
      refine ev_iadd dX12_winter_79 ?_
      refine ev_aload_n 0 dX12_winter_80 rfl ?_
      refine ev_iload 3 dX12_winter_81 rfl ?_
      refine ev_bipush dX12_winter_83 rfl ?_
      obtain ⟨v24, g25, e26, h⟩ := am_bd_elim h
      refine ev_callVi (v := v24) [.int x20, .int (9 : Int32)] [.int (((2 : Int32) * x20) + (1 : Int32)), .ref 34] dX12_winter_85 (tX12_ofSlope e26) (by decide) mo_X12_ofSlope kM_X12_210 ki_X12_ofSlope kv_X12_ofSlope (fun h9 => (h9.2.1 0 _ rfl).2) (by decide) rfl (Nat.le_of_ble_eq_true rfl) ?_
      refine ev_ineg dX12_winter_88 ?_
      obtain ⟨c27, h⟩ := am_gd_elim h
      refine ev_iast dX12_winter_89 (fun h9 => (h9.2.1 34 _ rfl).2) (am_in_vp c27) ?_
      refine am_let_elim (P := fun g28 => am_Ev zr MX12_winter 7 90 [(0, .ref 0), (2, .int a2), (3, .int x19), (4, .int x20)] [] g28 (am_ri r)) h fun g28 h => ?_
      obtain ⟨x29, ex29, h⟩ := am_let_ex h
      refine ev_iinc (ls' := [(4, .int x29), (0, .ref 0), (2, .int a2), (3, .int x19)]) 3 dX12_winter_90 rfl ex29 (by decide) rfl ?_
      refine ev_goto 63 dX12_winter_93 (by decide) ?_
      refine ev_sub [1, 2, 3, 0] rfl ?_
      exact ih _ _ _ h
set_option maxRecDepth 100000 in
set_option maxHeartbeats 4000000 in
theorem tfX12_winter_L102  {k : am_G → Option (Int32 × am_G)} (a2 : Int32) (x19 : Int32) (hk : ∀  (g34 : am_G) (r : Int32 × am_G), k  g34 = some r → am_Ev zr MX12_winter 7 208 [(0, .ref 0), (3, .int x19)] [] g34 (am_ri r)) : ∀ (n : Nat) (x31 : Int32) (x32 : Int32) (g33 : am_G) (r : Int32 × am_G), fX12_winter_L102 k a2 x19 n x31 x32 g33 = some r → am_Ev zr MX12_winter 7 102 [(0, .ref 0), (2, .int a2), (3, .int x19), (4, .int x31), (5, .int x32)] [] g33 (am_ri r) := by
  intro n
  induction n with
  | zero => intro x31 x32 g33 r h; exact nomatch (show (none : Option (Int32 × am_G)) = some r from h)
  | succ n ih =>
    intro x31 x32 g33 r h
    rw [fX12_winter_L102] at h
    refine ev_iload 4 dX12_winter_102 rfl ?_
    refine ev_iload_n 1 dX12_winter_104 rfl ?_
    refine ev_icmp_ge 208 dX12_winter_105 (by decide) (fun c35 => ?_) (fun c35 => ?_)
    · replace h := am_ifp c35 h
      refine ev_sub [0, 2] rfl ?_
      exact hk  _ _ h
    · replace h := am_ifn c35 h
      refine ev_iload 3 dX12_winter_108 rfl ?_
      refine ev_if_eq 208 dX12_winter_110 (by decide) (fun c36 => ?_) (fun c36 => ?_)
      · replace h := am_ifp c36 h
        refine ev_sub [0, 2] rfl ?_
        exact hk  _ _ h
      · replace h := am_ifn c36 h
        refine ev_aload_n 0 dX12_winter_113 rfl ?_
        refine ev_gf (v := .ref 2) dX12_winter_114 (fun h9 => (h9.2.1 0 _ rfl).2) 3 (by decide) (by decide) kF_X12_13 (fun h9 => congrArg va_rf (h9.2.2 0 3 2 rfl)) ?_
        refine ev_iconst dX12_winter_117 rfl ?_
        obtain ⟨c37, h⟩ := am_gd_elim h
        refine ev_iald dX12_winter_118 (fun h9 => (h9.2.1 2 _ rfl).2) (am_in_vp c37) ?_
        refine am_jn_elim (fun q9 => ∀  (g39 : am_G) (r : Int32 × am_G), q9  g39 = some r → am_Ev zr MX12_winter 7 175 [(0, .ref 0), (2, .int a2), (3, .int x19), (5, .int x32)] [] g39 (am_ri r)) h ?_ (fun j40 hj40 h => ?_)
        · intro  g39 r h
          try dsimp only at h
          refine ev_aload_n 0 dX12_winter_175 rfl ?_
          obtain ⟨v41, g42, e43, h⟩ := am_bd_elim h
          refine ev_callVi (v := v41) [] [] dX12_winter_176 (tX12_day e43) (by decide) mo_X12_day kM_X12_413 ki_X12_day kv_X12_day (fun h9 => (h9.2.1 0 _ rfl).2) (by decide) rfl (Nat.le_of_ble_eq_true rfl) ?_
          refine ev_sipush dX12_winter_179 rfl ?_
          refine am_jn_elim (fun q9 => ∀ (x45 : Int32) (g46 : am_G) (r : Int32 × am_G), q9 x45 g46 = some r → am_Ev zr MX12_winter 7 190 [(0, .ref 0), (2, .int a2), (3, .int x19), (5, .int x32)] [.int x45] g46 (am_ri r)) h ?_ (fun j47 hj47 h => ?_)
          · intro x45 g46 r h
            try dsimp only at h
            refine ev_istore (ls' := [(4, .int x45), (0, .ref 0), (2, .int a2), (3, .int x19), (5, .int x32)]) dX12_winter_190 (by decide) rfl ?_
            refine ev_iload 0 dX12_winter_192 rfl ?_
            refine am_jn_elim (fun q9 => ∀  (g49 : am_G) (r : Int32 × am_G), q9  g49 = some r → am_Ev zr MX12_winter 7 202 [(0, .ref 0), (2, .int a2), (3, .int x19), (4, .int x45), (5, .int x32)] [] g49 (am_ri r)) h ?_ (fun j50 hj50 h => ?_)
            · intro  g49 r h
              try dsimp only at h
              obtain ⟨x51, ex51, h⟩ := am_let_ex h
              refine ev_iinc (ls' := [(5, .int x51), (0, .ref 0), (2, .int a2), (3, .int x19), (4, .int x45)]) 4 dX12_winter_202 rfl ex51 (by decide) rfl ?_
              refine ev_goto 102 dX12_winter_205 (by decide) ?_
              refine ev_sub [1, 2, 3, 4, 0] rfl ?_
              exact ih _ _ _ _ h
            · refine ev_if_eq 202 dX12_winter_194 (by decide) (fun c48 => ?_) (fun c48 => ?_)
              · replace h := am_ifp c48 h
                refine ev_sub [1, 2, 3, 0, 4] rfl ?_
                exact hj50  _ _ h
              · replace h := am_ifn c48 h
                refine ev_aload_n 1 dX12_winter_197 rfl ?_
                obtain ⟨v52, g53, e54, h⟩ := am_bd_elim h
                refine ev_callVi (v := v52) [] [] dX12_winter_198 (tX12_dawnIt e54) (by decide) mo_X12_dawnIt kM_X12_457 ki_X12_dawnIt kv_X12_dawnIt (fun h9 => (h9.2.1 0 _ rfl).2) (by decide) rfl (Nat.le_of_ble_eq_true rfl) ?_
                refine ev_pop dX12_winter_201 rfl ?_
                refine ev_sub [1, 2, 3, 0, 4] rfl ?_
                exact hj50  _ _ h
          · refine ev_icmp_ge 189 dX12_winter_182 (by decide) (fun c44 => ?_) (fun c44 => ?_)
            · replace h := am_ifp c44 h
              refine ev_iconst dX12_winter_189 rfl ?_
              refine ev_sub [0, 1, 2, 3] rfl ?_
              exact hj47 _ _ _ h
            · replace h := am_ifn c44 h
              refine ev_iconst dX12_winter_185 rfl ?_
              refine ev_goto 190 dX12_winter_186 (by decide) ?_
              refine ev_sub [0, 1, 2, 3] rfl ?_
              exact hj47 _ _ _ h
        · refine ev_if_le 175 dX12_winter_119 (by decide) (fun c38 => ?_) (fun c38 => ?_)
          · replace h := am_ifp c38 h
            refine ev_sub [0, 1, 2, 4] rfl ?_
            exact hj40  _ _ h
          · replace h := am_ifn c38 h
            refine ev_aload_n 0 dX12_winter_122 rfl ?_
            refine ev_aload_n 0 dX12_winter_123 rfl ?_
            refine ev_gf (v := .ref 2) dX12_winter_124 (fun h9 => (h9.2.1 0 _ rfl).2) 3 (by decide) (by decide) kF_X12_13 (fun h9 => congrArg va_rf (h9.2.2 0 3 2 rfl)) ?_
            refine ev_iconst dX12_winter_127 rfl ?_
            obtain ⟨c55, h⟩ := am_gd_elim h
            refine ev_iald dX12_winter_128 (fun h9 => (h9.2.1 2 _ rfl).2) (am_in_vp c55) ?_
            obtain ⟨v56, g57, e58, h⟩ := am_bd_elim h
            refine ev_callVi (v := v56) [.int (am_I g33 2 (0 : Int32).toNatClampNeg)] [] dX12_winter_129 (tX12_draw e58) (by decide) mo_X12_draw kM_X12_548 ki_X12_draw kv_X12_draw (fun h9 => (h9.2.1 0 _ rfl).2) (by decide) rfl (Nat.le_of_ble_eq_true rfl) ?_
            refine ev_istore (ls' := [(6, .int v56), (0, .ref 0), (2, .int a2), (3, .int x19), (4, .int x31), (5, .int x32)]) dX12_winter_132 (by decide) rfl ?_
            refine ev_aload_n 1 dX12_winter_134 rfl ?_
            refine ev_iconst dX12_winter_135 rfl ?_
            obtain ⟨v59, g60, e61, h⟩ := am_bd_elim h
            refine ev_callVi (v := v59) [.int (4 : Int32)] [] dX12_winter_136 (tX12_draw e61) (by decide) mo_X12_draw kM_X12_548 ki_X12_draw kv_X12_draw (fun h9 => (h9.2.1 0 _ rfl).2) (by decide) rfl (Nat.le_of_ble_eq_true rfl) ?_
            refine ev_istore (ls' := [(7, .int v59), (6, .int v56), (0, .ref 0), (2, .int a2), (3, .int x19), (4, .int x31), (5, .int x32)]) dX12_winter_139 (by decide) rfl ?_
            refine ev_aload_n 2 dX12_winter_141 rfl ?_
            refine ev_iconst dX12_winter_142 rfl ?_
            obtain ⟨v62, g63, e64, h⟩ := am_bd_elim h
            refine ev_callVi (v := v62) [.int (3 : Int32)] [] dX12_winter_143 (tX12_draw e64) (by decide) mo_X12_draw kM_X12_548 ki_X12_draw kv_X12_draw (fun h9 => (h9.2.1 0 _ rfl).2) (by decide) rfl (Nat.le_of_ble_eq_true rfl) ?_
            refine ev_iconst dX12_winter_146 rfl ?_
            refine ev_iadd dX12_winter_147 ?_
            refine am_let_elim (P := fun x65 => am_Ev zr MX12_winter 7 148 [(7, .int v59), (6, .int v56), (0, .ref 0), (2, .int a2), (3, .int x19), (4, .int x31), (5, .int x32)] [.int x65] g63 (am_ri r)) h fun x65 h => ?_
            refine ev_istore (ls' := [(8, .int x65), (7, .int v59), (6, .int v56), (0, .ref 0), (2, .int a2), (3, .int x19), (4, .int x31), (5, .int x32)]) dX12_winter_148 (by decide) rfl ?_
            refine ev_aload_n 3 dX12_winter_150 rfl ?_
            refine ev_iload 2 dX12_winter_151 rfl ?_
            refine ev_iload 1 dX12_winter_153 rfl ?_
            refine ev_iload 0 dX12_winter_155 rfl ?_
            obtain ⟨v66, g67, e68, h⟩ := am_bd_elim h
            refine ev_callVi (v := v66) [.int v56, .int v59, .int x65] [] dX12_winter_157 (tX12_isBarred e68) (by decide) mo_X12_isBarred kM_X12_438 ki_X12_isBarred kv_X12_isBarred (fun h9 => (h9.2.1 0 _ rfl).2) (by decide) rfl (Nat.le_of_ble_eq_true rfl) ?_
            refine ev_if_ne 175 dX12_winter_160 (by decide) (fun c69 => ?_) (fun c69 => ?_)
            · replace h := am_ifn c69 h
              refine ev_sub [3, 4, 5, 7] rfl ?_
              exact hj40  _ _ h
            · replace h := am_ifp c69 h
              refine ev_aload_n 3 dX12_winter_163 rfl ?_
              refine ev_iconst dX12_winter_164 rfl ?_
              refine ev_iload 2 dX12_winter_165 rfl ?_
              refine ev_iload 1 dX12_winter_167 rfl ?_
              refine ev_iload 0 dX12_winter_169 rfl ?_
              obtain ⟨v70, g71, e72, h⟩ := am_bd_elim h
              refine ev_callVi (v := v70) [.int (0 : Int32), .int v56, .int v59, .int x65] [] dX12_winter_171 (tX12_sayIt e72) (by decide) mo_X12_sayIt kM_X12_454 ki_X12_sayIt kv_X12_sayIt (fun h9 => (h9.2.1 0 _ rfl).2) (by decide) rfl (Nat.le_of_ble_eq_true rfl) ?_
              refine ev_pop dX12_winter_174 rfl ?_
              refine ev_sub [3, 4, 5, 7] rfl ?_
              exact hj40  _ _ h
set_option maxRecDepth 100000 in
set_option maxHeartbeats 4000000 in
theorem tfX12_winter_L211  (x19 : Int32) : ∀ (n : Nat) (x74 : Int32) (g75 : am_G) (r : Int32 × am_G), fX12_winter_L211 x19 n x74 g75 = some r → am_Ev zr MX12_winter 7 211 [(0, .ref 0), (3, .int x19), (5, .int x74)] [] g75 (am_ri r) := by
  intro n
  induction n with
  | zero => intro x74 g75 r h; exact nomatch (show (none : Option (Int32 × am_G)) = some r from h)
  | succ n ih =>
    intro x74 g75 r h
    rw [fX12_winter_L211] at h
    refine ev_iload 2 dX12_winter_211 rfl ?_
    refine ev_bipush dX12_winter_213 rfl ?_
    refine ev_icmp_ge 262 dX12_winter_215 (by decide) (fun c76 => ?_) (fun c76 => ?_)
    · replace h := am_ifp c76 h
      refine ev_aload_n 0 dX12_winter_262 rfl ?_
      refine ev_gf (v := .ref 2) dX12_winter_263 (fun h9 => (h9.2.1 0 _ rfl).2) 3 (by decide) (by decide) kF_X12_13 (fun h9 => congrArg va_rf (h9.2.2 0 3 2 rfl)) ?_
      refine ev_bipush dX12_winter_266 rfl ?_
      obtain ⟨c77, h⟩ := am_gd_elim h
      refine ev_iald dX12_winter_268 (fun h9 => (h9.2.1 2 _ rfl).2) (am_in_vp c77) ?_
      refine ev_iload_n 1 dX12_winter_269 rfl ?_
      refine ev_isub dX12_winter_270 ?_
      refine am_let_elim (P := fun x78 => am_Ev zr MX12_winter 7 271 [(0, .ref 0), (3, .int x19), (5, .int x74)] [.int x78] g75 (am_ri r)) h fun x78 h => ?_
      refine ev_istore (ls' := [(5, .int x78), (0, .ref 0), (3, .int x19)]) dX12_winter_271 (by decide) rfl ?_
      refine ev_aload_n 1 dX12_winter_273 rfl ?_
      refine ev_bipush dX12_winter_274 rfl ?_
      obtain ⟨u79, g80, e81, h⟩ := am_bd_elim h
      refine ev_callVv [.int (16 : Int32)] [] dX12_winter_276 (tX12_putBack e81) (by decide) mo_X12_putBack kM_X12_180 ki_X12_putBack kv_X12_putBack (fun h9 => (h9.2.1 0 _ rfl).2) (by decide) rfl (Nat.le_of_ble_eq_true rfl) ?_
      refine ev_aload_n 1 dX12_winter_279 rfl ?_
      refine ev_iload 0 dX12_winter_280 rfl ?_
      obtain ⟨v82, g83, e84, h⟩ := am_bd_elim h
      refine ev_callVi (v := v82) [.int x78] [] dX12_winter_282 (tX12_tell e84) (by decide) mo_X12_tell kM_X12_176 ki_X12_tell kv_X12_tell (fun h9 => (h9.2.1 0 _ rfl).2) (by decide) rfl (Nat.le_of_ble_eq_true rfl) ?_
      cases h
      exact ev_iret dX12_winter_285 rfl
    · replace h := am_ifn c76 h
      refine ev_aload_n 0 dX12_winter_218 rfl ?_
      refine ev_gf (v := .ref 34) dX12_winter_219 (fun h9 => (h9.2.1 0 _ rfl).2) 62 (by decide) (by decide) kF_X12_156 (fun h9 => congrArg va_rf (h9.2.2 0 62 34 rfl)) ?_
      refine ev_iconst dX12_winter_222 rfl ?_
      refine ev_iload 2 dX12_winter_223 rfl ?_
      refine ev_imul dX12_winter_225 ?_
      refine ev_aload_n 0 dX12_winter_226 rfl ?_
      refine ev_iload 2 dX12_winter_227 rfl ?_
      refine ev_iconst dX12_winter_229 rfl ?_
      obtain ⟨v85, g86, e87, h⟩ := am_bd_elim h
      refine ev_callVi (v := v85) [.int x74, .int (0 : Int32)] [.int ((2 : Int32) * x74), .ref 34] dX12_winter_230 (tX12_ofSlope e87) (by decide) mo_X12_ofSlope kM_X12_210 ki_X12_ofSlope kv_X12_ofSlope (fun h9 => (h9.2.1 0 _ rfl).2) (by decide) rfl (Nat.le_of_ble_eq_true rfl) ?_
      obtain ⟨c88, h⟩ := am_gd_elim h
      refine ev_iast dX12_winter_233 (fun h9 => (h9.2.1 34 _ rfl).2) (am_in_vp c88) ?_
      refine am_let_elim (P := fun g89 => am_Ev zr MX12_winter 7 234 [(0, .ref 0), (3, .int x19), (5, .int x74)] [] g89 (am_ri r)) h fun g89 h => ?_
      refine ev_aload_n 0 dX12_winter_234 rfl ?_
      refine ev_gf (v := .ref 34) dX12_winter_235 (fun h9 => (h9.2.1 0 _ rfl).2) 62 (by decide) (by decide) kF_X12_156 (fun h9 => congrArg va_rf (h9.2.2 0 62 34 rfl)) ?_
      refine ev_iconst dX12_winter_238 rfl ?_
      refine ev_iload 2 dX12_winter_239 rfl ?_
      refine ev_imul dX12_winter_241 ?_
      refine ev_iconst dX12_winter_242 rfl ?_
      refine ev_iadd dX12_winter_243 ?_
      refine ev_dup2 dX12_winter_244 rfl rfl ?_
      obtain ⟨c90, h⟩ := am_gd_elim h
      refine ev_iald dX12_winter_245 (fun h9 => (h9.2.1 34 _ rfl).2) (am_in_vp c90) ?_
      refine ev_aload_n 0 dX12_winter_246 rfl ?_
      refine ev_iload 2 dX12_winter_247 rfl ?_
      refine ev_bipush dX12_winter_249 rfl ?_
      obtain ⟨v91, g92, e93, h⟩ := am_bd_elim h
      refine ev_callVi (v := v91) [.int x74, .int (9 : Int32)] [.int (am_I g89 34 (((2 : Int32) * x74) + (1 : Int32)).toNatClampNeg), .int (((2 : Int32) * x74) + (1 : Int32)), .ref 34] dX12_winter_251 (tX12_ofSlope e93) (by decide) mo_X12_ofSlope kM_X12_210 ki_X12_ofSlope kv_X12_ofSlope (fun h9 => (h9.2.1 0 _ rfl).2) (by decide) rfl (Nat.le_of_ble_eq_true rfl) ?_
      refine ev_iadd dX12_winter_254 ?_
      obtain ⟨c94, h⟩ := am_gd_elim h
      refine ev_iast dX12_winter_255 (fun h9 => (h9.2.1 34 _ rfl).2) (am_in_vp c94) ?_
      refine am_let_elim (P := fun g95 => am_Ev zr MX12_winter 7 256 [(0, .ref 0), (3, .int x19), (5, .int x74)] [] g95 (am_ri r)) h fun g95 h => ?_
      obtain ⟨x96, ex96, h⟩ := am_let_ex h
      refine ev_iinc (ls' := [(5, .int x96), (0, .ref 0), (3, .int x19)]) 2 dX12_winter_256 rfl ex96 (by decide) rfl ?_
      refine ev_goto 211 dX12_winter_259 (by decide) ?_
      refine ev_sub [1, 2, 0] rfl ?_
      exact ih _ _ _ h
set_option maxRecDepth 100000 in
set_option maxHeartbeats 4000000 in
theorem eX12_winter (a1 : Int32) (a2 : Int32) (g : am_G) (r : Int32 × am_G) (h : fX12_winter a1 a2 g = some r) : am_Ev zr MX12_winter 7 0 [(0, .ref 0), (1, .int a1), (2, .int a2)] [] g (am_ri r) := by
  unfold fX12_winter at h
  refine ev_aload_n 0 dX12_winter_0 rfl ?_
  refine ev_iconst dX12_winter_1 rfl ?_
  refine ev_pfi dX12_winter_2 (fun h9 => (h9.2.1 0 _ rfl).2) 0 (by decide) (by decide) kF_X12_163 rfl rfl rfl (fun _ => rfl) ?_
  refine am_let_elim (P := fun g1 => am_Ev zr MX12_winter 7 5 [(0, .ref 0), (1, .int a1), (2, .int a2)] [] g1 (am_ri r)) h fun g1 h => ?_
  refine ev_iload_n 1 dX12_winter_5 rfl ?_
  refine ev_i2l dX12_winter_6 ?_
  refine ev_lconst dX12_winter_7 rfl ?_
  refine ev_ldc2 dX12_winter_8 kL_X12_268 ?_
  obtain ⟨v2, g3, e4, h⟩ := am_bd_elim h
  refine ev_callSi (v := v2) [.long a1.toInt64, .long (0 : Int64), .long (1000000 : Int64)] [] dX12_winter_11 (tX12_in e4) (by decide) mo_X12_in kM_X12_183 ks_X12_in (Nat.le_of_ble_eq_true rfl) ?_
  refine ev_if_eq 29 dX12_winter_14 (by decide) (fun c5 => ?_) (fun c5 => ?_)
  · replace h := am_ifp c5 h
    refine ev_aload_n 0 dX12_winter_29 rfl ?_
    refine ev_iconst dX12_winter_30 rfl ?_
    obtain ⟨v6, g7, e8, h⟩ := am_bd_elim h
    refine ev_callVi (v := v6) [.int (-1 : Int32)] [] dX12_winter_31 (tX12_tell e8) (by decide) mo_X12_tell kM_X12_176 ki_X12_tell kv_X12_tell (fun h9 => (h9.2.1 0 _ rfl).2) (by decide) rfl (Nat.le_of_ble_eq_true rfl) ?_
    cases h
    exact ev_iret dX12_winter_34 rfl
  · replace h := am_ifn c5 h
    refine ev_iload_n 2 dX12_winter_17 rfl ?_
    refine ev_i2l dX12_winter_18 ?_
    refine ev_lconst dX12_winter_19 rfl ?_
    refine ev_ldc2 dX12_winter_20 kL_X12_543 ?_
    obtain ⟨v9, g10, e11, h⟩ := am_bd_elim h
    refine ev_callSi (v := v9) [.long a2.toInt64, .long (1 : Int64), .long (100 : Int64)] [] dX12_winter_23 (tX12_in e11) (by decide) mo_X12_in kM_X12_183 ks_X12_in (Nat.le_of_ble_eq_true rfl) ?_
    refine ev_if_ne 35 dX12_winter_26 (by decide) (fun c12 => ?_) (fun c12 => ?_)
    · replace h := am_ifn c12 h
      refine ev_aload_n 0 dX12_winter_35 rfl ?_
      refine ev_bipush dX12_winter_36 rfl ?_
      obtain ⟨u13, g14, e15, h⟩ := am_bd_elim h
      refine ev_callVv [.int (16 : Int32)] [] dX12_winter_38 (tX12_keepAll e15) (by decide) mo_X12_keepAll kM_X12_172 ki_X12_keepAll kv_X12_keepAll (fun h9 => (h9.2.1 0 _ rfl).2) (by decide) rfl (Nat.le_of_ble_eq_true rfl) ?_
      refine ev_aload_n 0 dX12_winter_41 rfl ?_
      refine ev_iload_n 1 dX12_winter_42 rfl ?_
      refine ev_i2l dX12_winter_43 ?_
      refine ev_pfl dX12_winter_44 (fun h9 => (h9.2.1 0 _ rfl).2) 61 (by decide) (by decide) kF_X12_534 rfl rfl ?_
      refine am_let_elim (P := fun g16 => am_Ev zr MX12_winter 7 47 [(0, .ref 0), (1, .int a1), (2, .int a2)] [] g16 (am_ri r)) h fun g16 h => ?_
      refine ev_aload_n 0 dX12_winter_47 rfl ?_
      refine ev_iconst dX12_winter_48 rfl ?_
      refine ev_pfi dX12_winter_49 (fun h9 => (h9.2.1 0 _ rfl).2) 63 (by decide) (by decide) kF_X12_545 rfl rfl rfl (fun _ => rfl) ?_
      refine am_let_elim (P := fun g17 => am_Ev zr MX12_winter 7 52 [(0, .ref 0), (1, .int a1), (2, .int a2)] [] g17 (am_ri r)) h fun g17 h => ?_
      refine ev_aload_n 0 dX12_winter_52 rfl ?_
      refine ev_gf (v := .ref 2) dX12_winter_53 (fun h9 => (h9.2.1 0 _ rfl).2) 3 (by decide) (by decide) kF_X12_13 (fun h9 => congrArg va_rf (h9.2.2 0 3 2 rfl)) ?_
      refine ev_bipush dX12_winter_56 rfl ?_
      obtain ⟨c18, h⟩ := am_gd_elim h
      refine ev_iald dX12_winter_58 (fun h9 => (h9.2.1 2 _ rfl).2) (am_in_vp c18) ?_
      refine am_let_elim (P := fun x19 => am_Ev zr MX12_winter 7 59 [(0, .ref 0), (1, .int a1), (2, .int a2)] [.int x19] g17 (am_ri r)) h fun x19 h => ?_
      refine ev_istore_n (ls' := [(3, .int x19), (0, .ref 0), (1, .int a1), (2, .int a2)]) dX12_winter_59 rfl (by decide) rfl ?_
      refine ev_iconst dX12_winter_60 rfl ?_
      refine ev_istore (ls' := [(4, .int (0 : Int32)), (3, .int x19), (0, .ref 0), (1, .int a1), (2, .int a2)]) dX12_winter_61 (by decide) rfl ?_
      refine ev_sub [2, 4, 1, 0] rfl ?_
      refine tfX12_winter_L63 a2 x19 ?_ _ _ _ _ h
      intro  g30 r h
      try dsimp only at h
      refine ev_iconst dX12_winter_96 rfl ?_
      refine ev_istore (ls' := [(4, .int (1 : Int32)), (0, .ref 0), (2, .int a2), (3, .int x19)]) dX12_winter_97 (by decide) rfl ?_
      refine ev_iconst dX12_winter_99 rfl ?_
      refine ev_istore (ls' := [(5, .int (0 : Int32)), (4, .int (1 : Int32)), (0, .ref 0), (2, .int a2), (3, .int x19)]) dX12_winter_100 (by decide) rfl ?_
      refine ev_sub [2, 3, 4, 1, 0] rfl ?_
      refine tfX12_winter_L102 a2 x19 ?_ _ _ _ _ _ h
      intro  g73 r h
      try dsimp only at h
      refine ev_iconst dX12_winter_208 rfl ?_
      refine ev_istore (ls' := [(5, .int (0 : Int32)), (0, .ref 0), (3, .int x19)]) dX12_winter_209 (by decide) rfl ?_
      refine ev_sub [1, 2, 0] rfl ?_
      exact tfX12_winter_L211 x19 _ _ _ _ h
    · replace h := am_ifp c12 h
      refine ev_aload_n 0 dX12_winter_29 rfl ?_
      refine ev_iconst dX12_winter_30 rfl ?_
      obtain ⟨v97, g98, e99, h⟩ := am_bd_elim h
      refine ev_callVi (v := v97) [.int (-1 : Int32)] [] dX12_winter_31 (tX12_tell e99) (by decide) mo_X12_tell kM_X12_176 ki_X12_tell kv_X12_tell (fun h9 => (h9.2.1 0 _ rfl).2) (by decide) rfl (Nat.le_of_ble_eq_true rfl) ?_
      cases h
      exact ev_iret dX12_winter_34 rfl
theorem tX12_winter {a1 : Int32} {a2 : Int32} {g : am_G} {r : Int32 × am_G} (h : fX12_winter a1 a2 g = some r) : am_Mt zr MX12_winter 7 [.ref 0, .int a1, .int a2] g (am_ri r) := am_Mt.of rfl (Nat.le_of_ble_eq_true rfl) (eX12_winter _ _ _ _ h)
def fX12_drawn (a1 : Int32) (a2 : Int32) (g : am_G) : Option (Int32 × am_G) :=
  am_let (am_si g 0 0 (0 : Int32)) fun g1 =>
  if (am_I g1 0 63) = 0 then (
    some ((-1 : Int32), g1))
  else (
    am_bd (fX12_isSlope a1 g1) fun v3 g4 =>
    if v3 = 0 then (
      some ((-1 : Int32), g4))
    else (
      am_bd (fX12_in a2.toInt64 (0 : Int64) (1 : Int64) g4) fun v7 g8 =>
      if v7 = 0 then (
        some ((-1 : Int32), g8))
      else (
        am_gd (am_in (((2 : Int32) * a1) + a2) 12) <|
        some (am_I g8 34 (((2 : Int32) * a1) + a2).toNatClampNeg, g8))))
set_option maxRecDepth 100000 in
set_option maxHeartbeats 4000000 in
theorem eX12_drawn (a1 : Int32) (a2 : Int32) (g : am_G) (r : Int32 × am_G) (h : fX12_drawn a1 a2 g = some r) : am_Ev zr MX12_drawn 2 0 [(0, .ref 0), (1, .int a1), (2, .int a2)] [] g (am_ri r) := by
  unfold fX12_drawn at h
  refine ev_aload_n 0 dX12_drawn_0 rfl ?_
  refine ev_iconst dX12_drawn_1 rfl ?_
  refine ev_pfi dX12_drawn_2 (fun h9 => (h9.2.1 0 _ rfl).2) 0 (by decide) (by decide) kF_X12_163 rfl rfl rfl (fun _ => rfl) ?_
  refine am_let_elim (P := fun g1 => am_Ev zr MX12_drawn 2 5 [(0, .ref 0), (1, .int a1), (2, .int a2)] [] g1 (am_ri r)) h fun g1 h => ?_
  refine ev_aload_n 0 dX12_drawn_5 rfl ?_
  refine ev_gf (v := .int (am_I g1 0 63)) dX12_drawn_6 (fun h9 => (h9.2.1 0 _ rfl).2) 63 (by decide) (by decide) kF_X12_545 (fun _ => rfl) ?_
  refine ev_if_eq 42 dX12_drawn_9 (by decide) (fun c2 => ?_) (fun c2 => ?_)
  · replace h := am_ifp c2 h
    refine ev_iconst dX12_drawn_42 rfl ?_
    cases h
    exact ev_iret dX12_drawn_43 rfl
  · replace h := am_ifn c2 h
    refine ev_iload_n 1 dX12_drawn_12 rfl ?_
    obtain ⟨v3, g4, e5, h⟩ := am_bd_elim h
    refine ev_callSi (v := v3) [.int a1] [] dX12_drawn_13 (tX12_isSlope e5) (by decide) mo_X12_isSlope kM_X12_199 ks_X12_isSlope (Nat.le_of_ble_eq_true rfl) ?_
    refine ev_if_eq 42 dX12_drawn_16 (by decide) (fun c6 => ?_) (fun c6 => ?_)
    · replace h := am_ifp c6 h
      refine ev_iconst dX12_drawn_42 rfl ?_
      cases h
      exact ev_iret dX12_drawn_43 rfl
    · replace h := am_ifn c6 h
      refine ev_iload_n 2 dX12_drawn_19 rfl ?_
      refine ev_i2l dX12_drawn_20 ?_
      refine ev_lconst dX12_drawn_21 rfl ?_
      refine ev_lconst dX12_drawn_22 rfl ?_
      obtain ⟨v7, g8, e9, h⟩ := am_bd_elim h
      refine ev_callSi (v := v7) [.long a2.toInt64, .long (0 : Int64), .long (1 : Int64)] [] dX12_drawn_23 (tX12_in e9) (by decide) mo_X12_in kM_X12_183 ks_X12_in (Nat.le_of_ble_eq_true rfl) ?_
      refine ev_if_eq 42 dX12_drawn_26 (by decide) (fun c10 => ?_) (fun c10 => ?_)
      · replace h := am_ifp c10 h
        refine ev_iconst dX12_drawn_42 rfl ?_
        cases h
        exact ev_iret dX12_drawn_43 rfl
      · replace h := am_ifn c10 h
        refine ev_aload_n 0 dX12_drawn_29 rfl ?_
        refine ev_gf (v := .ref 34) dX12_drawn_30 (fun h9 => (h9.2.1 0 _ rfl).2) 62 (by decide) (by decide) kF_X12_156 (fun h9 => congrArg va_rf (h9.2.2 0 62 34 rfl)) ?_
        refine ev_iconst dX12_drawn_33 rfl ?_
        refine ev_iload_n 1 dX12_drawn_34 rfl ?_
        refine ev_imul dX12_drawn_35 ?_
        refine ev_iload_n 2 dX12_drawn_36 rfl ?_
        refine ev_iadd dX12_drawn_37 ?_
        obtain ⟨c11, h⟩ := am_gd_elim h
        refine ev_iald dX12_drawn_38 (fun h9 => (h9.2.1 34 _ rfl).2) (am_in_vp c11) ?_
        refine ev_goto 43 dX12_drawn_39 (by decide) ?_
        cases h
        exact ev_iret dX12_drawn_43 rfl
theorem tX12_drawn {a1 : Int32} {a2 : Int32} {g : am_G} {r : Int32 × am_G} (h : fX12_drawn a1 a2 g = some r) : am_Mt zr MX12_drawn 2 [.ref 0, .int a1, .int a2] g (am_ri r) := am_Mt.of rfl (Nat.le_of_ble_eq_true rfl) (eX12_drawn _ _ _ _ h)
def fX12_count (a1 : Int32) (g : am_G) : Option (Int32 × am_G) :=
  am_let (am_si g 0 0 (0 : Int32)) fun g1 =>
  if a1 = (0 : Int32) then (
    am_gd (am_in (0 : Int32) 5660) <|
    some (am_I g1 2 (0 : Int32).toNatClampNeg, g1))
  else
  if a1 = (1 : Int32) then (
    am_gd (am_in (1 : Int32) 5660) <|
    some (am_I g1 2 (1 : Int32).toNatClampNeg, g1))
  else
  if a1 = (2 : Int32) then (
    am_gd (am_in (2 : Int32) 5660) <|
    some (am_I g1 2 (2 : Int32).toNatClampNeg, g1))
  else
  if a1 = (3 : Int32) then (
    am_gd (am_in (3 : Int32) 5660) <|
    some (am_I g1 2 (3 : Int32).toNatClampNeg, g1))
  else
  if a1 = (4 : Int32) then (
    am_gd (am_in (4 : Int32) 5660) <|
    some (am_I g1 2 (4 : Int32).toNatClampNeg, g1))
  else
  if a1 = (5 : Int32) then (
    some (am_I g1 0 8, g1))
  else
  if a1 = (6 : Int32) then (
    some (am_I g1 0 13, g1))
  else
  if a1 = (7 : Int32) then (
    am_gd (am_in (1 : Int32) 7) <|
    some (am_I g1 1 (1 : Int32).toNatClampNeg, g1))
  else
  if a1 = (8 : Int32) then (
    am_gd (am_in (2 : Int32) 7) <|
    some (am_I g1 1 (2 : Int32).toNatClampNeg, g1))
  else
  if a1 = (9 : Int32) then (
    am_gd (am_in (3 : Int32) 7) <|
    some (am_I g1 1 (3 : Int32).toNatClampNeg, g1))
  else
  if a1 = (10 : Int32) then (
    am_gd (am_in (5 : Int32) 7) <|
    some (am_I g1 1 (5 : Int32).toNatClampNeg, g1))
  else
  if a1 = (11 : Int32) then (
    am_gd (am_in (6 : Int32) 7) <|
    some (am_I g1 1 (6 : Int32).toNatClampNeg, g1))
  else
  if a1 = (12 : Int32) then (
    am_gd (am_in (5 : Int32) 5660) <|
    some (am_I g1 2 (5 : Int32).toNatClampNeg, g1))
  else
  if a1 = (13 : Int32) then (
    am_gd (am_in (8 : Int32) 5660) <|
    some (am_I g1 2 (8 : Int32).toNatClampNeg, g1))
  else
  if a1 = (14 : Int32) then (
    am_gd (am_in (9 : Int32) 5660) <|
    some (am_I g1 2 (9 : Int32).toNatClampNeg, g1))
  else (
    am_bd (fX12_in a1.toInt64 (15 : Int64) (16 : Int64) g1) fun v15 g16 =>
    if v15 = 0 then (
      some ((-1 : Int32), g16))
    else (
      am_gd (am_in (((6 : Int32) + a1) - (15 : Int32)) 5660) <|
      some (am_I g16 2 (((6 : Int32) + a1) - (15 : Int32)).toNatClampNeg, g16)))
set_option maxRecDepth 100000 in
set_option maxHeartbeats 4000000 in
theorem eX12_count (a1 : Int32) (g : am_G) (r : Int32 × am_G) (h : fX12_count a1 g = some r) : am_Ev zr MX12_count 1 0 [(0, .ref 0), (1, .int a1)] [] g (am_ri r) := by
  unfold fX12_count at h
  refine ev_aload_n 0 dX12_count_0 rfl ?_
  refine ev_iconst dX12_count_1 rfl ?_
  refine ev_pfi dX12_count_2 (fun h9 => (h9.2.1 0 _ rfl).2) 0 (by decide) (by decide) kF_X12_163 rfl rfl rfl (fun _ => rfl) ?_
  refine am_let_elim (P := fun g1 => am_Ev zr MX12_count 1 5 [(0, .ref 0), (1, .int a1)] [] g1 (am_ri r)) h fun g1 h => ?_
  refine ev_iload_n 1 dX12_count_5 rfl ?_
  by_cases c20 : a1 = (0 : Int32)
  · replace h := am_ifp c20 h
    refine ev_tableIn 80 dX12_count_6 (by rw [c20]; decide) (by rw [c20]; decide) (by rw [c20]; rfl) (by decide) ?_
    refine ev_aload_n 0 dX12_count_80 rfl ?_
    refine ev_gf (v := .ref 2) dX12_count_81 (fun h9 => (h9.2.1 0 _ rfl).2) 3 (by decide) (by decide) kF_X12_13 (fun h9 => congrArg va_rf (h9.2.2 0 3 2 rfl)) ?_
    refine ev_iconst dX12_count_84 rfl ?_
    obtain ⟨c2, h⟩ := am_gd_elim h
    refine ev_iald dX12_count_85 (fun h9 => (h9.2.1 2 _ rfl).2) (am_in_vp c2) ?_
    cases h
    exact ev_iret dX12_count_86 rfl
  replace h := am_ifn c20 h
  by_cases c21 : a1 = (1 : Int32)
  · replace h := am_ifp c21 h
    refine ev_tableIn 87 dX12_count_6 (by rw [c21]; decide) (by rw [c21]; decide) (by rw [c21]; rfl) (by decide) ?_
    refine ev_aload_n 0 dX12_count_87 rfl ?_
    refine ev_gf (v := .ref 2) dX12_count_88 (fun h9 => (h9.2.1 0 _ rfl).2) 3 (by decide) (by decide) kF_X12_13 (fun h9 => congrArg va_rf (h9.2.2 0 3 2 rfl)) ?_
    refine ev_iconst dX12_count_91 rfl ?_
    obtain ⟨c3, h⟩ := am_gd_elim h
    refine ev_iald dX12_count_92 (fun h9 => (h9.2.1 2 _ rfl).2) (am_in_vp c3) ?_
    cases h
    exact ev_iret dX12_count_93 rfl
  replace h := am_ifn c21 h
  by_cases c22 : a1 = (2 : Int32)
  · replace h := am_ifp c22 h
    refine ev_tableIn 94 dX12_count_6 (by rw [c22]; decide) (by rw [c22]; decide) (by rw [c22]; rfl) (by decide) ?_
    refine ev_aload_n 0 dX12_count_94 rfl ?_
    refine ev_gf (v := .ref 2) dX12_count_95 (fun h9 => (h9.2.1 0 _ rfl).2) 3 (by decide) (by decide) kF_X12_13 (fun h9 => congrArg va_rf (h9.2.2 0 3 2 rfl)) ?_
    refine ev_iconst dX12_count_98 rfl ?_
    obtain ⟨c4, h⟩ := am_gd_elim h
    refine ev_iald dX12_count_99 (fun h9 => (h9.2.1 2 _ rfl).2) (am_in_vp c4) ?_
    cases h
    exact ev_iret dX12_count_100 rfl
  replace h := am_ifn c22 h
  by_cases c23 : a1 = (3 : Int32)
  · replace h := am_ifp c23 h
    refine ev_tableIn 101 dX12_count_6 (by rw [c23]; decide) (by rw [c23]; decide) (by rw [c23]; rfl) (by decide) ?_
    refine ev_aload_n 0 dX12_count_101 rfl ?_
    refine ev_gf (v := .ref 2) dX12_count_102 (fun h9 => (h9.2.1 0 _ rfl).2) 3 (by decide) (by decide) kF_X12_13 (fun h9 => congrArg va_rf (h9.2.2 0 3 2 rfl)) ?_
    refine ev_iconst dX12_count_105 rfl ?_
    obtain ⟨c5, h⟩ := am_gd_elim h
    refine ev_iald dX12_count_106 (fun h9 => (h9.2.1 2 _ rfl).2) (am_in_vp c5) ?_
    cases h
    exact ev_iret dX12_count_107 rfl
  replace h := am_ifn c23 h
  by_cases c24 : a1 = (4 : Int32)
  · replace h := am_ifp c24 h
    refine ev_tableIn 108 dX12_count_6 (by rw [c24]; decide) (by rw [c24]; decide) (by rw [c24]; rfl) (by decide) ?_
    refine ev_aload_n 0 dX12_count_108 rfl ?_
    refine ev_gf (v := .ref 2) dX12_count_109 (fun h9 => (h9.2.1 0 _ rfl).2) 3 (by decide) (by decide) kF_X12_13 (fun h9 => congrArg va_rf (h9.2.2 0 3 2 rfl)) ?_
    refine ev_iconst dX12_count_112 rfl ?_
    obtain ⟨c6, h⟩ := am_gd_elim h
    refine ev_iald dX12_count_113 (fun h9 => (h9.2.1 2 _ rfl).2) (am_in_vp c6) ?_
    cases h
    exact ev_iret dX12_count_114 rfl
  replace h := am_ifn c24 h
  by_cases c25 : a1 = (5 : Int32)
  · replace h := am_ifp c25 h
    refine ev_tableIn 115 dX12_count_6 (by rw [c25]; decide) (by rw [c25]; decide) (by rw [c25]; rfl) (by decide) ?_
    refine ev_aload_n 0 dX12_count_115 rfl ?_
    refine ev_gf (v := .int (am_I g1 0 8)) dX12_count_116 (fun h9 => (h9.2.1 0 _ rfl).2) 8 (by decide) (by decide) kF_X12_169 (fun _ => rfl) ?_
    cases h
    exact ev_iret dX12_count_119 rfl
  replace h := am_ifn c25 h
  by_cases c26 : a1 = (6 : Int32)
  · replace h := am_ifp c26 h
    refine ev_tableIn 120 dX12_count_6 (by rw [c26]; decide) (by rw [c26]; decide) (by rw [c26]; rfl) (by decide) ?_
    refine ev_aload_n 0 dX12_count_120 rfl ?_
    refine ev_gf (v := .int (am_I g1 0 13)) dX12_count_121 (fun h9 => (h9.2.1 0 _ rfl).2) 13 (by decide) (by decide) kF_X12_227 (fun _ => rfl) ?_
    cases h
    exact ev_iret dX12_count_124 rfl
  replace h := am_ifn c26 h
  by_cases c27 : a1 = (7 : Int32)
  · replace h := am_ifp c27 h
    refine ev_tableIn 125 dX12_count_6 (by rw [c27]; decide) (by rw [c27]; decide) (by rw [c27]; rfl) (by decide) ?_
    refine ev_aload_n 0 dX12_count_125 rfl ?_
    refine ev_gf (v := .ref 1) dX12_count_126 (fun h9 => (h9.2.1 0 _ rfl).2) 2 (by decide) (by decide) kF_X12_7 (fun h9 => congrArg va_rf (h9.2.2 0 2 1 rfl)) ?_
    refine ev_iconst dX12_count_129 rfl ?_
    obtain ⟨c7, h⟩ := am_gd_elim h
    refine ev_iald dX12_count_130 (fun h9 => (h9.2.1 1 _ rfl).2) (am_in_vp c7) ?_
    cases h
    exact ev_iret dX12_count_131 rfl
  replace h := am_ifn c27 h
  by_cases c28 : a1 = (8 : Int32)
  · replace h := am_ifp c28 h
    refine ev_tableIn 132 dX12_count_6 (by rw [c28]; decide) (by rw [c28]; decide) (by rw [c28]; rfl) (by decide) ?_
    refine ev_aload_n 0 dX12_count_132 rfl ?_
    refine ev_gf (v := .ref 1) dX12_count_133 (fun h9 => (h9.2.1 0 _ rfl).2) 2 (by decide) (by decide) kF_X12_7 (fun h9 => congrArg va_rf (h9.2.2 0 2 1 rfl)) ?_
    refine ev_iconst dX12_count_136 rfl ?_
    obtain ⟨c8, h⟩ := am_gd_elim h
    refine ev_iald dX12_count_137 (fun h9 => (h9.2.1 1 _ rfl).2) (am_in_vp c8) ?_
    cases h
    exact ev_iret dX12_count_138 rfl
  replace h := am_ifn c28 h
  by_cases c29 : a1 = (9 : Int32)
  · replace h := am_ifp c29 h
    refine ev_tableIn 139 dX12_count_6 (by rw [c29]; decide) (by rw [c29]; decide) (by rw [c29]; rfl) (by decide) ?_
    refine ev_aload_n 0 dX12_count_139 rfl ?_
    refine ev_gf (v := .ref 1) dX12_count_140 (fun h9 => (h9.2.1 0 _ rfl).2) 2 (by decide) (by decide) kF_X12_7 (fun h9 => congrArg va_rf (h9.2.2 0 2 1 rfl)) ?_
    refine ev_iconst dX12_count_143 rfl ?_
    obtain ⟨c9, h⟩ := am_gd_elim h
    refine ev_iald dX12_count_144 (fun h9 => (h9.2.1 1 _ rfl).2) (am_in_vp c9) ?_
    cases h
    exact ev_iret dX12_count_145 rfl
  replace h := am_ifn c29 h
  by_cases c30 : a1 = (10 : Int32)
  · replace h := am_ifp c30 h
    refine ev_tableIn 146 dX12_count_6 (by rw [c30]; decide) (by rw [c30]; decide) (by rw [c30]; rfl) (by decide) ?_
    refine ev_aload_n 0 dX12_count_146 rfl ?_
    refine ev_gf (v := .ref 1) dX12_count_147 (fun h9 => (h9.2.1 0 _ rfl).2) 2 (by decide) (by decide) kF_X12_7 (fun h9 => congrArg va_rf (h9.2.2 0 2 1 rfl)) ?_
    refine ev_iconst dX12_count_150 rfl ?_
    obtain ⟨c10, h⟩ := am_gd_elim h
    refine ev_iald dX12_count_151 (fun h9 => (h9.2.1 1 _ rfl).2) (am_in_vp c10) ?_
    cases h
    exact ev_iret dX12_count_152 rfl
  replace h := am_ifn c30 h
  by_cases c31 : a1 = (11 : Int32)
  · replace h := am_ifp c31 h
    refine ev_tableIn 153 dX12_count_6 (by rw [c31]; decide) (by rw [c31]; decide) (by rw [c31]; rfl) (by decide) ?_
    refine ev_aload_n 0 dX12_count_153 rfl ?_
    refine ev_gf (v := .ref 1) dX12_count_154 (fun h9 => (h9.2.1 0 _ rfl).2) 2 (by decide) (by decide) kF_X12_7 (fun h9 => congrArg va_rf (h9.2.2 0 2 1 rfl)) ?_
    refine ev_bipush dX12_count_157 rfl ?_
    obtain ⟨c11, h⟩ := am_gd_elim h
    refine ev_iald dX12_count_159 (fun h9 => (h9.2.1 1 _ rfl).2) (am_in_vp c11) ?_
    cases h
    exact ev_iret dX12_count_160 rfl
  replace h := am_ifn c31 h
  by_cases c32 : a1 = (12 : Int32)
  · replace h := am_ifp c32 h
    refine ev_tableIn 161 dX12_count_6 (by rw [c32]; decide) (by rw [c32]; decide) (by rw [c32]; rfl) (by decide) ?_
    refine ev_aload_n 0 dX12_count_161 rfl ?_
    refine ev_gf (v := .ref 2) dX12_count_162 (fun h9 => (h9.2.1 0 _ rfl).2) 3 (by decide) (by decide) kF_X12_13 (fun h9 => congrArg va_rf (h9.2.2 0 3 2 rfl)) ?_
    refine ev_iconst dX12_count_165 rfl ?_
    obtain ⟨c12, h⟩ := am_gd_elim h
    refine ev_iald dX12_count_166 (fun h9 => (h9.2.1 2 _ rfl).2) (am_in_vp c12) ?_
    cases h
    exact ev_iret dX12_count_167 rfl
  replace h := am_ifn c32 h
  by_cases c33 : a1 = (13 : Int32)
  · replace h := am_ifp c33 h
    refine ev_tableIn 168 dX12_count_6 (by rw [c33]; decide) (by rw [c33]; decide) (by rw [c33]; rfl) (by decide) ?_
    refine ev_aload_n 0 dX12_count_168 rfl ?_
    refine ev_gf (v := .ref 2) dX12_count_169 (fun h9 => (h9.2.1 0 _ rfl).2) 3 (by decide) (by decide) kF_X12_13 (fun h9 => congrArg va_rf (h9.2.2 0 3 2 rfl)) ?_
    refine ev_bipush dX12_count_172 rfl ?_
    obtain ⟨c13, h⟩ := am_gd_elim h
    refine ev_iald dX12_count_174 (fun h9 => (h9.2.1 2 _ rfl).2) (am_in_vp c13) ?_
    cases h
    exact ev_iret dX12_count_175 rfl
  replace h := am_ifn c33 h
  by_cases c34 : a1 = (14 : Int32)
  · replace h := am_ifp c34 h
    refine ev_tableIn 176 dX12_count_6 (by rw [c34]; decide) (by rw [c34]; decide) (by rw [c34]; rfl) (by decide) ?_
    refine ev_aload_n 0 dX12_count_176 rfl ?_
    refine ev_gf (v := .ref 2) dX12_count_177 (fun h9 => (h9.2.1 0 _ rfl).2) 3 (by decide) (by decide) kF_X12_13 (fun h9 => congrArg va_rf (h9.2.2 0 3 2 rfl)) ?_
    refine ev_bipush dX12_count_180 rfl ?_
    obtain ⟨c14, h⟩ := am_gd_elim h
    refine ev_iald dX12_count_182 (fun h9 => (h9.2.1 2 _ rfl).2) (am_in_vp c14) ?_
    cases h
    exact ev_iret dX12_count_183 rfl
  replace h := am_ifn c34 h
  refine ev_tableOut 184 dX12_count_6 (by have z0 := am_ti c20 (k := 0) (by decide); have z1 := am_ti c21 (k := 1) (by decide); have z2 := am_ti c22 (k := 2) (by decide); have z3 := am_ti c23 (k := 3) (by decide); have z4 := am_ti c24 (k := 4) (by decide); have z5 := am_ti c25 (k := 5) (by decide); have z6 := am_ti c26 (k := 6) (by decide); have z7 := am_ti c27 (k := 7) (by decide); have z8 := am_ti c28 (k := 8) (by decide); have z9 := am_ti c29 (k := 9) (by decide); have z10 := am_ti c30 (k := 10) (by decide); have z11 := am_ti c31 (k := 11) (by decide); have z12 := am_ti c32 (k := 12) (by decide); have z13 := am_ti c33 (k := 13) (by decide); have z14 := am_ti c34 (k := 14) (by decide); omega) (by decide) ?_
  refine ev_iload_n 1 dX12_count_184 rfl ?_
  refine ev_i2l dX12_count_185 ?_
  refine ev_ldc2 dX12_count_186 kL_X12_551 ?_
  refine ev_ldc2 dX12_count_189 kL_X12_553 ?_
  obtain ⟨v15, g16, e17, h⟩ := am_bd_elim h
  refine ev_callSi (v := v15) [.long a1.toInt64, .long (15 : Int64), .long (16 : Int64)] [] dX12_count_192 (tX12_in e17) (by decide) mo_X12_in kM_X12_183 ks_X12_in (Nat.le_of_ble_eq_true rfl) ?_
  refine ev_if_eq 213 dX12_count_195 (by decide) (fun c18 => ?_) (fun c18 => ?_)
  · replace h := am_ifp c18 h
    refine ev_iconst dX12_count_213 rfl ?_
    cases h
    exact ev_iret dX12_count_214 rfl
  · replace h := am_ifn c18 h
    refine ev_aload_n 0 dX12_count_198 rfl ?_
    refine ev_gf (v := .ref 2) dX12_count_199 (fun h9 => (h9.2.1 0 _ rfl).2) 3 (by decide) (by decide) kF_X12_13 (fun h9 => congrArg va_rf (h9.2.2 0 3 2 rfl)) ?_
    refine ev_bipush dX12_count_202 rfl ?_
    refine ev_iload_n 1 dX12_count_204 rfl ?_
    refine ev_iadd dX12_count_205 ?_
    refine ev_bipush dX12_count_206 rfl ?_
    refine ev_isub dX12_count_208 ?_
    obtain ⟨c19, h⟩ := am_gd_elim h
    refine ev_iald dX12_count_209 (fun h9 => (h9.2.1 2 _ rfl).2) (am_in_vp c19) ?_
    refine ev_goto 214 dX12_count_210 (by decide) ?_
    cases h
    exact ev_iret dX12_count_214 rfl
theorem tX12_count {a1 : Int32} {g : am_G} {r : Int32 × am_G} (h : fX12_count a1 g = some r) : am_Mt zr MX12_count 1 [.ref 0, .int a1] g (am_ri r) := am_Mt.of rfl (Nat.le_of_ble_eq_true rfl) (eX12_count _ _ _ h)
def fX12_status (g : am_G) : Option (Int32 × am_G) :=
  am_let (am_si g 0 0 (0 : Int32)) fun g1 =>
  some (am_I g1 0 1, g1)
set_option maxRecDepth 100000 in
set_option maxHeartbeats 4000000 in
theorem eX12_status (g : am_G) (r : Int32 × am_G) (h : fX12_status g = some r) : am_Ev zr MX12_status 0 0 [(0, .ref 0)] [] g (am_ri r) := by
  unfold fX12_status at h
  refine ev_aload_n 0 dX12_status_0 rfl ?_
  refine ev_iconst dX12_status_1 rfl ?_
  refine ev_pfi dX12_status_2 (fun h9 => (h9.2.1 0 _ rfl).2) 0 (by decide) (by decide) kF_X12_163 rfl rfl rfl (fun _ => rfl) ?_
  refine am_let_elim (P := fun g1 => am_Ev zr MX12_status 0 5 [(0, .ref 0)] [] g1 (am_ri r)) h fun g1 h => ?_
  refine ev_aload_n 0 dX12_status_5 rfl ?_
  refine ev_gf (v := .int (am_I g1 0 1)) dX12_status_6 (fun h9 => (h9.2.1 0 _ rfl).2) 1 (by decide) (by decide) kF_X12_166 (fun _ => rfl) ?_
  cases h
  exact ev_iret dX12_status_9 rfl
theorem tX12_status {g : am_G} {r : Int32 × am_G} (h : fX12_status g = some r) : am_Mt zr MX12_status 0 [.ref 0] g (am_ri r) := am_Mt.of rfl (Nat.le_of_ble_eq_true rfl) (eX12_status _ _ h)
