def fX11_utter_L26 (a1 : Nat) (a2 : Int32) : Nat → Int32 → am_G → Option (Int32 × am_G)
  | 0, _, _ => none
  | n + 1, x8, g9 =>
    if (6 : Int32) ≤ x8 then (
      am_gd (decide (am_S g9 a1 = (2, 8))) <|
      am_bd (fX2_slideAll a1 g9) fun v11 g12 =>
      some (v11, g12))
    else (
      am_gd (decide (am_S g9 a1 = (2, 8))) <|
      am_oc (am_P g9 a1 0) (fun p16 =>
      am_gd (decide ((am_S g9 p16).1 = 20)) <|
      am_gd (am_in x8 ((am_S g9 p16).2)) <|
      am_bd (fX0_shakes x8 (am_I g9 p16 x8.toNatClampNeg) g9) fun v20 g21 =>
      am_gd (decide (am_S g21 a1 = (2, 8))) <|
      am_bd (fX2_press a1 x8 a2 v20 g21) fun u23 g24 =>
      am_let (x8 + (1 : Int32)) fun x27 =>
      fX11_utter_L26 a1 a2 n x27 g24) none)
def fX11_utter (a1 : Nat) (a2 : Int32) (a3 : Int32) (a4 : Int32) (a5 : Int32) (g : am_G) : Option (Int32 × am_G) :=
  am_gd (decide (am_S g a1 = (2, 8))) <|
  am_bd (fX0_onDay (am_I g a1 5) g) fun u2 g3 =>
  am_bd (fX0_ofSaid a3 a4 a5 g3) fun u5 g6 =>
  fX11_utter_L26 a1 a2 am_fu (0 : Int32) g6
set_option maxRecDepth 100000 in
set_option maxHeartbeats 4000000 in
theorem tfX11_utter_L26  (a1 : Nat) (a2 : Int32) : ∀ (n : Nat) (x8 : Int32) (g9 : am_G) (r : Int32 × am_G), fX11_utter_L26 a1 a2 n x8 g9 = some r → am_Ev zc MX11_utter 4 26 [(0, .ref 0), (1, .ref a1), (2, .int a2), (6, .int x8)] [] g9 (am_ri r) := by
  intro n
  induction n with
  | zero => intro x8 g9 r h; exact nomatch (show (none : Option (Int32 × am_G)) = some r from h)
  | succ n ih =>
    intro x8 g9 r h
    rw [fX11_utter_L26] at h
    refine ev_iload 3 dX11_utter_26 rfl ?_
    refine ev_bipush dX11_utter_28 rfl ?_
    refine ev_icmp_ge 62 dX11_utter_30 (by decide) (fun c10 => ?_) (fun c10 => ?_)
    · replace h := am_ifp c10 h
      refine ev_aload_n 1 dX11_utter_62 rfl ?_
      refine ev_aload_n 0 dX11_utter_63 rfl ?_
      refine ev_gf (v := .ref 1) dX11_utter_64 (fun h9 => (h9.2.1 0 _ rfl).2) 0 (by decide) (by decide) kF_X11_14 (fun h9 => congrArg va_rf (h9.2.2 0 0 1 rfl)) ?_
      obtain ⟨c14, h⟩ := am_gd_elim h
      obtain ⟨v11, g12, e13, h⟩ := am_bd_elim h
      refine ev_callVi (v := v11) [.ref 1] [] dX11_utter_67 (tX2_slideAll e13) (by decide) mo_X2_slideAll kM_X11_321 ki_X2_slideAll kv_X2_slideAll (fun _ => am_sh c14) (by decide) rfl (Nat.le_of_ble_eq_true rfl) ?_
      cases h
      exact ev_iret dX11_utter_70 rfl
    · replace h := am_ifn c10 h
      refine ev_aload_n 1 dX11_utter_33 rfl ?_
      refine ev_iload 3 dX11_utter_34 rfl ?_
      refine ev_iload_n 2 dX11_utter_36 rfl ?_
      refine ev_aload_n 0 dX11_utter_37 rfl ?_
      refine ev_gf (v := .ref 36) dX11_utter_38 (fun h9 => (h9.2.1 0 _ rfl).2) 4 (by decide) (by decide) kF_X11_41 (fun h9 => congrArg va_rf (h9.2.2 0 4 36 rfl)) ?_
      refine ev_iload 3 dX11_utter_41 rfl ?_
      refine ev_aload_n 1 dX11_utter_43 rfl ?_
      obtain ⟨c15, h⟩ := am_gd_elim h
      refine am_oc_elim h (fun p16 e17 h => ?_) (fun _ h => nomatch h)
      refine ev_gf (v := .ref p16) dX11_utter_44 (fun _ => am_sh c15) 0 (by decide) (by decide) kF_X11_115 (fun _ => congrArg va_rf e17) ?_
      refine ev_iload 3 dX11_utter_47 rfl ?_
      obtain ⟨c18, h⟩ := am_gd_elim h
      obtain ⟨c19, h⟩ := am_gd_elim h
      refine ev_iald dX11_utter_49 (fun _ => am_shk c18) (am_in_vp c19) ?_
      obtain ⟨v20, g21, e22, h⟩ := am_bd_elim h
      refine ev_callVi (v := v20) [.int x8, .int (am_I g9 p16 x8.toNatClampNeg)] [.int a2, .int x8, .ref a1] dX11_utter_50 (tX0_shakes e22) (by decide) mo_X0_shakes kM_X11_301 ki_X0_shakes kv_X0_shakes (fun h9 => (h9.2.1 36 _ rfl).2) (by decide) rfl (Nat.le_of_ble_eq_true rfl) ?_
      obtain ⟨c26, h⟩ := am_gd_elim h
      obtain ⟨u23, g24, e25, h⟩ := am_bd_elim h
      refine ev_callVv [.int x8, .int a2, .int v20] [] dX11_utter_53 (tX2_press e25) (by decide) mo_X2_press kM_X11_318 ki_X2_press kv_X2_press (fun _ => am_sh c26) (by decide) rfl (Nat.le_of_ble_eq_true rfl) ?_
      obtain ⟨x27, ex27, h⟩ := am_let_ex h
      refine ev_iinc (ls' := [(6, .int x27), (0, .ref 0), (1, .ref a1), (2, .int a2)]) 3 dX11_utter_56 rfl ex27 (by decide) rfl ?_
      refine ev_goto 26 dX11_utter_59 (by decide) ?_
      refine ev_sub [1, 2, 3, 0] rfl ?_
      exact ih _ _ _ h
set_option maxRecDepth 100000 in
set_option maxHeartbeats 4000000 in
theorem eX11_utter (a1 : Nat) (a2 : Int32) (a3 : Int32) (a4 : Int32) (a5 : Int32) (g : am_G) (r : Int32 × am_G) (h : fX11_utter a1 a2 a3 a4 a5 g = some r) : am_Ev zc MX11_utter 4 0 [(0, .ref 0), (1, .ref a1), (2, .int a2), (3, .int a3), (4, .int a4), (5, .int a5)] [] g (am_ri r) := by
  unfold fX11_utter at h
  refine ev_aload_n 0 dX11_utter_0 rfl ?_
  refine ev_gf (v := .ref 36) dX11_utter_1 (fun h9 => (h9.2.1 0 _ rfl).2) 4 (by decide) (by decide) kF_X11_41 (fun h9 => congrArg va_rf (h9.2.2 0 4 36 rfl)) ?_
  refine ev_aload_n 1 dX11_utter_4 rfl ?_
  obtain ⟨c1, h⟩ := am_gd_elim h
  refine ev_gf (v := .int (am_I g a1 5)) dX11_utter_5 (fun _ => am_sh c1) 5 (by decide) (by decide) kF_X11_177 (fun _ => rfl) ?_
  obtain ⟨u2, g3, e4, h⟩ := am_bd_elim h
  refine ev_callVv [.int (am_I g a1 5)] [] dX11_utter_8 (tX0_onDay e4) (by decide) mo_X0_onDay kM_X11_294 ki_X0_onDay kv_X0_onDay (fun h9 => (h9.2.1 36 _ rfl).2) (by decide) rfl (Nat.le_of_ble_eq_true rfl) ?_
  refine ev_aload_n 0 dX11_utter_11 rfl ?_
  refine ev_gf (v := .ref 36) dX11_utter_12 (fun h9 => (h9.2.1 0 _ rfl).2) 4 (by decide) (by decide) kF_X11_41 (fun h9 => congrArg va_rf (h9.2.2 0 4 36 rfl)) ?_
  refine ev_iload_n 3 dX11_utter_15 rfl ?_
  refine ev_iload 4 dX11_utter_16 rfl ?_
  refine ev_iload 5 dX11_utter_18 rfl ?_
  obtain ⟨u5, g6, e7, h⟩ := am_bd_elim h
  refine ev_callVv [.int a3, .int a4, .int a5] [] dX11_utter_20 (tX0_ofSaid e7) (by decide) mo_X0_ofSaid kM_X11_297 ki_X0_ofSaid kv_X0_ofSaid (fun h9 => (h9.2.1 36 _ rfl).2) (by decide) rfl (Nat.le_of_ble_eq_true rfl) ?_
  refine ev_iconst dX11_utter_23 rfl ?_
  refine ev_istore (ls' := [(6, .int (0 : Int32)), (0, .ref 0), (1, .ref a1), (2, .int a2), (3, .int a3), (4, .int a4), (5, .int a5)]) dX11_utter_24 (by decide) rfl ?_
  refine ev_sub [1, 2, 3, 0] rfl ?_
  exact tfX11_utter_L26 a1 a2 _ _ _ _ h
theorem tX11_utter {a1 : Nat} {a2 : Int32} {a3 : Int32} {a4 : Int32} {a5 : Int32} {g : am_G} {r : Int32 × am_G} (h : fX11_utter a1 a2 a3 a4 a5 g = some r) : am_Mt zc MX11_utter 4 [.ref 0, .ref a1, .int a2, .int a3, .int a4, .int a5] g (am_ri r) := am_Mt.of rfl (Nat.le_of_ble_eq_true rfl) (eX11_utter _ _ _ _ _ _ _ h)
def fX11_tellOnce (a1 : Nat) (a2 : Int32) (a3 : Int32) (g : am_G) : Option (Int32 × am_G) :=
  am_bd (fX6_kindOf 33 a2 g) fun v1 g2 =>
  if v1 = (6 : Int32) then (
    am_gd (decide (am_S g2 a1 = (2, 8))) <|
    if (am_I g2 a1 5) < (999 : Int32) then (
      if a3 = 0 then (
        am_bd (fX11_passNight a1 g2) fun v52 g53 =>
        some (v52, g53))
      else (
        am_bd (fX8_keep a1 (1 : Int32) g2) fun u55 g56 =>
        am_bd (fX11_passNight a1 g56) fun v58 g59 =>
        some (v58, g59)))
    else (
      some ((-3 : Int32), g2)))
  else (
    am_bd (fX6_sumOf 33 a2 (0 : Int32) g2) fun v5 g6 =>
    am_bd (fX0_value 35 v5 g6) fun v8 g9 =>
    am_bd (fX6_sumOf 33 a2 (1 : Int32) g9) fun v11 g12 =>
    am_bd (fX0_value 35 v11 g12) fun v14 g15 =>
    am_bd (fX6_sumOf 33 a2 (2 : Int32) g15) fun v17 g18 =>
    am_bd (fX0_value 35 v17 g18) fun v20 g21 =>
    am_bd (fX11_isPlace v14 g21) fun v23 g24 =>
    if v23 = 0 then (
      some ((-3 : Int32), g24))
    else (
      am_bd (fX11_isLoud v20 g24) fun v27 g28 =>
      if v27 = 0 then (
        some ((-3 : Int32), g28))
      else (
        am_bd (fX10_has v8 g28) fun v31 g32 =>
        if v31 = 0 then (
          some ((-3 : Int32), g32))
        else (
          am_bd (fX11_isBarred a1 v8 v14 v20 g32) fun v35 g36 =>
          if v35 = 0 then (
            if a3 = 0 then (
              am_bd (fX11_utter a1 (0 : Int32) v8 v14 v20 g36) fun v40 g41 =>
              some (v40, g41))
            else (
              am_bd (fX8_keep a1 (0 : Int32) g36) fun u43 g44 =>
              am_bd (fX11_utter a1 (0 : Int32) v8 v14 v20 g44) fun v46 g47 =>
              some (v46, g47)))
          else (
            some ((-3 : Int32), g36))))))
set_option maxRecDepth 100000 in
set_option maxHeartbeats 4000000 in
theorem eX11_tellOnce (a1 : Nat) (a2 : Int32) (a3 : Int32) (g : am_G) (r : Int32 × am_G) (h : fX11_tellOnce a1 a2 a3 g = some r) : am_Ev zc MX11_tellOnce 5 0 [(0, .ref 0), (1, .ref a1), (2, .int a2), (3, .int a3)] [] g (am_ri r) := by
  unfold fX11_tellOnce at h
  refine ev_aload_n 0 dX11_tellOnce_0 rfl ?_
  refine ev_gf (v := .ref 29) dX11_tellOnce_1 (fun h9 => (h9.2.1 0 _ rfl).2) 3 (by decide) (by decide) kF_X11_32 (fun h9 => congrArg va_rf (h9.2.2 0 3 29 rfl)) ?_
  refine ev_gf (v := .ref 33) dX11_tellOnce_4 (fun h9 => (h9.2.1 29 _ rfl).2) 3 (by decide) (by decide) kF_X11_210 (fun h9 => congrArg va_rf (h9.2.2 29 3 33 rfl)) ?_
  refine ev_astore (ls' := [(4, .ref 33), (0, .ref 0), (1, .ref a1), (2, .int a2), (3, .int a3)]) dX11_tellOnce_7 (by decide) rfl ?_
  refine ev_aload 0 dX11_tellOnce_9 rfl ?_
  refine ev_iload_n 3 dX11_tellOnce_11 rfl ?_
  obtain ⟨v1, g2, e3, h⟩ := am_bd_elim h
  refine ev_callVi (v := v1) [.int a2] [] dX11_tellOnce_12 (tX6_kindOf e3) (by decide) mo_X6_kindOf kM_X11_261 ki_X6_kindOf kv_X6_kindOf (fun h9 => (h9.2.1 33 _ rfl).2) (by decide) rfl (Nat.le_of_ble_eq_true rfl) ?_
  refine ev_bipush dX11_tellOnce_15 rfl ?_
  refine ev_icmp_ne 52 dX11_tellOnce_17 (by decide) (fun c4 => ?_) (fun c4 => ?_)
  · replace h := am_ifn c4 h
    refine ev_aload_n 1 dX11_tellOnce_52 rfl ?_
    refine ev_gf (v := .ref 36) dX11_tellOnce_53 (fun h9 => (h9.2.1 0 _ rfl).2) 4 (by decide) (by decide) kF_X11_41 (fun h9 => congrArg va_rf (h9.2.2 0 4 36 rfl)) ?_
    refine ev_aload 0 dX11_tellOnce_56 rfl ?_
    refine ev_gf (v := .ref 35) dX11_tellOnce_58 (fun h9 => (h9.2.1 33 _ rfl).2) 1 (by decide) (by decide) kF_X11_250 (fun h9 => congrArg va_rf (h9.2.2 33 1 35 rfl)) ?_
    refine ev_aload 0 dX11_tellOnce_61 rfl ?_
    refine ev_iload_n 3 dX11_tellOnce_63 rfl ?_
    refine ev_iconst dX11_tellOnce_64 rfl ?_
    obtain ⟨v5, g6, e7, h⟩ := am_bd_elim h
    refine ev_callVi (v := v5) [.int a2, .int (0 : Int32)] [.ref 35, .ref 36] dX11_tellOnce_65 (tX6_sumOf e7) (by decide) mo_X6_sumOf kM_X11_271 ki_X6_sumOf kv_X6_sumOf (fun h9 => (h9.2.1 33 _ rfl).2) (by decide) rfl (Nat.le_of_ble_eq_true rfl) ?_
    obtain ⟨v8, g9, e10, h⟩ := am_bd_elim h
    refine ev_callVi (v := v8) [.ref 35, .int v5] [] dX11_tellOnce_68 (tX0_value e10) (by decide) mo_X0_value kM_X11_253 ki_X0_value kv_X0_value (fun h9 => (h9.2.1 36 _ rfl).2) (by decide) rfl (Nat.le_of_ble_eq_true rfl) ?_
    refine ev_istore (ls' := [(5, .int v8), (4, .ref 33), (0, .ref 0), (1, .ref a1), (2, .int a2), (3, .int a3)]) dX11_tellOnce_71 (by decide) rfl ?_
    refine ev_aload_n 2 dX11_tellOnce_73 rfl ?_
    refine ev_gf (v := .ref 36) dX11_tellOnce_74 (fun h9 => (h9.2.1 0 _ rfl).2) 4 (by decide) (by decide) kF_X11_41 (fun h9 => congrArg va_rf (h9.2.2 0 4 36 rfl)) ?_
    refine ev_aload 1 dX11_tellOnce_77 rfl ?_
    refine ev_gf (v := .ref 35) dX11_tellOnce_79 (fun h9 => (h9.2.1 33 _ rfl).2) 1 (by decide) (by decide) kF_X11_250 (fun h9 => congrArg va_rf (h9.2.2 33 1 35 rfl)) ?_
    refine ev_aload 1 dX11_tellOnce_82 rfl ?_
    refine ev_iload_n 4 dX11_tellOnce_84 rfl ?_
    refine ev_iconst dX11_tellOnce_85 rfl ?_
    obtain ⟨v11, g12, e13, h⟩ := am_bd_elim h
    refine ev_callVi (v := v11) [.int a2, .int (1 : Int32)] [.ref 35, .ref 36] dX11_tellOnce_86 (tX6_sumOf e13) (by decide) mo_X6_sumOf kM_X11_271 ki_X6_sumOf kv_X6_sumOf (fun h9 => (h9.2.1 33 _ rfl).2) (by decide) rfl (Nat.le_of_ble_eq_true rfl) ?_
    obtain ⟨v14, g15, e16, h⟩ := am_bd_elim h
    refine ev_callVi (v := v14) [.ref 35, .int v11] [] dX11_tellOnce_89 (tX0_value e16) (by decide) mo_X0_value kM_X11_253 ki_X0_value kv_X0_value (fun h9 => (h9.2.1 36 _ rfl).2) (by decide) rfl (Nat.le_of_ble_eq_true rfl) ?_
    refine ev_istore (ls' := [(6, .int v14), (5, .int v8), (4, .ref 33), (0, .ref 0), (1, .ref a1), (2, .int a2), (3, .int a3)]) dX11_tellOnce_92 (by decide) rfl ?_
    refine ev_aload_n 3 dX11_tellOnce_94 rfl ?_
    refine ev_gf (v := .ref 36) dX11_tellOnce_95 (fun h9 => (h9.2.1 0 _ rfl).2) 4 (by decide) (by decide) kF_X11_41 (fun h9 => congrArg va_rf (h9.2.2 0 4 36 rfl)) ?_
    refine ev_aload 2 dX11_tellOnce_98 rfl ?_
    refine ev_gf (v := .ref 35) dX11_tellOnce_100 (fun h9 => (h9.2.1 33 _ rfl).2) 1 (by decide) (by decide) kF_X11_250 (fun h9 => congrArg va_rf (h9.2.2 33 1 35 rfl)) ?_
    refine ev_aload 2 dX11_tellOnce_103 rfl ?_
    refine ev_iload_n 5 dX11_tellOnce_105 rfl ?_
    refine ev_iconst dX11_tellOnce_106 rfl ?_
    obtain ⟨v17, g18, e19, h⟩ := am_bd_elim h
    refine ev_callVi (v := v17) [.int a2, .int (2 : Int32)] [.ref 35, .ref 36] dX11_tellOnce_107 (tX6_sumOf e19) (by decide) mo_X6_sumOf kM_X11_271 ki_X6_sumOf kv_X6_sumOf (fun h9 => (h9.2.1 33 _ rfl).2) (by decide) rfl (Nat.le_of_ble_eq_true rfl) ?_
    obtain ⟨v20, g21, e22, h⟩ := am_bd_elim h
    refine ev_callVi (v := v20) [.ref 35, .int v17] [] dX11_tellOnce_110 (tX0_value e22) (by decide) mo_X0_value kM_X11_253 ki_X0_value kv_X0_value (fun h9 => (h9.2.1 36 _ rfl).2) (by decide) rfl (Nat.le_of_ble_eq_true rfl) ?_
    refine ev_istore (ls' := [(7, .int v20), (6, .int v14), (5, .int v8), (4, .ref 33), (0, .ref 0), (1, .ref a1), (2, .int a2), (3, .int a3)]) dX11_tellOnce_113 (by decide) rfl ?_
    refine ev_iload 1 dX11_tellOnce_115 rfl ?_
    obtain ⟨v23, g24, e25, h⟩ := am_bd_elim h
    refine ev_callSi (v := v23) [.int v14] [] dX11_tellOnce_117 (tX11_isPlace e25) (by decide) mo_X11_isPlace kM_X11_274 ks_X11_isPlace (Nat.le_of_ble_eq_true rfl) ?_
    refine ev_if_eq 160 dX11_tellOnce_120 (by decide) (fun c26 => ?_) (fun c26 => ?_)
    · replace h := am_ifp c26 h
      refine ev_bipush dX11_tellOnce_160 rfl ?_
      cases h
      exact ev_iret dX11_tellOnce_162 rfl
    · replace h := am_ifn c26 h
      refine ev_iload 0 dX11_tellOnce_123 rfl ?_
      obtain ⟨v27, g28, e29, h⟩ := am_bd_elim h
      refine ev_callSi (v := v27) [.int v20] [] dX11_tellOnce_125 (tX11_isLoud e29) (by decide) mo_X11_isLoud kM_X11_277 ks_X11_isLoud (Nat.le_of_ble_eq_true rfl) ?_
      refine ev_if_eq 160 dX11_tellOnce_128 (by decide) (fun c30 => ?_) (fun c30 => ?_)
      · replace h := am_ifp c30 h
        refine ev_bipush dX11_tellOnce_160 rfl ?_
        cases h
        exact ev_iret dX11_tellOnce_162 rfl
      · replace h := am_ifn c30 h
        refine ev_aload_n 4 dX11_tellOnce_131 rfl ?_
        refine ev_gf (v := .ref 1) dX11_tellOnce_132 (fun h9 => (h9.2.1 0 _ rfl).2) 0 (by decide) (by decide) kF_X11_14 (fun h9 => congrArg va_rf (h9.2.2 0 0 1 rfl)) ?_
        refine ev_gf (v := .ref 12) dX11_tellOnce_135 (fun h9 => (h9.2.1 1 _ rfl).2) 5 (by decide) (by decide) kF_X11_150 (fun h9 => congrArg va_rf (h9.2.2 1 5 12 rfl)) ?_
        refine ev_iload 2 dX11_tellOnce_138 rfl ?_
        obtain ⟨v31, g32, e33, h⟩ := am_bd_elim h
        refine ev_callVi (v := v31) [.int v8] [] dX11_tellOnce_140 (tX10_has e33) (by decide) mo_X10_has kM_X11_162 ki_X10_has kv_X10_has (fun h9 => (h9.2.1 12 _ rfl).2) (by decide) rfl (Nat.le_of_ble_eq_true rfl) ?_
        refine ev_if_eq 160 dX11_tellOnce_143 (by decide) (fun c34 => ?_) (fun c34 => ?_)
        · replace h := am_ifp c34 h
          refine ev_bipush dX11_tellOnce_160 rfl ?_
          cases h
          exact ev_iret dX11_tellOnce_162 rfl
        · replace h := am_ifn c34 h
          refine ev_aload_n 4 dX11_tellOnce_146 rfl ?_
          refine ev_aload_n 5 dX11_tellOnce_147 rfl ?_
          refine ev_iload 2 dX11_tellOnce_148 rfl ?_
          refine ev_iload 1 dX11_tellOnce_150 rfl ?_
          refine ev_iload 0 dX11_tellOnce_152 rfl ?_
          obtain ⟨v35, g36, e37, h⟩ := am_bd_elim h
          refine ev_callVi (v := v35) [.ref a1, .int v8, .int v14, .int v20] [] dX11_tellOnce_154 (tX11_isBarred e37) (by decide) mo_X11_isBarred kM_X11_280 ki_X11_isBarred kv_X11_isBarred (fun h9 => (h9.2.1 0 _ rfl).2) (by decide) rfl (Nat.le_of_ble_eq_true rfl) ?_
          refine ev_if_eq 163 dX11_tellOnce_157 (by decide) (fun c38 => ?_) (fun c38 => ?_)
          · replace h := am_ifp c38 h
            refine ev_iload_n 7 dX11_tellOnce_163 rfl ?_
            refine ev_if_eq 176 dX11_tellOnce_164 (by decide) (fun c39 => ?_) (fun c39 => ?_)
            · replace h := am_ifp c39 h
              refine ev_aload_n 4 dX11_tellOnce_176 rfl ?_
              refine ev_aload_n 5 dX11_tellOnce_177 rfl ?_
              refine ev_iconst dX11_tellOnce_178 rfl ?_
              refine ev_iload 2 dX11_tellOnce_179 rfl ?_
              refine ev_iload 1 dX11_tellOnce_181 rfl ?_
              refine ev_iload 0 dX11_tellOnce_183 rfl ?_
              obtain ⟨v40, g41, e42, h⟩ := am_bd_elim h
              refine ev_callVi (v := v40) [.ref a1, .int (0 : Int32), .int v8, .int v14, .int v20] [] dX11_tellOnce_185 (tX11_utter e42) (by decide) mo_X11_utter kM_X11_284 ki_X11_utter kv_X11_utter (fun h9 => (h9.2.1 0 _ rfl).2) (by decide) rfl (Nat.le_of_ble_eq_true rfl) ?_
              cases h
              exact ev_iret dX11_tellOnce_188 rfl
            · replace h := am_ifn c39 h
              refine ev_aload_n 4 dX11_tellOnce_167 rfl ?_
              refine ev_gf (v := .ref 26) dX11_tellOnce_168 (fun h9 => (h9.2.1 0 _ rfl).2) 2 (by decide) (by decide) kF_X11_25 (fun h9 => congrArg va_rf (h9.2.2 0 2 26 rfl)) ?_
              refine ev_aload_n 5 dX11_tellOnce_171 rfl ?_
              refine ev_iconst dX11_tellOnce_172 rfl ?_
              obtain ⟨u43, g44, e45, h⟩ := am_bd_elim h
              refine ev_callVv [.ref a1, .int (0 : Int32)] [] dX11_tellOnce_173 (tX8_keep e45) (by decide) mo_X8_keep kM_X11_264 ki_X8_keep kv_X8_keep (fun h9 => (h9.2.1 26 _ rfl).2) (by decide) rfl (Nat.le_of_ble_eq_true rfl) ?_
              refine ev_aload_n 4 dX11_tellOnce_176 rfl ?_
              refine ev_aload_n 5 dX11_tellOnce_177 rfl ?_
              refine ev_iconst dX11_tellOnce_178 rfl ?_
              refine ev_iload 2 dX11_tellOnce_179 rfl ?_
              refine ev_iload 1 dX11_tellOnce_181 rfl ?_
              refine ev_iload 0 dX11_tellOnce_183 rfl ?_
              obtain ⟨v46, g47, e48, h⟩ := am_bd_elim h
              refine ev_callVi (v := v46) [.ref a1, .int (0 : Int32), .int v8, .int v14, .int v20] [] dX11_tellOnce_185 (tX11_utter e48) (by decide) mo_X11_utter kM_X11_284 ki_X11_utter kv_X11_utter (fun h9 => (h9.2.1 0 _ rfl).2) (by decide) rfl (Nat.le_of_ble_eq_true rfl) ?_
              cases h
              exact ev_iret dX11_tellOnce_188 rfl
          · replace h := am_ifn c38 h
            refine ev_bipush dX11_tellOnce_160 rfl ?_
            cases h
            exact ev_iret dX11_tellOnce_162 rfl
  · replace h := am_ifp c4 h
    refine ev_aload_n 2 dX11_tellOnce_20 rfl ?_
    obtain ⟨c49, h⟩ := am_gd_elim h
    refine ev_gf (v := .int (am_I g2 a1 5)) dX11_tellOnce_21 (fun _ => am_sh c49) 5 (by decide) (by decide) kF_X11_177 (fun _ => rfl) ?_
    refine ev_sipush dX11_tellOnce_24 rfl ?_
    refine ev_icmp_lt 33 dX11_tellOnce_27 (by decide) (fun c50 => ?_) (fun c50 => ?_)
    · replace h := am_ifp c50 h
      refine ev_iload_n 4 dX11_tellOnce_33 rfl ?_
      refine ev_if_eq 46 dX11_tellOnce_34 (by decide) (fun c51 => ?_) (fun c51 => ?_)
      · replace h := am_ifp c51 h
        refine ev_aload_n 1 dX11_tellOnce_46 rfl ?_
        refine ev_aload_n 2 dX11_tellOnce_47 rfl ?_
        obtain ⟨v52, g53, e54, h⟩ := am_bd_elim h
        refine ev_callVi (v := v52) [.ref a1] [] dX11_tellOnce_48 (tX11_passNight e54) (by decide) mo_X11_passNight kM_X11_267 ki_X11_passNight kv_X11_passNight (fun h9 => (h9.2.1 0 _ rfl).2) (by decide) rfl (Nat.le_of_ble_eq_true rfl) ?_
        cases h
        exact ev_iret dX11_tellOnce_51 rfl
      · replace h := am_ifn c51 h
        refine ev_aload_n 1 dX11_tellOnce_37 rfl ?_
        refine ev_gf (v := .ref 26) dX11_tellOnce_38 (fun h9 => (h9.2.1 0 _ rfl).2) 2 (by decide) (by decide) kF_X11_25 (fun h9 => congrArg va_rf (h9.2.2 0 2 26 rfl)) ?_
        refine ev_aload_n 2 dX11_tellOnce_41 rfl ?_
        refine ev_iconst dX11_tellOnce_42 rfl ?_
        obtain ⟨u55, g56, e57, h⟩ := am_bd_elim h
        refine ev_callVv [.ref a1, .int (1 : Int32)] [] dX11_tellOnce_43 (tX8_keep e57) (by decide) mo_X8_keep kM_X11_264 ki_X8_keep kv_X8_keep (fun h9 => (h9.2.1 26 _ rfl).2) (by decide) rfl (Nat.le_of_ble_eq_true rfl) ?_
        refine ev_aload_n 1 dX11_tellOnce_46 rfl ?_
        refine ev_aload_n 2 dX11_tellOnce_47 rfl ?_
        obtain ⟨v58, g59, e60, h⟩ := am_bd_elim h
        refine ev_callVi (v := v58) [.ref a1] [] dX11_tellOnce_48 (tX11_passNight e60) (by decide) mo_X11_passNight kM_X11_267 ki_X11_passNight kv_X11_passNight (fun h9 => (h9.2.1 0 _ rfl).2) (by decide) rfl (Nat.le_of_ble_eq_true rfl) ?_
        cases h
        exact ev_iret dX11_tellOnce_51 rfl
    · replace h := am_ifn c50 h
      refine ev_bipush dX11_tellOnce_30 rfl ?_
      cases h
      exact ev_iret dX11_tellOnce_32 rfl
theorem tX11_tellOnce {a1 : Nat} {a2 : Int32} {a3 : Int32} {g : am_G} {r : Int32 × am_G} (h : fX11_tellOnce a1 a2 a3 g = some r) : am_Mt zc MX11_tellOnce 5 [.ref 0, .ref a1, .int a2, .int a3] g (am_ri r) := am_Mt.of rfl (Nat.le_of_ble_eq_true rfl) (eX11_tellOnce _ _ _ _ _ h)
def fX11_tellAll_L51 (k : am_G → Option (Int32 × am_G)) (a1 : Nat) (a2 : Int32) (x2 : Int32) (x7 : Int32) : Nat → Int32 → am_G → Option (Int32 × am_G)
  | 0, _, _ => none
  | n + 1, x10, g11 =>
    am_bd (fX6_timesOf 33 x7 g11) fun v13 g14 =>
    if v13 ≤ x10 then (
      k g14)
    else (
      am_bd (fX0_knowTalks a1 x2 g14) fun u17 g18 =>
      am_bd (fX6_testOf 33 x7 g18) fun v20 g21 =>
      am_jn (fun  (g24 : am_G) =>
        am_let (x10 + (1 : Int32)) fun x26 =>
        fX11_tellAll_L51 k a1 a2 x2 x7 n x26 g24) fun j25 =>
      am_jn (fun  (g27 : am_G) =>
        am_bd (fX11_tellOnce a1 x7 a2 g27) fun v29 g30 =>
        if 0 ≤ v29 then (
          am_gd (am_in (24 : Int32) 40) <|
          am_gd (am_in (24 : Int32) 40) <|
          am_let (am_si g30 37 (24 : Int32).toNatClampNeg ((am_I g30 37 (24 : Int32).toNatClampNeg) + (1 : Int32))) fun g35 =>
          am_gd (am_in (25 : Int32) 40) <|
          am_gd (am_in (25 : Int32) 40) <|
          am_let (am_si g35 37 (25 : Int32).toNatClampNeg ((am_I g35 37 (25 : Int32).toNatClampNeg) + v29)) fun g38 =>
          j25 g38)
        else (
          some (x7, g30))) fun j28 =>
      if v20 = (-1 : Int32) then (
        j28 g21)
      else (
        am_bd (fX0_value 35 v20 g21) fun v39 g40 =>
        if v39 = (1 : Int32) then (
          j28 g40)
        else (
          j25 g40)))
def fX11_tellAll_L39 (a1 : Nat) (a2 : Int32) (x2 : Int32) : Nat → Int32 → am_G → Option (Int32 × am_G)
  | 0, _, _ => none
  | n + 1, x7, g8 =>
    if (am_I g8 33 2) ≤ x7 then (
      some ((-1 : Int32), g8))
    else (
      fX11_tellAll_L51 (fun  (g43 : am_G) =>
        am_let (x7 + (1 : Int32)) fun x44 =>
        fX11_tellAll_L39 a1 a2 x2 n x44 g43) a1 a2 x2 x7 am_fu (0 : Int32) g8)
def fX11_tellAll (a1 : Nat) (a2 : Int32) (g : am_G) : Option (Int32 × am_G) :=
  am_gd (decide (am_S g a1 = (2, 8))) <|
  am_let (am_I g a1 6) fun x2 =>
  am_gd (am_in (24 : Int32) 40) <|
  am_let (am_si g 37 (24 : Int32).toNatClampNeg (0 : Int32)) fun g4 =>
  am_gd (am_in (25 : Int32) 40) <|
  am_let (am_si g4 37 (25 : Int32).toNatClampNeg (0 : Int32)) fun g6 =>
  fX11_tellAll_L39 a1 a2 x2 am_fu (0 : Int32) g6
set_option maxRecDepth 100000 in
set_option maxHeartbeats 4000000 in
theorem tfX11_tellAll_L51  {k : am_G → Option (Int32 × am_G)} (a1 : Nat) (a2 : Int32) (x2 : Int32) (x7 : Int32) (hk : ∀  (g12 : am_G) (r : Int32 × am_G), k  g12 = some r → am_Ev zc MX11_tellAll 6 159 [(0, .ref 0), (1, .ref a1), (2, .int a2), (3, .ref 33), (4, .int x2), (5, .int x7)] [] g12 (am_ri r)) : ∀ (n : Nat) (x10 : Int32) (g11 : am_G) (r : Int32 × am_G), fX11_tellAll_L51 k a1 a2 x2 x7 n x10 g11 = some r → am_Ev zc MX11_tellAll 6 51 [(0, .ref 0), (1, .ref a1), (2, .int a2), (3, .ref 33), (4, .int x2), (5, .int x7), (6, .int x10)] [] g11 (am_ri r) := by
  intro n
  induction n with
  | zero => intro x10 g11 r h; exact nomatch (show (none : Option (Int32 × am_G)) = some r from h)
  | succ n ih =>
    intro x10 g11 r h
    rw [fX11_tellAll_L51] at h
    refine ev_iload 6 dX11_tellAll_51 rfl ?_
    refine ev_aload_n 3 dX11_tellAll_53 rfl ?_
    refine ev_iload 5 dX11_tellAll_54 rfl ?_
    obtain ⟨v13, g14, e15, h⟩ := am_bd_elim h
    refine ev_callVi (v := v13) [.int x7] [.int x10] dX11_tellAll_56 (tX6_timesOf e15) (by decide) mo_X6_timesOf kM_X11_240 ki_X6_timesOf kv_X6_timesOf (fun h9 => (h9.2.1 33 _ rfl).2) (by decide) rfl (Nat.le_of_ble_eq_true rfl) ?_
    refine ev_icmp_ge 159 dX11_tellAll_59 (by decide) (fun c16 => ?_) (fun c16 => ?_)
    · replace h := am_ifp c16 h
      refine ev_sub [0, 1, 2, 3, 4, 5] rfl ?_
      exact hk  _ _ h
    · replace h := am_ifn c16 h
      refine ev_aload_n 0 dX11_tellAll_62 rfl ?_
      refine ev_gf (v := .ref 36) dX11_tellAll_63 (fun h9 => (h9.2.1 0 _ rfl).2) 4 (by decide) (by decide) kF_X11_41 (fun h9 => congrArg va_rf (h9.2.2 0 4 36 rfl)) ?_
      refine ev_aload_n 1 dX11_tellAll_66 rfl ?_
      refine ev_iload 4 dX11_tellAll_67 rfl ?_
      obtain ⟨u17, g18, e19, h⟩ := am_bd_elim h
      refine ev_callVv [.ref a1, .int x2] [] dX11_tellAll_69 (tX0_knowTalks e19) (by decide) mo_X0_knowTalks kM_X11_243 ki_X0_knowTalks kv_X0_knowTalks (fun h9 => (h9.2.1 36 _ rfl).2) (by decide) rfl (Nat.le_of_ble_eq_true rfl) ?_
      refine ev_aload_n 3 dX11_tellAll_72 rfl ?_
      refine ev_iload 5 dX11_tellAll_73 rfl ?_
      obtain ⟨v20, g21, e22, h⟩ := am_bd_elim h
      refine ev_callVi (v := v20) [.int x7] [] dX11_tellAll_75 (tX6_testOf e22) (by decide) mo_X6_testOf kM_X11_247 ki_X6_testOf kv_X6_testOf (fun h9 => (h9.2.1 33 _ rfl).2) (by decide) rfl (Nat.le_of_ble_eq_true rfl) ?_
      refine ev_istore (ls' := [(7, .int v20), (0, .ref 0), (1, .ref a1), (2, .int a2), (3, .ref 33), (4, .int x2), (5, .int x7), (6, .int x10)]) dX11_tellAll_78 (by decide) rfl ?_
      refine ev_iload 0 dX11_tellAll_80 rfl ?_
      refine ev_iconst dX11_tellAll_82 rfl ?_
      refine am_jn_elim (fun q9 => ∀  (g24 : am_G) (r : Int32 × am_G), q9  g24 = some r → am_Ev zc MX11_tellAll 6 153 [(0, .ref 0), (1, .ref a1), (2, .int a2), (3, .ref 33), (4, .int x2), (5, .int x7), (6, .int x10)] [] g24 (am_ri r)) h ?_ (fun j25 hj25 h => ?_)
      · intro  g24 r h
        try dsimp only at h
        obtain ⟨x26, ex26, h⟩ := am_let_ex h
        refine ev_iinc (ls' := [(6, .int x26), (0, .ref 0), (1, .ref a1), (2, .int a2), (3, .ref 33), (4, .int x2), (5, .int x7)]) 6 dX11_tellAll_153 rfl ex26 (by decide) rfl ?_
        refine ev_goto 51 dX11_tellAll_156 (by decide) ?_
        refine ev_sub [1, 2, 3, 4, 5, 6, 0] rfl ?_
        exact ih _ _ _ h
      · refine am_jn_elim (fun q9 => ∀  (g27 : am_G) (r : Int32 × am_G), q9  g27 = some r → am_Ev zc MX11_tellAll 6 106 [(0, .ref 0), (1, .ref a1), (2, .int a2), (3, .ref 33), (4, .int x2), (5, .int x7), (6, .int x10)] [] g27 (am_ri r)) h ?_ (fun j28 hj28 h => ?_)
        · intro  g27 r h
          try dsimp only at h
          refine ev_aload_n 0 dX11_tellAll_106 rfl ?_
          refine ev_aload_n 1 dX11_tellAll_107 rfl ?_
          refine ev_iload 5 dX11_tellAll_108 rfl ?_
          refine ev_iload_n 2 dX11_tellAll_110 rfl ?_
          obtain ⟨v29, g30, e31, h⟩ := am_bd_elim h
          refine ev_callVi (v := v29) [.ref a1, .int x7, .int a2] [] dX11_tellAll_111 (tX11_tellOnce e31) (by decide) mo_X11_tellOnce kM_X11_257 ki_X11_tellOnce kv_X11_tellOnce (fun h9 => (h9.2.1 0 _ rfl).2) (by decide) rfl (Nat.le_of_ble_eq_true rfl) ?_
          refine ev_istore (ls' := [(8, .int v29), (0, .ref 0), (1, .ref a1), (2, .int a2), (3, .ref 33), (4, .int x2), (5, .int x7), (6, .int x10)]) dX11_tellAll_114 (by decide) rfl ?_
          refine ev_iload 0 dX11_tellAll_116 rfl ?_
          refine ev_if_ge 124 dX11_tellAll_118 (by decide) (fun c32 => ?_) (fun c32 => ?_)
          · replace h := am_ifp c32 h
            refine ev_aload_n 1 dX11_tellAll_124 rfl ?_
            refine ev_gf (v := .ref 36) dX11_tellAll_125 (fun h9 => (h9.2.1 0 _ rfl).2) 4 (by decide) (by decide) kF_X11_41 (fun h9 => congrArg va_rf (h9.2.2 0 4 36 rfl)) ?_
            refine ev_gf (v := .ref 37) dX11_tellAll_128 (fun h9 => (h9.2.1 36 _ rfl).2) 1 (by decide) (by decide) kF_X11_231 (fun h9 => congrArg va_rf (h9.2.2 36 1 37 rfl)) ?_
            refine ev_bipush dX11_tellAll_131 rfl ?_
            refine ev_dup2 dX11_tellAll_133 rfl rfl ?_
            obtain ⟨c33, h⟩ := am_gd_elim h
            refine ev_iald dX11_tellAll_134 (fun h9 => (h9.2.1 37 _ rfl).2) (am_in_vp c33) ?_
            refine ev_iconst dX11_tellAll_135 rfl ?_
            refine ev_iadd dX11_tellAll_136 ?_
            obtain ⟨c34, h⟩ := am_gd_elim h
            refine ev_iast dX11_tellAll_137 (fun h9 => (h9.2.1 37 _ rfl).2) (am_in_vp c34) ?_
            refine am_let_elim (P := fun g35 => am_Ev zc MX11_tellAll 6 138 [(8, .int v29), (0, .ref 0), (1, .ref a1), (2, .int a2), (3, .ref 33), (4, .int x2), (5, .int x7), (6, .int x10)] [] g35 (am_ri r)) h fun g35 h => ?_
            refine ev_aload_n 1 dX11_tellAll_138 rfl ?_
            refine ev_gf (v := .ref 36) dX11_tellAll_139 (fun h9 => (h9.2.1 0 _ rfl).2) 4 (by decide) (by decide) kF_X11_41 (fun h9 => congrArg va_rf (h9.2.2 0 4 36 rfl)) ?_
            refine ev_gf (v := .ref 37) dX11_tellAll_142 (fun h9 => (h9.2.1 36 _ rfl).2) 1 (by decide) (by decide) kF_X11_231 (fun h9 => congrArg va_rf (h9.2.2 36 1 37 rfl)) ?_
            refine ev_bipush dX11_tellAll_145 rfl ?_
            refine ev_dup2 dX11_tellAll_147 rfl rfl ?_
            obtain ⟨c36, h⟩ := am_gd_elim h
            refine ev_iald dX11_tellAll_148 (fun h9 => (h9.2.1 37 _ rfl).2) (am_in_vp c36) ?_
            refine ev_iload 0 dX11_tellAll_149 rfl ?_
            refine ev_iadd dX11_tellAll_151 ?_
            obtain ⟨c37, h⟩ := am_gd_elim h
            refine ev_iast dX11_tellAll_152 (fun h9 => (h9.2.1 37 _ rfl).2) (am_in_vp c37) ?_
            refine am_let_elim (P := fun g38 => am_Ev zc MX11_tellAll 6 153 [(8, .int v29), (0, .ref 0), (1, .ref a1), (2, .int a2), (3, .ref 33), (4, .int x2), (5, .int x7), (6, .int x10)] [] g38 (am_ri r)) h fun g38 h => ?_
            refine ev_sub [1, 2, 3, 4, 5, 6, 7] rfl ?_
            exact hj25  _ _ h
          · replace h := am_ifn c32 h
            refine ev_iload 6 dX11_tellAll_121 rfl ?_
            cases h
            exact ev_iret dX11_tellAll_123 rfl
        · refine ev_icmp_eq 106 dX11_tellAll_83 (by decide) (fun c23 => ?_) (fun c23 => ?_)
          · replace h := am_ifp c23 h
            refine ev_sub [1, 2, 3, 4, 5, 6, 7] rfl ?_
            exact hj28  _ _ h
          · replace h := am_ifn c23 h
            refine ev_aload_n 1 dX11_tellAll_86 rfl ?_
            refine ev_gf (v := .ref 36) dX11_tellAll_87 (fun h9 => (h9.2.1 0 _ rfl).2) 4 (by decide) (by decide) kF_X11_41 (fun h9 => congrArg va_rf (h9.2.2 0 4 36 rfl)) ?_
            refine ev_aload_n 4 dX11_tellAll_90 rfl ?_
            refine ev_gf (v := .ref 35) dX11_tellAll_91 (fun h9 => (h9.2.1 33 _ rfl).2) 1 (by decide) (by decide) kF_X11_250 (fun h9 => congrArg va_rf (h9.2.2 33 1 35 rfl)) ?_
            refine ev_iload 0 dX11_tellAll_94 rfl ?_
            obtain ⟨v39, g40, e41, h⟩ := am_bd_elim h
            refine ev_callVi (v := v39) [.ref 35, .int v20] [] dX11_tellAll_96 (tX0_value e41) (by decide) mo_X0_value kM_X11_253 ki_X0_value kv_X0_value (fun h9 => (h9.2.1 36 _ rfl).2) (by decide) rfl (Nat.le_of_ble_eq_true rfl) ?_
            refine ev_iconst dX11_tellAll_99 rfl ?_
            refine ev_icmp_eq 106 dX11_tellAll_100 (by decide) (fun c42 => ?_) (fun c42 => ?_)
            · replace h := am_ifp c42 h
              refine ev_sub [1, 2, 3, 4, 5, 6, 7] rfl ?_
              exact hj28  _ _ h
            · replace h := am_ifn c42 h
              refine ev_goto 153 dX11_tellAll_103 (by decide) ?_
              refine ev_sub [1, 2, 3, 4, 5, 6, 7] rfl ?_
              exact hj25  _ _ h
set_option maxRecDepth 100000 in
set_option maxHeartbeats 4000000 in
theorem tfX11_tellAll_L39  (a1 : Nat) (a2 : Int32) (x2 : Int32) : ∀ (n : Nat) (x7 : Int32) (g8 : am_G) (r : Int32 × am_G), fX11_tellAll_L39 a1 a2 x2 n x7 g8 = some r → am_Ev zc MX11_tellAll 6 39 [(0, .ref 0), (1, .ref a1), (2, .int a2), (3, .ref 33), (4, .int x2), (5, .int x7)] [] g8 (am_ri r) := by
  intro n
  induction n with
  | zero => intro x7 g8 r h; exact nomatch (show (none : Option (Int32 × am_G)) = some r from h)
  | succ n ih =>
    intro x7 g8 r h
    rw [fX11_tellAll_L39] at h
    refine ev_iload 5 dX11_tellAll_39 rfl ?_
    refine ev_aload_n 3 dX11_tellAll_41 rfl ?_
    refine ev_gf (v := .int (am_I g8 33 2)) dX11_tellAll_42 (fun h9 => (h9.2.1 33 _ rfl).2) 2 (by decide) (by decide) kF_X11_237 (fun _ => rfl) ?_
    refine ev_icmp_ge 165 dX11_tellAll_45 (by decide) (fun c9 => ?_) (fun c9 => ?_)
    · replace h := am_ifp c9 h
      refine ev_iconst dX11_tellAll_165 rfl ?_
      cases h
      exact ev_iret dX11_tellAll_166 rfl
    · replace h := am_ifn c9 h
      refine ev_iconst dX11_tellAll_48 rfl ?_
      refine ev_istore (ls' := [(6, .int (0 : Int32)), (0, .ref 0), (1, .ref a1), (2, .int a2), (3, .ref 33), (4, .int x2), (5, .int x7)]) dX11_tellAll_49 (by decide) rfl ?_
      refine ev_sub [1, 2, 3, 4, 5, 6, 0] rfl ?_
      refine tfX11_tellAll_L51 a1 a2 x2 x7 ?_ _ _ _ _ h
      intro  g43 r h
      try dsimp only at h
      obtain ⟨x44, ex44, h⟩ := am_let_ex h
      refine ev_iinc (ls' := [(5, .int x44), (0, .ref 0), (1, .ref a1), (2, .int a2), (3, .ref 33), (4, .int x2)]) 5 dX11_tellAll_159 rfl ex44 (by decide) rfl ?_
      refine ev_goto 39 dX11_tellAll_162 (by decide) ?_
      refine ev_sub [1, 2, 3, 4, 5, 0] rfl ?_
      exact ih _ _ _ h
set_option maxRecDepth 100000 in
set_option maxHeartbeats 4000000 in
theorem eX11_tellAll (a1 : Nat) (a2 : Int32) (g : am_G) (r : Int32 × am_G) (h : fX11_tellAll a1 a2 g = some r) : am_Ev zc MX11_tellAll 6 0 [(0, .ref 0), (1, .ref a1), (2, .int a2)] [] g (am_ri r) := by
  unfold fX11_tellAll at h
  refine ev_aload_n 0 dX11_tellAll_0 rfl ?_
  refine ev_gf (v := .ref 29) dX11_tellAll_1 (fun h9 => (h9.2.1 0 _ rfl).2) 3 (by decide) (by decide) kF_X11_32 (fun h9 => congrArg va_rf (h9.2.2 0 3 29 rfl)) ?_
  refine ev_gf (v := .ref 33) dX11_tellAll_4 (fun h9 => (h9.2.1 29 _ rfl).2) 3 (by decide) (by decide) kF_X11_210 (fun h9 => congrArg va_rf (h9.2.2 29 3 33 rfl)) ?_
  refine ev_astore_n (ls' := [(3, .ref 33), (0, .ref 0), (1, .ref a1), (2, .int a2)]) dX11_tellAll_7 rfl (by decide) rfl ?_
  refine ev_aload_n 2 dX11_tellAll_8 rfl ?_
  obtain ⟨c1, h⟩ := am_gd_elim h
  refine ev_gf (v := .int (am_I g a1 6)) dX11_tellAll_9 (fun _ => am_sh c1) 6 (by decide) (by decide) kF_X11_234 (fun _ => rfl) ?_
  refine am_let_elim (P := fun x2 => am_Ev zc MX11_tellAll 6 12 [(3, .ref 33), (0, .ref 0), (1, .ref a1), (2, .int a2)] [.int x2] g (am_ri r)) h fun x2 h => ?_
  refine ev_istore (ls' := [(4, .int x2), (3, .ref 33), (0, .ref 0), (1, .ref a1), (2, .int a2)]) dX11_tellAll_12 (by decide) rfl ?_
  refine ev_aload_n 2 dX11_tellAll_14 rfl ?_
  refine ev_gf (v := .ref 36) dX11_tellAll_15 (fun h9 => (h9.2.1 0 _ rfl).2) 4 (by decide) (by decide) kF_X11_41 (fun h9 => congrArg va_rf (h9.2.2 0 4 36 rfl)) ?_
  refine ev_gf (v := .ref 37) dX11_tellAll_18 (fun h9 => (h9.2.1 36 _ rfl).2) 1 (by decide) (by decide) kF_X11_231 (fun h9 => congrArg va_rf (h9.2.2 36 1 37 rfl)) ?_
  refine ev_bipush dX11_tellAll_21 rfl ?_
  refine ev_iconst dX11_tellAll_23 rfl ?_
  obtain ⟨c3, h⟩ := am_gd_elim h
  refine ev_iast dX11_tellAll_24 (fun h9 => (h9.2.1 37 _ rfl).2) (am_in_vp c3) ?_
  refine am_let_elim (P := fun g4 => am_Ev zc MX11_tellAll 6 25 [(4, .int x2), (3, .ref 33), (0, .ref 0), (1, .ref a1), (2, .int a2)] [] g4 (am_ri r)) h fun g4 h => ?_
  refine ev_aload_n 2 dX11_tellAll_25 rfl ?_
  refine ev_gf (v := .ref 36) dX11_tellAll_26 (fun h9 => (h9.2.1 0 _ rfl).2) 4 (by decide) (by decide) kF_X11_41 (fun h9 => congrArg va_rf (h9.2.2 0 4 36 rfl)) ?_
  refine ev_gf (v := .ref 37) dX11_tellAll_29 (fun h9 => (h9.2.1 36 _ rfl).2) 1 (by decide) (by decide) kF_X11_231 (fun h9 => congrArg va_rf (h9.2.2 36 1 37 rfl)) ?_
  refine ev_bipush dX11_tellAll_32 rfl ?_
  refine ev_iconst dX11_tellAll_34 rfl ?_
  obtain ⟨c5, h⟩ := am_gd_elim h
  refine ev_iast dX11_tellAll_35 (fun h9 => (h9.2.1 37 _ rfl).2) (am_in_vp c5) ?_
  refine am_let_elim (P := fun g6 => am_Ev zc MX11_tellAll 6 36 [(4, .int x2), (3, .ref 33), (0, .ref 0), (1, .ref a1), (2, .int a2)] [] g6 (am_ri r)) h fun g6 h => ?_
  refine ev_iconst dX11_tellAll_36 rfl ?_
  refine ev_istore (ls' := [(5, .int (0 : Int32)), (4, .int x2), (3, .ref 33), (0, .ref 0), (1, .ref a1), (2, .int a2)]) dX11_tellAll_37 (by decide) rfl ?_
  refine ev_sub [3, 4, 5, 2, 1, 0] rfl ?_
  exact tfX11_tellAll_L39 a1 a2 x2 _ _ _ _ h
theorem tX11_tellAll {a1 : Nat} {a2 : Int32} {g : am_G} {r : Int32 × am_G} (h : fX11_tellAll a1 a2 g = some r) : am_Mt zc MX11_tellAll 6 [.ref 0, .ref a1, .int a2] g (am_ri r) := am_Mt.of rfl (Nat.le_of_ble_eq_true rfl) (eX11_tellAll _ _ _ _ h)
def fX11_told (g : am_G) : Option (Int32 × am_G) :=
  am_let (am_si g 0 15 (-1 : Int32)) fun g1 =>
  am_bd (fX5_read (0 : Int32) g1) fun v2 g3 =>
  if v2 = 0 then (
    am_bd (fX11_refused (-6 : Int32) g3) fun v24 g25 =>
    some (v24, g25))
  else (
    am_bd (fX2_copyFrom 65 2 g3) fun u6 g7 =>
    am_bd (fX11_tellAll 65 (0 : Int32) g7) fun v9 g10 =>
    am_let (am_si g10 0 15 v9) fun g12 =>
    if (am_I g12 0 15) = (-1 : Int32) then (
      am_bd (fX11_tellAll 2 (1 : Int32) g12) fun v14 g15 =>
      am_gd (am_in (24 : Int32) 40) <|
      am_bd (fX11_accepted (am_I g15 37 (24 : Int32).toNatClampNeg) g15) fun v18 g19 =>
      some (v18, g19))
    else (
      am_bd (fX11_refused (-3 : Int32) g12) fun v21 g22 =>
      some (v21, g22)))
set_option maxRecDepth 100000 in
set_option maxHeartbeats 4000000 in
theorem eX11_told (g : am_G) (r : Int32 × am_G) (h : fX11_told g = some r) : am_Ev zc MX11_told 69 0 [(0, .ref 0)] [] g (am_ri r) := by
  unfold fX11_told at h
  refine ev_aload_n 0 dX11_told_0 rfl ?_
  refine ev_iconst dX11_told_1 rfl ?_
  refine ev_pfi dX11_told_2 (fun h9 => (h9.2.1 0 _ rfl).2) 15 (by decide) (by decide) kF_X11_92 rfl rfl rfl (fun _ => rfl) ?_
  refine am_let_elim (P := fun g1 => am_Ev zc MX11_told 69 5 [(0, .ref 0)] [] g1 (am_ri r)) h fun g1 h => ?_
  refine ev_aload_n 0 dX11_told_5 rfl ?_
  refine ev_gf (v := .ref 29) dX11_told_6 (fun h9 => (h9.2.1 0 _ rfl).2) 3 (by decide) (by decide) kF_X11_32 (fun h9 => congrArg va_rf (h9.2.2 0 3 29 rfl)) ?_
  refine ev_iconst dX11_told_9 rfl ?_
  obtain ⟨v2, g3, e4, h⟩ := am_bd_elim h
  refine ev_callVi (v := v2) [.int (0 : Int32)] [] dX11_told_10 (tX5_read e4) (by decide) mo_X5_read kM_X11_202 ki_X5_read kv_X5_read (fun h9 => (h9.2.1 29 _ rfl).2) (by decide) rfl (Nat.le_of_ble_eq_true rfl) ?_
  refine ev_if_ne 23 dX11_told_13 (by decide) (fun c5 => ?_) (fun c5 => ?_)
  · replace h := am_ifn c5 h
    refine ev_aload_n 0 dX11_told_23 rfl ?_
    refine ev_gf (v := .ref 65) dX11_told_24 (fun h9 => (h9.2.1 0 _ rfl).2) 9 (by decide) (by decide) kF_X11_78 (fun h9 => congrArg va_rf (h9.2.2 0 9 65 rfl)) ?_
    refine ev_aload_n 0 dX11_told_27 rfl ?_
    refine ev_gf (v := .ref 1) dX11_told_28 (fun h9 => (h9.2.1 0 _ rfl).2) 0 (by decide) (by decide) kF_X11_14 (fun h9 => congrArg va_rf (h9.2.2 0 0 1 rfl)) ?_
    refine ev_gf (v := .ref 2) dX11_told_31 (fun h9 => (h9.2.1 1 _ rfl).2) 0 (by decide) (by decide) kF_X11_112 (fun h9 => congrArg va_rf (h9.2.2 1 0 2 rfl)) ?_
    obtain ⟨u6, g7, e8, h⟩ := am_bd_elim h
    refine ev_callVv [.ref 2] [] dX11_told_34 (tX2_copyFrom e8) (by decide) mo_X2_copyFrom kM_X11_223 ki_X2_copyFrom kv_X2_copyFrom (fun h9 => (h9.2.1 65 _ rfl).2) (by decide) rfl (Nat.le_of_ble_eq_true rfl) ?_
    refine ev_aload_n 0 dX11_told_37 rfl ?_
    refine ev_aload_n 0 dX11_told_38 rfl ?_
    refine ev_aload_n 0 dX11_told_39 rfl ?_
    refine ev_gf (v := .ref 65) dX11_told_40 (fun h9 => (h9.2.1 0 _ rfl).2) 9 (by decide) (by decide) kF_X11_78 (fun h9 => congrArg va_rf (h9.2.2 0 9 65 rfl)) ?_
    refine ev_iconst dX11_told_43 rfl ?_
    obtain ⟨v9, g10, e11, h⟩ := am_bd_elim h
    refine ev_callVi (v := v9) [.ref 65, .int (0 : Int32)] [.ref 0] dX11_told_44 (tX11_tellAll e11) (by decide) mo_X11_tellAll kM_X11_227 ki_X11_tellAll kv_X11_tellAll (fun h9 => (h9.2.1 0 _ rfl).2) (by decide) rfl (Nat.le_of_ble_eq_true rfl) ?_
    refine ev_pfi dX11_told_47 (fun h9 => (h9.2.1 0 _ rfl).2) 15 (by decide) (by decide) kF_X11_92 rfl rfl rfl (fun _ => rfl) ?_
    refine am_let_elim (P := fun g12 => am_Ev zc MX11_told 69 50 [(0, .ref 0)] [] g12 (am_ri r)) h fun g12 h => ?_
    refine ev_aload_n 0 dX11_told_50 rfl ?_
    refine ev_gf (v := .int (am_I g12 0 15)) dX11_told_51 (fun h9 => (h9.2.1 0 _ rfl).2) 15 (by decide) (by decide) kF_X11_92 (fun _ => rfl) ?_
    refine ev_iconst dX11_told_54 rfl ?_
    refine ev_icmp_eq 65 dX11_told_55 (by decide) (fun c13 => ?_) (fun c13 => ?_)
    · replace h := am_ifp c13 h
      refine ev_aload_n 0 dX11_told_65 rfl ?_
      refine ev_aload_n 0 dX11_told_66 rfl ?_
      refine ev_gf (v := .ref 1) dX11_told_67 (fun h9 => (h9.2.1 0 _ rfl).2) 0 (by decide) (by decide) kF_X11_14 (fun h9 => congrArg va_rf (h9.2.2 0 0 1 rfl)) ?_
      refine ev_gf (v := .ref 2) dX11_told_70 (fun h9 => (h9.2.1 1 _ rfl).2) 0 (by decide) (by decide) kF_X11_112 (fun h9 => congrArg va_rf (h9.2.2 1 0 2 rfl)) ?_
      refine ev_iconst dX11_told_73 rfl ?_
      obtain ⟨v14, g15, e16, h⟩ := am_bd_elim h
      refine ev_callVi (v := v14) [.ref 2, .int (1 : Int32)] [] dX11_told_74 (tX11_tellAll e16) (by decide) mo_X11_tellAll kM_X11_227 ki_X11_tellAll kv_X11_tellAll (fun h9 => (h9.2.1 0 _ rfl).2) (by decide) rfl (Nat.le_of_ble_eq_true rfl) ?_
      refine ev_pop dX11_told_77 rfl ?_
      refine ev_aload_n 0 dX11_told_78 rfl ?_
      refine ev_aload_n 0 dX11_told_79 rfl ?_
      refine ev_gf (v := .ref 36) dX11_told_80 (fun h9 => (h9.2.1 0 _ rfl).2) 4 (by decide) (by decide) kF_X11_41 (fun h9 => congrArg va_rf (h9.2.2 0 4 36 rfl)) ?_
      refine ev_gf (v := .ref 37) dX11_told_83 (fun h9 => (h9.2.1 36 _ rfl).2) 1 (by decide) (by decide) kF_X11_231 (fun h9 => congrArg va_rf (h9.2.2 36 1 37 rfl)) ?_
      refine ev_bipush dX11_told_86 rfl ?_
      obtain ⟨c17, h⟩ := am_gd_elim h
      refine ev_iald dX11_told_88 (fun h9 => (h9.2.1 37 _ rfl).2) (am_in_vp c17) ?_
      obtain ⟨v18, g19, e20, h⟩ := am_bd_elim h
      refine ev_callVi (v := v18) [.int (am_I g15 37 (24 : Int32).toNatClampNeg)] [] dX11_told_89 (tX11_accepted e20) (by decide) mo_X11_accepted kM_X11_133 ki_X11_accepted kv_X11_accepted (fun h9 => (h9.2.1 0 _ rfl).2) (by decide) rfl (Nat.le_of_ble_eq_true rfl) ?_
      cases h
      exact ev_iret dX11_told_92 rfl
    · replace h := am_ifn c13 h
      refine ev_aload_n 0 dX11_told_58 rfl ?_
      refine ev_bipush dX11_told_59 rfl ?_
      obtain ⟨v21, g22, e23, h⟩ := am_bd_elim h
      refine ev_callVi (v := v21) [.int (-3 : Int32)] [] dX11_told_61 (tX11_refused e23) (by decide) mo_X11_refused kM_X11_104 ki_X11_refused kv_X11_refused (fun h9 => (h9.2.1 0 _ rfl).2) (by decide) rfl (Nat.le_of_ble_eq_true rfl) ?_
      cases h
      exact ev_iret dX11_told_64 rfl
  · replace h := am_ifp c5 h
    refine ev_aload_n 0 dX11_told_16 rfl ?_
    refine ev_bipush dX11_told_17 rfl ?_
    obtain ⟨v24, g25, e26, h⟩ := am_bd_elim h
    refine ev_callVi (v := v24) [.int (-6 : Int32)] [] dX11_told_19 (tX11_refused e26) (by decide) mo_X11_refused kM_X11_104 ki_X11_refused kv_X11_refused (fun h9 => (h9.2.1 0 _ rfl).2) (by decide) rfl (Nat.le_of_ble_eq_true rfl) ?_
    cases h
    exact ev_iret dX11_told_22 rfl
theorem tX11_told {g : am_G} {r : Int32 × am_G} (h : fX11_told g = some r) : am_Mt zc MX11_told 69 [.ref 0] g (am_ri r) := am_Mt.of rfl (Nat.le_of_ble_eq_true rfl) (eX11_told _ _ h)
def fX11_fault (g : am_G) : Option (Int32 × am_G) :=
  some (am_I g 29 5, g)
set_option maxRecDepth 100000 in
set_option maxHeartbeats 4000000 in
theorem eX11_fault (g : am_G) (r : Int32 × am_G) (h : fX11_fault g = some r) : am_Ev zc MX11_fault 0 0 [(0, .ref 0)] [] g (am_ri r) := by
  unfold fX11_fault at h
  refine ev_aload_n 0 dX11_fault_0 rfl ?_
  refine ev_gf (v := .ref 29) dX11_fault_1 (fun h9 => (h9.2.1 0 _ rfl).2) 3 (by decide) (by decide) kF_X11_32 (fun h9 => congrArg va_rf (h9.2.2 0 3 29 rfl)) ?_
  refine ev_gf (v := .int (am_I g 29 5)) dX11_fault_4 (fun h9 => (h9.2.1 29 _ rfl).2) 5 (by decide) (by decide) kF_X11_288 (fun _ => rfl) ?_
  cases h
  exact ev_iret dX11_fault_7 rfl
theorem tX11_fault {g : am_G} {r : Int32 × am_G} (h : fX11_fault g = some r) : am_Mt zc MX11_fault 0 [.ref 0] g (am_ri r) := am_Mt.of rfl (Nat.le_of_ble_eq_true rfl) (eX11_fault _ _ h)
def fX11_stopped (g : am_G) : Option (Int32 × am_G) :=
  some (am_I g 0 15, g)
set_option maxRecDepth 100000 in
set_option maxHeartbeats 4000000 in
theorem eX11_stopped (g : am_G) (r : Int32 × am_G) (h : fX11_stopped g = some r) : am_Ev zc MX11_stopped 0 0 [(0, .ref 0)] [] g (am_ri r) := by
  unfold fX11_stopped at h
  refine ev_aload_n 0 dX11_stopped_0 rfl ?_
  refine ev_gf (v := .int (am_I g 0 15)) dX11_stopped_1 (fun h9 => (h9.2.1 0 _ rfl).2) 15 (by decide) (by decide) kF_X11_92 (fun _ => rfl) ?_
  cases h
  exact ev_iret dX11_stopped_4 rfl
theorem tX11_stopped {g : am_G} {r : Int32 × am_G} (h : fX11_stopped g = some r) : am_Mt zc MX11_stopped 0 [.ref 0] g (am_ri r) := am_Mt.of rfl (Nat.le_of_ble_eq_true rfl) (eX11_stopped _ _ h)
def fX11_force (a1 : Int32) (g : am_G) : Option (Int32 × am_G) :=
  if a1 = (-1 : Int32) then (
    am_let (am_I g 1 18) fun x2 =>
    am_let (am_si g 1 18 a1) fun g3 =>
    am_bd (fX11_accepted x2 g3) fun v4 g5 =>
    some (v4, g5))
  else (
    am_bd (fX11_within a1 (0 : Int32) ((am_I g 1 17) - (1 : Int32)) g) fun v7 g8 =>
    if v7 = 0 then (
      am_bd (fX11_refused (-2 : Int32) g8) fun v16 g17 =>
      some (v16, g17))
    else (
      am_let (am_I g8 1 18) fun x11 =>
      am_let (am_si g8 1 18 a1) fun g12 =>
      am_bd (fX11_accepted x11 g12) fun v13 g14 =>
      some (v13, g14)))
set_option maxRecDepth 100000 in
set_option maxHeartbeats 4000000 in
theorem eX11_force (a1 : Int32) (g : am_G) (r : Int32 × am_G) (h : fX11_force a1 g = some r) : am_Ev zc MX11_force 1 0 [(0, .ref 0), (1, .int a1)] [] g (am_ri r) := by
  unfold fX11_force at h
  refine ev_iload_n 1 dX11_force_0 rfl ?_
  refine ev_iconst dX11_force_1 rfl ?_
  refine ev_icmp_eq 29 dX11_force_2 (by decide) (fun c1 => ?_) (fun c1 => ?_)
  · replace h := am_ifp c1 h
    refine ev_aload_n 0 dX11_force_29 rfl ?_
    refine ev_gf (v := .ref 1) dX11_force_30 (fun h9 => (h9.2.1 0 _ rfl).2) 0 (by decide) (by decide) kF_X11_14 (fun h9 => congrArg va_rf (h9.2.2 0 0 1 rfl)) ?_
    refine ev_gf (v := .int (am_I g 1 18)) dX11_force_33 (fun h9 => (h9.2.1 1 _ rfl).2) 18 (by decide) (by decide) kF_X11_291 (fun _ => rfl) ?_
    refine am_let_elim (P := fun x2 => am_Ev zc MX11_force 1 36 [(0, .ref 0), (1, .int a1)] [.int x2] g (am_ri r)) h fun x2 h => ?_
    refine ev_istore_n (ls' := [(2, .int x2), (0, .ref 0), (1, .int a1)]) dX11_force_36 rfl (by decide) rfl ?_
    refine ev_aload_n 1 dX11_force_37 rfl ?_
    refine ev_gf (v := .ref 1) dX11_force_38 (fun h9 => (h9.2.1 0 _ rfl).2) 0 (by decide) (by decide) kF_X11_14 (fun h9 => congrArg va_rf (h9.2.2 0 0 1 rfl)) ?_
    refine ev_iload_n 2 dX11_force_41 rfl ?_
    refine ev_pfi dX11_force_42 (fun h9 => (h9.2.1 1 _ rfl).2) 18 (by decide) (by decide) kF_X11_291 rfl rfl rfl (fun _ => rfl) ?_
    refine am_let_elim (P := fun g3 => am_Ev zc MX11_force 1 45 [(2, .int x2), (0, .ref 0), (1, .int a1)] [] g3 (am_ri r)) h fun g3 h => ?_
    refine ev_aload_n 1 dX11_force_45 rfl ?_
    refine ev_iload_n 0 dX11_force_46 rfl ?_
    obtain ⟨v4, g5, e6, h⟩ := am_bd_elim h
    refine ev_callVi (v := v4) [.int x2] [] dX11_force_47 (tX11_accepted e6) (by decide) mo_X11_accepted kM_X11_133 ki_X11_accepted kv_X11_accepted (fun h9 => (h9.2.1 0 _ rfl).2) (by decide) rfl (Nat.le_of_ble_eq_true rfl) ?_
    cases h
    exact ev_iret dX11_force_50 rfl
  · replace h := am_ifn c1 h
    refine ev_iload_n 1 dX11_force_5 rfl ?_
    refine ev_iconst dX11_force_6 rfl ?_
    refine ev_aload_n 0 dX11_force_7 rfl ?_
    refine ev_gf (v := .ref 1) dX11_force_8 (fun h9 => (h9.2.1 0 _ rfl).2) 0 (by decide) (by decide) kF_X11_14 (fun h9 => congrArg va_rf (h9.2.2 0 0 1 rfl)) ?_
    refine ev_gf (v := .int (am_I g 1 17)) dX11_force_11 (fun h9 => (h9.2.1 1 _ rfl).2) 17 (by decide) (by decide) kF_X11_199 (fun _ => rfl) ?_
    refine ev_iconst dX11_force_14 rfl ?_
    refine ev_isub dX11_force_15 ?_
    obtain ⟨v7, g8, e9, h⟩ := am_bd_elim h
    refine ev_callSi (v := v7) [.int a1, .int (0 : Int32), .int ((am_I g 1 17) - (1 : Int32))] [] dX11_force_16 (tX11_within e9) (by decide) mo_X11_within kM_X11_136 ks_X11_within (Nat.le_of_ble_eq_true rfl) ?_
    refine ev_if_ne 29 dX11_force_19 (by decide) (fun c10 => ?_) (fun c10 => ?_)
    · replace h := am_ifn c10 h
      refine ev_aload_n 0 dX11_force_29 rfl ?_
      refine ev_gf (v := .ref 1) dX11_force_30 (fun h9 => (h9.2.1 0 _ rfl).2) 0 (by decide) (by decide) kF_X11_14 (fun h9 => congrArg va_rf (h9.2.2 0 0 1 rfl)) ?_
      refine ev_gf (v := .int (am_I g8 1 18)) dX11_force_33 (fun h9 => (h9.2.1 1 _ rfl).2) 18 (by decide) (by decide) kF_X11_291 (fun _ => rfl) ?_
      refine am_let_elim (P := fun x11 => am_Ev zc MX11_force 1 36 [(0, .ref 0), (1, .int a1)] [.int x11] g8 (am_ri r)) h fun x11 h => ?_
      refine ev_istore_n (ls' := [(2, .int x11), (0, .ref 0), (1, .int a1)]) dX11_force_36 rfl (by decide) rfl ?_
      refine ev_aload_n 1 dX11_force_37 rfl ?_
      refine ev_gf (v := .ref 1) dX11_force_38 (fun h9 => (h9.2.1 0 _ rfl).2) 0 (by decide) (by decide) kF_X11_14 (fun h9 => congrArg va_rf (h9.2.2 0 0 1 rfl)) ?_
      refine ev_iload_n 2 dX11_force_41 rfl ?_
      refine ev_pfi dX11_force_42 (fun h9 => (h9.2.1 1 _ rfl).2) 18 (by decide) (by decide) kF_X11_291 rfl rfl rfl (fun _ => rfl) ?_
      refine am_let_elim (P := fun g12 => am_Ev zc MX11_force 1 45 [(2, .int x11), (0, .ref 0), (1, .int a1)] [] g12 (am_ri r)) h fun g12 h => ?_
      refine ev_aload_n 1 dX11_force_45 rfl ?_
      refine ev_iload_n 0 dX11_force_46 rfl ?_
      obtain ⟨v13, g14, e15, h⟩ := am_bd_elim h
      refine ev_callVi (v := v13) [.int x11] [] dX11_force_47 (tX11_accepted e15) (by decide) mo_X11_accepted kM_X11_133 ki_X11_accepted kv_X11_accepted (fun h9 => (h9.2.1 0 _ rfl).2) (by decide) rfl (Nat.le_of_ble_eq_true rfl) ?_
      cases h
      exact ev_iret dX11_force_50 rfl
    · replace h := am_ifp c10 h
      refine ev_aload_n 0 dX11_force_22 rfl ?_
      refine ev_bipush dX11_force_23 rfl ?_
      obtain ⟨v16, g17, e18, h⟩ := am_bd_elim h
      refine ev_callVi (v := v16) [.int (-2 : Int32)] [] dX11_force_25 (tX11_refused e18) (by decide) mo_X11_refused kM_X11_104 ki_X11_refused kv_X11_refused (fun h9 => (h9.2.1 0 _ rfl).2) (by decide) rfl (Nat.le_of_ble_eq_true rfl) ?_
      cases h
      exact ev_iret dX11_force_28 rfl
theorem tX11_force {a1 : Int32} {g : am_G} {r : Int32 × am_G} (h : fX11_force a1 g = some r) : am_Mt zc MX11_force 1 [.ref 0, .int a1] g (am_ri r) := am_Mt.of rfl (Nat.le_of_ble_eq_true rfl) (eX11_force _ _ _ h)
def fX11_asks (a1 : Int32) (a2 : Int32) (a3 : Int32) (a4 : Int32) (a5 : Int32) (g : am_G) : Option (Int32 × am_G) :=
  am_bd (fX10_has a1 g) fun v1 g2 =>
  if v1 = 0 then (
    some ((-1 : Int32), g2))
  else (
    am_bd (fX11_isPlace a2 g2) fun v5 g6 =>
    if v5 = 0 then (
      some ((-1 : Int32), g6))
    else (
      am_bd (fX11_isLoud a3 g6) fun v9 g10 =>
      if v9 = 0 then (
        some ((-1 : Int32), g10))
      else (
        am_bd (fX11_within a5 (0 : Int32) (1 : Int32) g10) fun v13 g14 =>
        if v13 = 0 then (
          some ((-1 : Int32), g14))
        else (
          if a5 = (1 : Int32) then (
            am_bd (fX11_isBarred 2 a1 a2 a3 g14) fun v32 g33 =>
            if v32 = 0 then (
              some ((0 : Int32), g33))
            else (
              some ((1 : Int32), g33)))
          else (
            am_bd (fX11_isSlope a4 g14) fun v18 g19 =>
            if v18 = 0 then (
              some ((-1 : Int32), g19))
            else (
              am_bd (fX0_onDay (am_I g19 2 5) g19) fun u22 g23 =>
              am_bd (fX0_ofSaid a1 a2 a3 g23) fun u25 g26 =>
              am_gd (am_in a4 6) <|
              am_bd (fX0_shakes a4 (am_I g26 3 a4.toNatClampNeg) g26) fun v29 g30 =>
              some (v29, g30)))))))
set_option maxRecDepth 100000 in
set_option maxHeartbeats 4000000 in
theorem eX11_asks (a1 : Int32) (a2 : Int32) (a3 : Int32) (a4 : Int32) (a5 : Int32) (g : am_G) (r : Int32 × am_G) (h : fX11_asks a1 a2 a3 a4 a5 g = some r) : am_Ev zc MX11_asks 5 0 [(0, .ref 0), (1, .int a1), (2, .int a2), (3, .int a3), (4, .int a4), (5, .int a5)] [] g (am_ri r) := by
  unfold fX11_asks at h
  refine ev_aload_n 0 dX11_asks_0 rfl ?_
  refine ev_gf (v := .ref 1) dX11_asks_1 (fun h9 => (h9.2.1 0 _ rfl).2) 0 (by decide) (by decide) kF_X11_14 (fun h9 => congrArg va_rf (h9.2.2 0 0 1 rfl)) ?_
  refine ev_gf (v := .ref 12) dX11_asks_4 (fun h9 => (h9.2.1 1 _ rfl).2) 5 (by decide) (by decide) kF_X11_150 (fun h9 => congrArg va_rf (h9.2.2 1 5 12 rfl)) ?_
  refine ev_iload_n 1 dX11_asks_7 rfl ?_
  obtain ⟨v1, g2, e3, h⟩ := am_bd_elim h
  refine ev_callVi (v := v1) [.int a1] [] dX11_asks_8 (tX10_has e3) (by decide) mo_X10_has kM_X11_162 ki_X10_has kv_X10_has (fun h9 => (h9.2.1 12 _ rfl).2) (by decide) rfl (Nat.le_of_ble_eq_true rfl) ?_
  refine ev_if_eq 38 dX11_asks_11 (by decide) (fun c4 => ?_) (fun c4 => ?_)
  · replace h := am_ifp c4 h
    refine ev_iconst dX11_asks_38 rfl ?_
    cases h
    exact ev_iret dX11_asks_39 rfl
  · replace h := am_ifn c4 h
    refine ev_iload_n 2 dX11_asks_14 rfl ?_
    obtain ⟨v5, g6, e7, h⟩ := am_bd_elim h
    refine ev_callSi (v := v5) [.int a2] [] dX11_asks_15 (tX11_isPlace e7) (by decide) mo_X11_isPlace kM_X11_274 ks_X11_isPlace (Nat.le_of_ble_eq_true rfl) ?_
    refine ev_if_eq 38 dX11_asks_18 (by decide) (fun c8 => ?_) (fun c8 => ?_)
    · replace h := am_ifp c8 h
      refine ev_iconst dX11_asks_38 rfl ?_
      cases h
      exact ev_iret dX11_asks_39 rfl
    · replace h := am_ifn c8 h
      refine ev_iload_n 3 dX11_asks_21 rfl ?_
      obtain ⟨v9, g10, e11, h⟩ := am_bd_elim h
      refine ev_callSi (v := v9) [.int a3] [] dX11_asks_22 (tX11_isLoud e11) (by decide) mo_X11_isLoud kM_X11_277 ks_X11_isLoud (Nat.le_of_ble_eq_true rfl) ?_
      refine ev_if_eq 38 dX11_asks_25 (by decide) (fun c12 => ?_) (fun c12 => ?_)
      · replace h := am_ifp c12 h
        refine ev_iconst dX11_asks_38 rfl ?_
        cases h
        exact ev_iret dX11_asks_39 rfl
      · replace h := am_ifn c12 h
        refine ev_iload 5 dX11_asks_28 rfl ?_
        refine ev_iconst dX11_asks_30 rfl ?_
        refine ev_iconst dX11_asks_31 rfl ?_
        obtain ⟨v13, g14, e15, h⟩ := am_bd_elim h
        refine ev_callSi (v := v13) [.int a5, .int (0 : Int32), .int (1 : Int32)] [] dX11_asks_32 (tX11_within e15) (by decide) mo_X11_within kM_X11_136 ks_X11_within (Nat.le_of_ble_eq_true rfl) ?_
        refine ev_if_ne 40 dX11_asks_35 (by decide) (fun c16 => ?_) (fun c16 => ?_)
        · replace h := am_ifn c16 h
          refine ev_iload 5 dX11_asks_40 rfl ?_
          refine ev_iconst dX11_asks_42 rfl ?_
          refine ev_icmp_ne 69 dX11_asks_43 (by decide) (fun c17 => ?_) (fun c17 => ?_)
          · replace h := am_ifn c17 h
            refine ev_iload 4 dX11_asks_69 rfl ?_
            obtain ⟨v18, g19, e20, h⟩ := am_bd_elim h
            refine ev_callSi (v := v18) [.int a4] [] dX11_asks_71 (tX11_isSlope e20) (by decide) mo_X11_isSlope kM_X11_96 ks_X11_isSlope (Nat.le_of_ble_eq_true rfl) ?_
            refine ev_if_ne 79 dX11_asks_74 (by decide) (fun c21 => ?_) (fun c21 => ?_)
            · replace h := am_ifn c21 h
              refine ev_aload_n 0 dX11_asks_79 rfl ?_
              refine ev_gf (v := .ref 36) dX11_asks_80 (fun h9 => (h9.2.1 0 _ rfl).2) 4 (by decide) (by decide) kF_X11_41 (fun h9 => congrArg va_rf (h9.2.2 0 4 36 rfl)) ?_
              refine ev_aload_n 0 dX11_asks_83 rfl ?_
              refine ev_gf (v := .ref 1) dX11_asks_84 (fun h9 => (h9.2.1 0 _ rfl).2) 0 (by decide) (by decide) kF_X11_14 (fun h9 => congrArg va_rf (h9.2.2 0 0 1 rfl)) ?_
              refine ev_gf (v := .ref 2) dX11_asks_87 (fun h9 => (h9.2.1 1 _ rfl).2) 0 (by decide) (by decide) kF_X11_112 (fun h9 => congrArg va_rf (h9.2.2 1 0 2 rfl)) ?_
              refine ev_gf (v := .int (am_I g19 2 5)) dX11_asks_90 (fun h9 => (h9.2.1 2 _ rfl).2) 5 (by decide) (by decide) kF_X11_177 (fun _ => rfl) ?_
              obtain ⟨u22, g23, e24, h⟩ := am_bd_elim h
              refine ev_callVv [.int (am_I g19 2 5)] [] dX11_asks_93 (tX0_onDay e24) (by decide) mo_X0_onDay kM_X11_294 ki_X0_onDay kv_X0_onDay (fun h9 => (h9.2.1 36 _ rfl).2) (by decide) rfl (Nat.le_of_ble_eq_true rfl) ?_
              refine ev_aload_n 0 dX11_asks_96 rfl ?_
              refine ev_gf (v := .ref 36) dX11_asks_97 (fun h9 => (h9.2.1 0 _ rfl).2) 4 (by decide) (by decide) kF_X11_41 (fun h9 => congrArg va_rf (h9.2.2 0 4 36 rfl)) ?_
              refine ev_iload_n 1 dX11_asks_100 rfl ?_
              refine ev_iload_n 2 dX11_asks_101 rfl ?_
              refine ev_iload_n 3 dX11_asks_102 rfl ?_
              obtain ⟨u25, g26, e27, h⟩ := am_bd_elim h
              refine ev_callVv [.int a1, .int a2, .int a3] [] dX11_asks_103 (tX0_ofSaid e27) (by decide) mo_X0_ofSaid kM_X11_297 ki_X0_ofSaid kv_X0_ofSaid (fun h9 => (h9.2.1 36 _ rfl).2) (by decide) rfl (Nat.le_of_ble_eq_true rfl) ?_
              refine ev_aload_n 0 dX11_asks_106 rfl ?_
              refine ev_gf (v := .ref 36) dX11_asks_107 (fun h9 => (h9.2.1 0 _ rfl).2) 4 (by decide) (by decide) kF_X11_41 (fun h9 => congrArg va_rf (h9.2.2 0 4 36 rfl)) ?_
              refine ev_iload 4 dX11_asks_110 rfl ?_
              refine ev_aload_n 0 dX11_asks_112 rfl ?_
              refine ev_gf (v := .ref 1) dX11_asks_113 (fun h9 => (h9.2.1 0 _ rfl).2) 0 (by decide) (by decide) kF_X11_14 (fun h9 => congrArg va_rf (h9.2.2 0 0 1 rfl)) ?_
              refine ev_gf (v := .ref 2) dX11_asks_116 (fun h9 => (h9.2.1 1 _ rfl).2) 0 (by decide) (by decide) kF_X11_112 (fun h9 => congrArg va_rf (h9.2.2 1 0 2 rfl)) ?_
              refine ev_gf (v := .ref 3) dX11_asks_119 (fun h9 => (h9.2.1 2 _ rfl).2) 0 (by decide) (by decide) kF_X11_115 (fun h9 => congrArg va_rf (h9.2.2 2 0 3 rfl)) ?_
              refine ev_iload 4 dX11_asks_122 rfl ?_
              obtain ⟨c28, h⟩ := am_gd_elim h
              refine ev_iald dX11_asks_124 (fun h9 => (h9.2.1 3 _ rfl).2) (am_in_vp c28) ?_
              obtain ⟨v29, g30, e31, h⟩ := am_bd_elim h
              refine ev_callVi (v := v29) [.int a4, .int (am_I g26 3 a4.toNatClampNeg)] [] dX11_asks_125 (tX0_shakes e31) (by decide) mo_X0_shakes kM_X11_301 ki_X0_shakes kv_X0_shakes (fun h9 => (h9.2.1 36 _ rfl).2) (by decide) rfl (Nat.le_of_ble_eq_true rfl) ?_
              cases h
              exact ev_iret dX11_asks_128 rfl
            · replace h := am_ifp c21 h
              refine ev_iconst dX11_asks_77 rfl ?_
              cases h
              exact ev_iret dX11_asks_78 rfl
          · replace h := am_ifp c17 h
            refine ev_aload_n 0 dX11_asks_46 rfl ?_
            refine ev_aload_n 0 dX11_asks_47 rfl ?_
            refine ev_gf (v := .ref 1) dX11_asks_48 (fun h9 => (h9.2.1 0 _ rfl).2) 0 (by decide) (by decide) kF_X11_14 (fun h9 => congrArg va_rf (h9.2.2 0 0 1 rfl)) ?_
            refine ev_gf (v := .ref 2) dX11_asks_51 (fun h9 => (h9.2.1 1 _ rfl).2) 0 (by decide) (by decide) kF_X11_112 (fun h9 => congrArg va_rf (h9.2.2 1 0 2 rfl)) ?_
            refine ev_iload_n 1 dX11_asks_54 rfl ?_
            refine ev_iload_n 2 dX11_asks_55 rfl ?_
            refine ev_iload_n 3 dX11_asks_56 rfl ?_
            obtain ⟨v32, g33, e34, h⟩ := am_bd_elim h
            refine ev_callVi (v := v32) [.ref 2, .int a1, .int a2, .int a3] [] dX11_asks_57 (tX11_isBarred e34) (by decide) mo_X11_isBarred kM_X11_280 ki_X11_isBarred kv_X11_isBarred (fun h9 => (h9.2.1 0 _ rfl).2) (by decide) rfl (Nat.le_of_ble_eq_true rfl) ?_
            refine ev_if_eq 67 dX11_asks_60 (by decide) (fun c35 => ?_) (fun c35 => ?_)
            · replace h := am_ifp c35 h
              refine ev_iconst dX11_asks_67 rfl ?_
              cases h
              exact ev_iret dX11_asks_68 rfl
            · replace h := am_ifn c35 h
              refine ev_iconst dX11_asks_63 rfl ?_
              refine ev_goto 68 dX11_asks_64 (by decide) ?_
              cases h
              exact ev_iret dX11_asks_68 rfl
        · replace h := am_ifp c16 h
          refine ev_iconst dX11_asks_38 rfl ?_
          cases h
          exact ev_iret dX11_asks_39 rfl
theorem tX11_asks {a1 : Int32} {a2 : Int32} {a3 : Int32} {a4 : Int32} {a5 : Int32} {g : am_G} {r : Int32 × am_G} (h : fX11_asks a1 a2 a3 a4 a5 g = some r) : am_Mt zc MX11_asks 5 [.ref 0, .int a1, .int a2, .int a3, .int a4, .int a5] g (am_ri r) := am_Mt.of rfl (Nat.le_of_ble_eq_true rfl) (eX11_asks _ _ _ _ _ _ _ h)
def fX11_weather (a1 : Int32) (a2 : Int32) (g : am_G) : Option (Int32 × am_G) :=
  am_bd (fX11_isSlope a1 g) fun v1 g2 =>
  if v1 = 0 then (
    some ((-1 : Int32), g2))
  else (
    am_bd (fX11_within a2 (0 : Int32) (1 : Int32) g2) fun v5 g6 =>
    if v5 = 0 then (
      some ((-1 : Int32), g6))
    else (
      am_bd (fX0_onDay (am_I g6 2 5) g6) fun u9 g10 =>
      am_gd (am_in a1 6) <|
      am_bd (fX0_ofWeather a1 (am_I g10 3 a1.toNatClampNeg) g10) fun u13 g14 =>
      if a2 = 0 then (
        am_bd (fX0_falls g14) fun v20 g21 =>
        some (v20, g21))
      else (
        am_bd (fX0_thaws g14) fun v17 g18 =>
        some (v17, g18))))
set_option maxRecDepth 100000 in
set_option maxHeartbeats 4000000 in
theorem eX11_weather (a1 : Int32) (a2 : Int32) (g : am_G) (r : Int32 × am_G) (h : fX11_weather a1 a2 g = some r) : am_Ev zc MX11_weather 4 0 [(0, .ref 0), (1, .int a1), (2, .int a2)] [] g (am_ri r) := by
  unfold fX11_weather at h
  refine ev_iload_n 1 dX11_weather_0 rfl ?_
  obtain ⟨v1, g2, e3, h⟩ := am_bd_elim h
  refine ev_callSi (v := v1) [.int a1] [] dX11_weather_1 (tX11_isSlope e3) (by decide) mo_X11_isSlope kM_X11_96 ks_X11_isSlope (Nat.le_of_ble_eq_true rfl) ?_
  refine ev_if_eq 16 dX11_weather_4 (by decide) (fun c4 => ?_) (fun c4 => ?_)
  · replace h := am_ifp c4 h
    refine ev_iconst dX11_weather_16 rfl ?_
    cases h
    exact ev_iret dX11_weather_17 rfl
  · replace h := am_ifn c4 h
    refine ev_iload_n 2 dX11_weather_7 rfl ?_
    refine ev_iconst dX11_weather_8 rfl ?_
    refine ev_iconst dX11_weather_9 rfl ?_
    obtain ⟨v5, g6, e7, h⟩ := am_bd_elim h
    refine ev_callSi (v := v5) [.int a2, .int (0 : Int32), .int (1 : Int32)] [] dX11_weather_10 (tX11_within e7) (by decide) mo_X11_within kM_X11_136 ks_X11_within (Nat.le_of_ble_eq_true rfl) ?_
    refine ev_if_ne 18 dX11_weather_13 (by decide) (fun c8 => ?_) (fun c8 => ?_)
    · replace h := am_ifn c8 h
      refine ev_aload_n 0 dX11_weather_18 rfl ?_
      refine ev_gf (v := .ref 36) dX11_weather_19 (fun h9 => (h9.2.1 0 _ rfl).2) 4 (by decide) (by decide) kF_X11_41 (fun h9 => congrArg va_rf (h9.2.2 0 4 36 rfl)) ?_
      refine ev_aload_n 0 dX11_weather_22 rfl ?_
      refine ev_gf (v := .ref 1) dX11_weather_23 (fun h9 => (h9.2.1 0 _ rfl).2) 0 (by decide) (by decide) kF_X11_14 (fun h9 => congrArg va_rf (h9.2.2 0 0 1 rfl)) ?_
      refine ev_gf (v := .ref 2) dX11_weather_26 (fun h9 => (h9.2.1 1 _ rfl).2) 0 (by decide) (by decide) kF_X11_112 (fun h9 => congrArg va_rf (h9.2.2 1 0 2 rfl)) ?_
      refine ev_gf (v := .int (am_I g6 2 5)) dX11_weather_29 (fun h9 => (h9.2.1 2 _ rfl).2) 5 (by decide) (by decide) kF_X11_177 (fun _ => rfl) ?_
      obtain ⟨u9, g10, e11, h⟩ := am_bd_elim h
      refine ev_callVv [.int (am_I g6 2 5)] [] dX11_weather_32 (tX0_onDay e11) (by decide) mo_X0_onDay kM_X11_294 ki_X0_onDay kv_X0_onDay (fun h9 => (h9.2.1 36 _ rfl).2) (by decide) rfl (Nat.le_of_ble_eq_true rfl) ?_
      refine ev_aload_n 0 dX11_weather_35 rfl ?_
      refine ev_gf (v := .ref 36) dX11_weather_36 (fun h9 => (h9.2.1 0 _ rfl).2) 4 (by decide) (by decide) kF_X11_41 (fun h9 => congrArg va_rf (h9.2.2 0 4 36 rfl)) ?_
      refine ev_iload_n 1 dX11_weather_39 rfl ?_
      refine ev_aload_n 0 dX11_weather_40 rfl ?_
      refine ev_gf (v := .ref 1) dX11_weather_41 (fun h9 => (h9.2.1 0 _ rfl).2) 0 (by decide) (by decide) kF_X11_14 (fun h9 => congrArg va_rf (h9.2.2 0 0 1 rfl)) ?_
      refine ev_gf (v := .ref 2) dX11_weather_44 (fun h9 => (h9.2.1 1 _ rfl).2) 0 (by decide) (by decide) kF_X11_112 (fun h9 => congrArg va_rf (h9.2.2 1 0 2 rfl)) ?_
      refine ev_gf (v := .ref 3) dX11_weather_47 (fun h9 => (h9.2.1 2 _ rfl).2) 0 (by decide) (by decide) kF_X11_115 (fun h9 => congrArg va_rf (h9.2.2 2 0 3 rfl)) ?_
      refine ev_iload_n 1 dX11_weather_50 rfl ?_
      obtain ⟨c12, h⟩ := am_gd_elim h
      refine ev_iald dX11_weather_51 (fun h9 => (h9.2.1 3 _ rfl).2) (am_in_vp c12) ?_
      obtain ⟨u13, g14, e15, h⟩ := am_bd_elim h
      refine ev_callVv [.int a1, .int (am_I g10 3 a1.toNatClampNeg)] [] dX11_weather_52 (tX0_ofWeather e15) (by decide) mo_X0_ofWeather kM_X11_304 ki_X0_ofWeather kv_X0_ofWeather (fun h9 => (h9.2.1 36 _ rfl).2) (by decide) rfl (Nat.le_of_ble_eq_true rfl) ?_
      refine ev_iload_n 2 dX11_weather_55 rfl ?_
      refine ev_if_ne 69 dX11_weather_56 (by decide) (fun c16 => ?_) (fun c16 => ?_)
      · replace h := am_ifn c16 h
        refine ev_aload_n 0 dX11_weather_69 rfl ?_
        refine ev_gf (v := .ref 36) dX11_weather_70 (fun h9 => (h9.2.1 0 _ rfl).2) 4 (by decide) (by decide) kF_X11_41 (fun h9 => congrArg va_rf (h9.2.2 0 4 36 rfl)) ?_
        obtain ⟨v17, g18, e19, h⟩ := am_bd_elim h
        refine ev_callVi (v := v17) [] [] dX11_weather_73 (tX0_thaws e19) (by decide) mo_X0_thaws kM_X11_312 ki_X0_thaws kv_X0_thaws (fun h9 => (h9.2.1 36 _ rfl).2) (by decide) rfl (Nat.le_of_ble_eq_true rfl) ?_
        cases h
        exact ev_iret dX11_weather_76 rfl
      · replace h := am_ifp c16 h
        refine ev_aload_n 0 dX11_weather_59 rfl ?_
        refine ev_gf (v := .ref 36) dX11_weather_60 (fun h9 => (h9.2.1 0 _ rfl).2) 4 (by decide) (by decide) kF_X11_41 (fun h9 => congrArg va_rf (h9.2.2 0 4 36 rfl)) ?_
        obtain ⟨v20, g21, e22, h⟩ := am_bd_elim h
        refine ev_callVi (v := v20) [] [] dX11_weather_63 (tX0_falls e22) (by decide) mo_X0_falls kM_X11_308 ki_X0_falls kv_X0_falls (fun h9 => (h9.2.1 36 _ rfl).2) (by decide) rfl (Nat.le_of_ble_eq_true rfl) ?_
        refine ev_goto 76 dX11_weather_66 (by decide) ?_
        cases h
        exact ev_iret dX11_weather_76 rfl
    · replace h := am_ifp c8 h
      refine ev_iconst dX11_weather_16 rfl ?_
      cases h
      exact ev_iret dX11_weather_17 rfl
theorem tX11_weather {a1 : Int32} {a2 : Int32} {g : am_G} {r : Int32 × am_G} (h : fX11_weather a1 a2 g = some r) : am_Mt zc MX11_weather 4 [.ref 0, .int a1, .int a2] g (am_ri r) := am_Mt.of rfl (Nat.le_of_ble_eq_true rfl) (eX11_weather _ _ _ _ h)
def fX11_say (a1 : Int32) (a2 : Int32) (a3 : Int32) (a4 : Int32) (g : am_G) : Option (Int32 × am_G) :=
  am_bd (fX11_within a1 (0 : Int32) (5 : Int32) g) fun v1 g2 =>
  if v1 = 0 then (
    am_bd (fX11_refused (-1 : Int32) g2) fun v5 g6 =>
    some (v5, g6))
  else (
    am_bd (fX11_isPlace a3 g2) fun v8 g9 =>
    if v8 = 0 then (
      am_bd (fX11_refused (-1 : Int32) g9) fun v12 g13 =>
      some (v12, g13))
    else (
      am_bd (fX11_isLoud a4 g9) fun v15 g16 =>
      if v15 = 0 then (
        am_bd (fX11_refused (-1 : Int32) g16) fun v42 g43 =>
        some (v42, g43))
      else (
        am_bd (fX10_has a2 g16) fun v19 g20 =>
        if v19 = 0 then (
          am_bd (fX11_refused (-2 : Int32) g20) fun v39 g40 =>
          some (v39, g40))
        else (
          am_bd (fX11_isBarred 2 a2 a3 a4 g20) fun v23 g24 =>
          if v23 = 0 then (
            am_bd (fX8_keep 2 (0 : Int32) g24) fun u27 g28 =>
            am_bd (fX11_utter 2 a1 a2 a3 a4 g28) fun v30 g31 =>
            am_bd (fX11_accepted v30 g31) fun v33 g34 =>
            some (v33, g34))
          else (
            am_bd (fX11_refused (-3 : Int32) g24) fun v36 g37 =>
            some (v36, g37))))))
set_option maxRecDepth 100000 in
set_option maxHeartbeats 4000000 in
theorem eX11_say (a1 : Int32) (a2 : Int32) (a3 : Int32) (a4 : Int32) (g : am_G) (r : Int32 × am_G) (h : fX11_say a1 a2 a3 a4 g = some r) : am_Ev zc MX11_say 5 0 [(0, .ref 0), (1, .int a1), (2, .int a2), (3, .int a3), (4, .int a4)] [] g (am_ri r) := by
  unfold fX11_say at h
  refine ev_iload_n 1 dX11_say_0 rfl ?_
  refine ev_iconst dX11_say_1 rfl ?_
  refine ev_iconst dX11_say_2 rfl ?_
  obtain ⟨v1, g2, e3, h⟩ := am_bd_elim h
  refine ev_callSi (v := v1) [.int a1, .int (0 : Int32), .int (5 : Int32)] [] dX11_say_3 (tX11_within e3) (by decide) mo_X11_within kM_X11_136 ks_X11_within (Nat.le_of_ble_eq_true rfl) ?_
  refine ev_if_eq 24 dX11_say_6 (by decide) (fun c4 => ?_) (fun c4 => ?_)
  · replace h := am_ifp c4 h
    refine ev_aload_n 0 dX11_say_24 rfl ?_
    refine ev_iconst dX11_say_25 rfl ?_
    obtain ⟨v5, g6, e7, h⟩ := am_bd_elim h
    refine ev_callVi (v := v5) [.int (-1 : Int32)] [] dX11_say_26 (tX11_refused e7) (by decide) mo_X11_refused kM_X11_104 ki_X11_refused kv_X11_refused (fun h9 => (h9.2.1 0 _ rfl).2) (by decide) rfl (Nat.le_of_ble_eq_true rfl) ?_
    cases h
    exact ev_iret dX11_say_29 rfl
  · replace h := am_ifn c4 h
    refine ev_iload_n 3 dX11_say_9 rfl ?_
    obtain ⟨v8, g9, e10, h⟩ := am_bd_elim h
    refine ev_callSi (v := v8) [.int a3] [] dX11_say_10 (tX11_isPlace e10) (by decide) mo_X11_isPlace kM_X11_274 ks_X11_isPlace (Nat.le_of_ble_eq_true rfl) ?_
    refine ev_if_eq 24 dX11_say_13 (by decide) (fun c11 => ?_) (fun c11 => ?_)
    · replace h := am_ifp c11 h
      refine ev_aload_n 0 dX11_say_24 rfl ?_
      refine ev_iconst dX11_say_25 rfl ?_
      obtain ⟨v12, g13, e14, h⟩ := am_bd_elim h
      refine ev_callVi (v := v12) [.int (-1 : Int32)] [] dX11_say_26 (tX11_refused e14) (by decide) mo_X11_refused kM_X11_104 ki_X11_refused kv_X11_refused (fun h9 => (h9.2.1 0 _ rfl).2) (by decide) rfl (Nat.le_of_ble_eq_true rfl) ?_
      cases h
      exact ev_iret dX11_say_29 rfl
    · replace h := am_ifn c11 h
      refine ev_iload 4 dX11_say_16 rfl ?_
      obtain ⟨v15, g16, e17, h⟩ := am_bd_elim h
      refine ev_callSi (v := v15) [.int a4] [] dX11_say_18 (tX11_isLoud e17) (by decide) mo_X11_isLoud kM_X11_277 ks_X11_isLoud (Nat.le_of_ble_eq_true rfl) ?_
      refine ev_if_ne 30 dX11_say_21 (by decide) (fun c18 => ?_) (fun c18 => ?_)
      · replace h := am_ifn c18 h
        refine ev_aload_n 0 dX11_say_30 rfl ?_
        refine ev_gf (v := .ref 1) dX11_say_31 (fun h9 => (h9.2.1 0 _ rfl).2) 0 (by decide) (by decide) kF_X11_14 (fun h9 => congrArg va_rf (h9.2.2 0 0 1 rfl)) ?_
        refine ev_gf (v := .ref 12) dX11_say_34 (fun h9 => (h9.2.1 1 _ rfl).2) 5 (by decide) (by decide) kF_X11_150 (fun h9 => congrArg va_rf (h9.2.2 1 5 12 rfl)) ?_
        refine ev_iload_n 2 dX11_say_37 rfl ?_
        obtain ⟨v19, g20, e21, h⟩ := am_bd_elim h
        refine ev_callVi (v := v19) [.int a2] [] dX11_say_38 (tX10_has e21) (by decide) mo_X10_has kM_X11_162 ki_X10_has kv_X10_has (fun h9 => (h9.2.1 12 _ rfl).2) (by decide) rfl (Nat.le_of_ble_eq_true rfl) ?_
        refine ev_if_ne 51 dX11_say_41 (by decide) (fun c22 => ?_) (fun c22 => ?_)
        · replace h := am_ifn c22 h
          refine ev_aload_n 0 dX11_say_51 rfl ?_
          refine ev_aload_n 0 dX11_say_52 rfl ?_
          refine ev_gf (v := .ref 1) dX11_say_53 (fun h9 => (h9.2.1 0 _ rfl).2) 0 (by decide) (by decide) kF_X11_14 (fun h9 => congrArg va_rf (h9.2.2 0 0 1 rfl)) ?_
          refine ev_gf (v := .ref 2) dX11_say_56 (fun h9 => (h9.2.1 1 _ rfl).2) 0 (by decide) (by decide) kF_X11_112 (fun h9 => congrArg va_rf (h9.2.2 1 0 2 rfl)) ?_
          refine ev_iload_n 2 dX11_say_59 rfl ?_
          refine ev_iload_n 3 dX11_say_60 rfl ?_
          refine ev_iload 4 dX11_say_61 rfl ?_
          obtain ⟨v23, g24, e25, h⟩ := am_bd_elim h
          refine ev_callVi (v := v23) [.ref 2, .int a2, .int a3, .int a4] [] dX11_say_63 (tX11_isBarred e25) (by decide) mo_X11_isBarred kM_X11_280 ki_X11_isBarred kv_X11_isBarred (fun h9 => (h9.2.1 0 _ rfl).2) (by decide) rfl (Nat.le_of_ble_eq_true rfl) ?_
          refine ev_if_eq 76 dX11_say_66 (by decide) (fun c26 => ?_) (fun c26 => ?_)
          · replace h := am_ifp c26 h
            refine ev_aload_n 0 dX11_say_76 rfl ?_
            refine ev_gf (v := .ref 26) dX11_say_77 (fun h9 => (h9.2.1 0 _ rfl).2) 2 (by decide) (by decide) kF_X11_25 (fun h9 => congrArg va_rf (h9.2.2 0 2 26 rfl)) ?_
            refine ev_aload_n 0 dX11_say_80 rfl ?_
            refine ev_gf (v := .ref 1) dX11_say_81 (fun h9 => (h9.2.1 0 _ rfl).2) 0 (by decide) (by decide) kF_X11_14 (fun h9 => congrArg va_rf (h9.2.2 0 0 1 rfl)) ?_
            refine ev_gf (v := .ref 2) dX11_say_84 (fun h9 => (h9.2.1 1 _ rfl).2) 0 (by decide) (by decide) kF_X11_112 (fun h9 => congrArg va_rf (h9.2.2 1 0 2 rfl)) ?_
            refine ev_iconst dX11_say_87 rfl ?_
            obtain ⟨u27, g28, e29, h⟩ := am_bd_elim h
            refine ev_callVv [.ref 2, .int (0 : Int32)] [] dX11_say_88 (tX8_keep e29) (by decide) mo_X8_keep kM_X11_264 ki_X8_keep kv_X8_keep (fun h9 => (h9.2.1 26 _ rfl).2) (by decide) rfl (Nat.le_of_ble_eq_true rfl) ?_
            refine ev_aload_n 0 dX11_say_91 rfl ?_
            refine ev_aload_n 0 dX11_say_92 rfl ?_
            refine ev_aload_n 0 dX11_say_93 rfl ?_
            refine ev_gf (v := .ref 1) dX11_say_94 (fun h9 => (h9.2.1 0 _ rfl).2) 0 (by decide) (by decide) kF_X11_14 (fun h9 => congrArg va_rf (h9.2.2 0 0 1 rfl)) ?_
            refine ev_gf (v := .ref 2) dX11_say_97 (fun h9 => (h9.2.1 1 _ rfl).2) 0 (by decide) (by decide) kF_X11_112 (fun h9 => congrArg va_rf (h9.2.2 1 0 2 rfl)) ?_
            refine ev_iload_n 1 dX11_say_100 rfl ?_
            refine ev_iload_n 2 dX11_say_101 rfl ?_
            refine ev_iload_n 3 dX11_say_102 rfl ?_
            refine ev_iload 4 dX11_say_103 rfl ?_
            obtain ⟨v30, g31, e32, h⟩ := am_bd_elim h
            refine ev_callVi (v := v30) [.ref 2, .int a1, .int a2, .int a3, .int a4] [.ref 0] dX11_say_105 (tX11_utter e32) (by decide) mo_X11_utter kM_X11_284 ki_X11_utter kv_X11_utter (fun h9 => (h9.2.1 0 _ rfl).2) (by decide) rfl (Nat.le_of_ble_eq_true rfl) ?_
            obtain ⟨v33, g34, e35, h⟩ := am_bd_elim h
            refine ev_callVi (v := v33) [.int v30] [] dX11_say_108 (tX11_accepted e35) (by decide) mo_X11_accepted kM_X11_133 ki_X11_accepted kv_X11_accepted (fun h9 => (h9.2.1 0 _ rfl).2) (by decide) rfl (Nat.le_of_ble_eq_true rfl) ?_
            cases h
            exact ev_iret dX11_say_111 rfl
          · replace h := am_ifn c26 h
            refine ev_aload_n 0 dX11_say_69 rfl ?_
            refine ev_bipush dX11_say_70 rfl ?_
            obtain ⟨v36, g37, e38, h⟩ := am_bd_elim h
            refine ev_callVi (v := v36) [.int (-3 : Int32)] [] dX11_say_72 (tX11_refused e38) (by decide) mo_X11_refused kM_X11_104 ki_X11_refused kv_X11_refused (fun h9 => (h9.2.1 0 _ rfl).2) (by decide) rfl (Nat.le_of_ble_eq_true rfl) ?_
            cases h
            exact ev_iret dX11_say_75 rfl
        · replace h := am_ifp c22 h
          refine ev_aload_n 0 dX11_say_44 rfl ?_
          refine ev_bipush dX11_say_45 rfl ?_
          obtain ⟨v39, g40, e41, h⟩ := am_bd_elim h
          refine ev_callVi (v := v39) [.int (-2 : Int32)] [] dX11_say_47 (tX11_refused e41) (by decide) mo_X11_refused kM_X11_104 ki_X11_refused kv_X11_refused (fun h9 => (h9.2.1 0 _ rfl).2) (by decide) rfl (Nat.le_of_ble_eq_true rfl) ?_
          cases h
          exact ev_iret dX11_say_50 rfl
      · replace h := am_ifp c18 h
        refine ev_aload_n 0 dX11_say_24 rfl ?_
        refine ev_iconst dX11_say_25 rfl ?_
        obtain ⟨v42, g43, e44, h⟩ := am_bd_elim h
        refine ev_callVi (v := v42) [.int (-1 : Int32)] [] dX11_say_26 (tX11_refused e44) (by decide) mo_X11_refused kM_X11_104 ki_X11_refused kv_X11_refused (fun h9 => (h9.2.1 0 _ rfl).2) (by decide) rfl (Nat.le_of_ble_eq_true rfl) ?_
        cases h
        exact ev_iret dX11_say_29 rfl
theorem tX11_say {a1 : Int32} {a2 : Int32} {a3 : Int32} {a4 : Int32} {g : am_G} {r : Int32 × am_G} (h : fX11_say a1 a2 a3 a4 g = some r) : am_Mt zc MX11_say 5 [.ref 0, .int a1, .int a2, .int a3, .int a4] g (am_ri r) := am_Mt.of rfl (Nat.le_of_ble_eq_true rfl) (eX11_say _ _ _ _ _ _ h)
def fX11_dawn (g : am_G) : Option (Int32 × am_G) :=
  if (am_I g 2 5) < (999 : Int32) then (
    am_bd (fX8_keep 2 (1 : Int32) g) fun u2 g3 =>
    am_bd (fX11_passNight 2 g3) fun v5 g6 =>
    am_bd (fX11_accepted v5 g6) fun v8 g9 =>
    some (v8, g9))
  else (
    am_bd (fX11_refused (-3 : Int32) g) fun v11 g12 =>
    some (v11, g12))
set_option maxRecDepth 100000 in
set_option maxHeartbeats 4000000 in
theorem eX11_dawn (g : am_G) (r : Int32 × am_G) (h : fX11_dawn g = some r) : am_Ev zc MX11_dawn 5 0 [(0, .ref 0)] [] g (am_ri r) := by
  unfold fX11_dawn at h
  refine ev_aload_n 0 dX11_dawn_0 rfl ?_
  refine ev_gf (v := .ref 1) dX11_dawn_1 (fun h9 => (h9.2.1 0 _ rfl).2) 0 (by decide) (by decide) kF_X11_14 (fun h9 => congrArg va_rf (h9.2.2 0 0 1 rfl)) ?_
  refine ev_gf (v := .ref 2) dX11_dawn_4 (fun h9 => (h9.2.1 1 _ rfl).2) 0 (by decide) (by decide) kF_X11_112 (fun h9 => congrArg va_rf (h9.2.2 1 0 2 rfl)) ?_
  refine ev_gf (v := .int (am_I g 2 5)) dX11_dawn_7 (fun h9 => (h9.2.1 2 _ rfl).2) 5 (by decide) (by decide) kF_X11_177 (fun _ => rfl) ?_
  refine ev_sipush dX11_dawn_10 rfl ?_
  refine ev_icmp_lt 23 dX11_dawn_13 (by decide) (fun c1 => ?_) (fun c1 => ?_)
  · replace h := am_ifp c1 h
    refine ev_aload_n 0 dX11_dawn_23 rfl ?_
    refine ev_gf (v := .ref 26) dX11_dawn_24 (fun h9 => (h9.2.1 0 _ rfl).2) 2 (by decide) (by decide) kF_X11_25 (fun h9 => congrArg va_rf (h9.2.2 0 2 26 rfl)) ?_
    refine ev_aload_n 0 dX11_dawn_27 rfl ?_
    refine ev_gf (v := .ref 1) dX11_dawn_28 (fun h9 => (h9.2.1 0 _ rfl).2) 0 (by decide) (by decide) kF_X11_14 (fun h9 => congrArg va_rf (h9.2.2 0 0 1 rfl)) ?_
    refine ev_gf (v := .ref 2) dX11_dawn_31 (fun h9 => (h9.2.1 1 _ rfl).2) 0 (by decide) (by decide) kF_X11_112 (fun h9 => congrArg va_rf (h9.2.2 1 0 2 rfl)) ?_
    refine ev_iconst dX11_dawn_34 rfl ?_
    obtain ⟨u2, g3, e4, h⟩ := am_bd_elim h
    refine ev_callVv [.ref 2, .int (1 : Int32)] [] dX11_dawn_35 (tX8_keep e4) (by decide) mo_X8_keep kM_X11_264 ki_X8_keep kv_X8_keep (fun h9 => (h9.2.1 26 _ rfl).2) (by decide) rfl (Nat.le_of_ble_eq_true rfl) ?_
    refine ev_aload_n 0 dX11_dawn_38 rfl ?_
    refine ev_aload_n 0 dX11_dawn_39 rfl ?_
    refine ev_aload_n 0 dX11_dawn_40 rfl ?_
    refine ev_gf (v := .ref 1) dX11_dawn_41 (fun h9 => (h9.2.1 0 _ rfl).2) 0 (by decide) (by decide) kF_X11_14 (fun h9 => congrArg va_rf (h9.2.2 0 0 1 rfl)) ?_
    refine ev_gf (v := .ref 2) dX11_dawn_44 (fun h9 => (h9.2.1 1 _ rfl).2) 0 (by decide) (by decide) kF_X11_112 (fun h9 => congrArg va_rf (h9.2.2 1 0 2 rfl)) ?_
    obtain ⟨v5, g6, e7, h⟩ := am_bd_elim h
    refine ev_callVi (v := v5) [.ref 2] [.ref 0] dX11_dawn_47 (tX11_passNight e7) (by decide) mo_X11_passNight kM_X11_267 ki_X11_passNight kv_X11_passNight (fun h9 => (h9.2.1 0 _ rfl).2) (by decide) rfl (Nat.le_of_ble_eq_true rfl) ?_
    obtain ⟨v8, g9, e10, h⟩ := am_bd_elim h
    refine ev_callVi (v := v8) [.int v5] [] dX11_dawn_50 (tX11_accepted e10) (by decide) mo_X11_accepted kM_X11_133 ki_X11_accepted kv_X11_accepted (fun h9 => (h9.2.1 0 _ rfl).2) (by decide) rfl (Nat.le_of_ble_eq_true rfl) ?_
    cases h
    exact ev_iret dX11_dawn_53 rfl
  · replace h := am_ifn c1 h
    refine ev_aload_n 0 dX11_dawn_16 rfl ?_
    refine ev_bipush dX11_dawn_17 rfl ?_
    obtain ⟨v11, g12, e13, h⟩ := am_bd_elim h
    refine ev_callVi (v := v11) [.int (-3 : Int32)] [] dX11_dawn_19 (tX11_refused e13) (by decide) mo_X11_refused kM_X11_104 ki_X11_refused kv_X11_refused (fun h9 => (h9.2.1 0 _ rfl).2) (by decide) rfl (Nat.le_of_ble_eq_true rfl) ?_
    cases h
    exact ev_iret dX11_dawn_22 rfl
theorem tX11_dawn {g : am_G} {r : Int32 × am_G} (h : fX11_dawn g = some r) : am_Mt zc MX11_dawn 5 [.ref 0] g (am_ri r) := am_Mt.of rfl (Nat.le_of_ble_eq_true rfl) (eX11_dawn _ _ h)
def fX11_undo (g : am_G) : Option (Int32 × am_G) :=
  if (am_I g 26 3) = 0 then (
    am_bd (fX11_refused (-3 : Int32) g) fun v8 g9 =>
    some (v8, g9))
  else (
    am_bd (fX8_giveBack 2 g) fun v2 g3 =>
    am_bd (fX11_accepted v2 g3) fun v5 g6 =>
    some (v5, g6))
set_option maxRecDepth 100000 in
set_option maxHeartbeats 4000000 in
theorem eX11_undo (g : am_G) (r : Int32 × am_G) (h : fX11_undo g = some r) : am_Ev zc MX11_undo 2 0 [(0, .ref 0)] [] g (am_ri r) := by
  unfold fX11_undo at h
  refine ev_aload_n 0 dX11_undo_0 rfl ?_
  refine ev_gf (v := .ref 26) dX11_undo_1 (fun h9 => (h9.2.1 0 _ rfl).2) 2 (by decide) (by decide) kF_X11_25 (fun h9 => congrArg va_rf (h9.2.2 0 2 26 rfl)) ?_
  refine ev_gf (v := .int (am_I g 26 3)) dX11_undo_4 (fun h9 => (h9.2.1 26 _ rfl).2) 3 (by decide) (by decide) kF_X11_331 (fun _ => rfl) ?_
  refine ev_if_ne 17 dX11_undo_7 (by decide) (fun c1 => ?_) (fun c1 => ?_)
  · replace h := am_ifn c1 h
    refine ev_aload_n 0 dX11_undo_17 rfl ?_
    refine ev_aload_n 0 dX11_undo_18 rfl ?_
    refine ev_gf (v := .ref 26) dX11_undo_19 (fun h9 => (h9.2.1 0 _ rfl).2) 2 (by decide) (by decide) kF_X11_25 (fun h9 => congrArg va_rf (h9.2.2 0 2 26 rfl)) ?_
    refine ev_aload_n 0 dX11_undo_22 rfl ?_
    refine ev_gf (v := .ref 1) dX11_undo_23 (fun h9 => (h9.2.1 0 _ rfl).2) 0 (by decide) (by decide) kF_X11_14 (fun h9 => congrArg va_rf (h9.2.2 0 0 1 rfl)) ?_
    refine ev_gf (v := .ref 2) dX11_undo_26 (fun h9 => (h9.2.1 1 _ rfl).2) 0 (by decide) (by decide) kF_X11_112 (fun h9 => congrArg va_rf (h9.2.2 1 0 2 rfl)) ?_
    obtain ⟨v2, g3, e4, h⟩ := am_bd_elim h
    refine ev_callVi (v := v2) [.ref 2] [.ref 0] dX11_undo_29 (tX8_giveBack e4) (by decide) mo_X8_giveBack kM_X11_334 ki_X8_giveBack kv_X8_giveBack (fun h9 => (h9.2.1 26 _ rfl).2) (by decide) rfl (Nat.le_of_ble_eq_true rfl) ?_
    obtain ⟨v5, g6, e7, h⟩ := am_bd_elim h
    refine ev_callVi (v := v5) [.int v2] [] dX11_undo_32 (tX11_accepted e7) (by decide) mo_X11_accepted kM_X11_133 ki_X11_accepted kv_X11_accepted (fun h9 => (h9.2.1 0 _ rfl).2) (by decide) rfl (Nat.le_of_ble_eq_true rfl) ?_
    cases h
    exact ev_iret dX11_undo_35 rfl
  · replace h := am_ifp c1 h
    refine ev_aload_n 0 dX11_undo_10 rfl ?_
    refine ev_bipush dX11_undo_11 rfl ?_
    obtain ⟨v8, g9, e10, h⟩ := am_bd_elim h
    refine ev_callVi (v := v8) [.int (-3 : Int32)] [] dX11_undo_13 (tX11_refused e10) (by decide) mo_X11_refused kM_X11_104 ki_X11_refused kv_X11_refused (fun h9 => (h9.2.1 0 _ rfl).2) (by decide) rfl (Nat.le_of_ble_eq_true rfl) ?_
    cases h
    exact ev_iret dX11_undo_16 rfl
theorem tX11_undo {g : am_G} {r : Int32 × am_G} (h : fX11_undo g = some r) : am_Mt zc MX11_undo 2 [.ref 0] g (am_ri r) := am_Mt.of rfl (Nat.le_of_ble_eq_true rfl) (eX11_undo _ _ h)
def fX11_commonDivisor_L7 : Nat → Int32 → Int32 → Int32 → am_G → Option (Int32 × am_G)
  | 0, _, _, _, _ => none
  | n + 1, x1, x2, x3, g4 =>
    if (64 : Int32) ≤ x3 then (
      some (am_max (1 : Int32) x1, g4))
    else (
      if x2 = 0 then (
        some (am_max (1 : Int32) x1, g4))
      else (
        am_gd (!decide (x2 = 0)) <|
        am_let (x1 - x1 / x2 * x2) fun x8 =>
        am_let (x3 + (1 : Int32)) fun x9 =>
        fX11_commonDivisor_L7 n x2 x8 x9 g4))
def fX11_commonDivisor (a0 : Int32) (a1 : Int32) (g : am_G) : Option (Int32 × am_G) :=
  fX11_commonDivisor_L7 am_fu a0 a1 (0 : Int32) g
set_option maxRecDepth 100000 in
set_option maxHeartbeats 4000000 in
theorem tfX11_commonDivisor_L7  : ∀ (n : Nat) (x1 : Int32) (x2 : Int32) (x3 : Int32) (g4 : am_G) (r : Int32 × am_G), fX11_commonDivisor_L7 n x1 x2 x3 g4 = some r → am_Ev zc MX11_commonDivisor 0 7 [(2, .int x1), (3, .int x2), (4, .int x3)] [] g4 (am_ri r) := by
  intro n
  induction n with
  | zero => intro x1 x2 x3 g4 r h; exact nomatch (show (none : Option (Int32 × am_G)) = some r from h)
  | succ n ih =>
    intro x1 x2 x3 g4 r h
    rw [fX11_commonDivisor_L7] at h
    refine ev_iload 2 dX11_commonDivisor_7 rfl ?_
    refine ev_bipush dX11_commonDivisor_9 rfl ?_
    refine ev_icmp_ge 34 dX11_commonDivisor_11 (by decide) (fun c5 => ?_) (fun c5 => ?_)
    · replace h := am_ifp c5 h
      refine ev_iconst dX11_commonDivisor_34 rfl ?_
      refine ev_iload_n 0 dX11_commonDivisor_35 rfl ?_
      refine ev_max dX11_commonDivisor_36 kM_X11_343 k_maxS kS_Math k_maxC (Nat.le_of_ble_eq_true rfl) ?_
      cases h
      exact ev_iret dX11_commonDivisor_39 rfl
    · replace h := am_ifn c5 h
      refine ev_iload_n 1 dX11_commonDivisor_14 rfl ?_
      refine ev_if_eq 34 dX11_commonDivisor_15 (by decide) (fun c6 => ?_) (fun c6 => ?_)
      · replace h := am_ifp c6 h
        refine ev_iconst dX11_commonDivisor_34 rfl ?_
        refine ev_iload_n 0 dX11_commonDivisor_35 rfl ?_
        refine ev_max dX11_commonDivisor_36 kM_X11_343 k_maxS kS_Math k_maxC (Nat.le_of_ble_eq_true rfl) ?_
        cases h
        exact ev_iret dX11_commonDivisor_39 rfl
      · replace h := am_ifn c6 h
        refine ev_iload_n 0 dX11_commonDivisor_18 rfl ?_
        refine ev_iload_n 1 dX11_commonDivisor_19 rfl ?_
        obtain ⟨c7, h⟩ := am_gd_elim h
        refine ev_irem dX11_commonDivisor_20 (by simpa using c7) ?_
        refine am_let_elim (P := fun x8 => am_Ev zc MX11_commonDivisor 0 21 [(2, .int x1), (3, .int x2), (4, .int x3)] [.int x8] g4 (am_ri r)) h fun x8 h => ?_
        refine ev_istore (ls' := [(5, .int x8), (2, .int x1), (3, .int x2), (4, .int x3)]) dX11_commonDivisor_21 (by decide) rfl ?_
        refine ev_iload_n 2 dX11_commonDivisor_23 rfl ?_
        refine ev_istore_n (ls' := [(2, .int x2), (5, .int x8), (3, .int x2), (4, .int x3)]) dX11_commonDivisor_24 rfl (by decide) rfl ?_
        refine ev_iload 1 dX11_commonDivisor_25 rfl ?_
        refine ev_istore_n (ls' := [(3, .int x8), (2, .int x2), (5, .int x8), (4, .int x3)]) dX11_commonDivisor_27 rfl (by decide) rfl ?_
        obtain ⟨x9, ex9, h⟩ := am_let_ex h
        refine ev_iinc (ls' := [(4, .int x9), (3, .int x8), (2, .int x2), (5, .int x8)]) 3 dX11_commonDivisor_28 rfl ex9 (by decide) rfl ?_
        refine ev_goto 7 dX11_commonDivisor_31 (by decide) ?_
        refine ev_sub [2, 1, 0] rfl ?_
        exact ih _ _ _ _ _ h
set_option maxRecDepth 100000 in
set_option maxHeartbeats 4000000 in
theorem eX11_commonDivisor (a0 : Int32) (a1 : Int32) (g : am_G) (r : Int32 × am_G) (h : fX11_commonDivisor a0 a1 g = some r) : am_Ev zc MX11_commonDivisor 0 0 [(0, .int a0), (1, .int a1)] [] g (am_ri r) := by
  unfold fX11_commonDivisor at h
  refine ev_iload_n 0 dX11_commonDivisor_0 rfl ?_
  refine ev_istore_n (ls' := [(2, .int a0), (0, .int a0), (1, .int a1)]) dX11_commonDivisor_1 rfl (by decide) rfl ?_
  refine ev_iload_n 2 dX11_commonDivisor_2 rfl ?_
  refine ev_istore_n (ls' := [(3, .int a1), (2, .int a0), (0, .int a0), (1, .int a1)]) dX11_commonDivisor_3 rfl (by decide) rfl ?_
  refine ev_iconst dX11_commonDivisor_4 rfl ?_
  refine ev_istore (ls' := [(4, .int (0 : Int32)), (3, .int a1), (2, .int a0), (0, .int a0), (1, .int a1)]) dX11_commonDivisor_5 (by decide) rfl ?_
  refine ev_sub [2, 1, 0] rfl ?_
  exact tfX11_commonDivisor_L7 _ _ _ _ _ _ h
theorem tX11_commonDivisor {a0 : Int32} {a1 : Int32} {g : am_G} {r : Int32 × am_G} (h : fX11_commonDivisor a0 a1 g = some r) : am_Mt zc MX11_commonDivisor 0 [.int a0, .int a1] g (am_ri r) := am_Mt.of rfl (Nat.le_of_ble_eq_true rfl) (eX11_commonDivisor _ _ _ _ h)
def fX11_share_L33 (k : Int32 → am_G → Option (Int32 × am_G)) (a1 : Int32) (a2 : Int32) (a3 : Int32) : Nat → Int32 → Int32 → am_G → Option (Int32 × am_G)
  | 0, _, _, _ => none
  | n + 1, x13, x14, g15 =>
    if (6 : Int32) ≤ x14 then (
      k x13 g15)
    else (
      am_gd (am_in ((a1 * (6 : Int32)) + x14) 36) <|
      am_let (x13 + (am_I g15 6 ((a1 * (6 : Int32)) + x14).toNatClampNeg)) fun x20 =>
      am_let (x14 + (1 : Int32)) fun x21 =>
      fX11_share_L33 k a1 a2 a3 n x20 x21 g15)
def fX11_share (a1 : Int32) (a2 : Int32) (a3 : Int32) (g : am_G) : Option (Int32 × am_G) :=
  am_bd (fX11_isSlope a1 g) fun v1 g2 =>
  if v1 = 0 then (
    some ((-1 : Int32), g2))
  else (
    am_bd (fX11_within a2 (0 : Int32) (5 : Int32) g2) fun v5 g6 =>
    if v5 = 0 then (
      some ((-1 : Int32), g6))
    else (
      am_bd (fX11_within a3 (0 : Int32) (1 : Int32) g6) fun v9 g10 =>
      if v9 = 0 then (
        some ((-1 : Int32), g10))
      else (
        fX11_share_L33 (fun (x22 : Int32) (g23 : am_G) =>
          if 0 < x22 then (
            am_gd (am_in ((a1 * (6 : Int32)) + a2) 36) <|
            am_let (am_I g23 6 ((a1 * (6 : Int32)) + a2).toNatClampNeg) fun x26 =>
            am_bd (fX11_commonDivisor x22 x26 g23) fun v27 g28 =>
            if a3 = 0 then (
              am_gd (!decide (v27 = 0)) <|
              some (x26 / v27, g28))
            else (
              am_gd (!decide (v27 = 0)) <|
              some (x22 / v27, g28)))
          else (
            some ((-1 : Int32), g23))) a1 a2 a3 am_fu (0 : Int32) (0 : Int32) g10)))
set_option maxRecDepth 100000 in
set_option maxHeartbeats 4000000 in
theorem tfX11_share_L33  {k : Int32 → am_G → Option (Int32 × am_G)} (a1 : Int32) (a2 : Int32) (a3 : Int32) (hk : ∀ (x16 : Int32) (g17 : am_G) (r : Int32 × am_G), k x16 g17 = some r → am_Ev zc MX11_share 2 69 [(0, .ref 0), (1, .int a1), (2, .int a2), (3, .int a3), (4, .int x16)] [] g17 (am_ri r)) : ∀ (n : Nat) (x13 : Int32) (x14 : Int32) (g15 : am_G) (r : Int32 × am_G), fX11_share_L33 k a1 a2 a3 n x13 x14 g15 = some r → am_Ev zc MX11_share 2 33 [(0, .ref 0), (1, .int a1), (2, .int a2), (3, .int a3), (4, .int x13), (5, .int x14)] [] g15 (am_ri r) := by
  intro n
  induction n with
  | zero => intro x13 x14 g15 r h; exact nomatch (show (none : Option (Int32 × am_G)) = some r from h)
  | succ n ih =>
    intro x13 x14 g15 r h
    rw [fX11_share_L33] at h
    refine ev_iload 5 dX11_share_33 rfl ?_
    refine ev_bipush dX11_share_35 rfl ?_
    refine ev_icmp_ge 69 dX11_share_37 (by decide) (fun c18 => ?_) (fun c18 => ?_)
    · replace h := am_ifp c18 h
      refine ev_sub [0, 1, 2, 3, 4] rfl ?_
      exact hk _ _ _ h
    · replace h := am_ifn c18 h
      refine ev_iload 4 dX11_share_40 rfl ?_
      refine ev_aload_n 0 dX11_share_42 rfl ?_
      refine ev_gf (v := .ref 1) dX11_share_43 (fun h9 => (h9.2.1 0 _ rfl).2) 0 (by decide) (by decide) kF_X11_14 (fun h9 => congrArg va_rf (h9.2.2 0 0 1 rfl)) ?_
      refine ev_gf (v := .ref 2) dX11_share_46 (fun h9 => (h9.2.1 1 _ rfl).2) 0 (by decide) (by decide) kF_X11_112 (fun h9 => congrArg va_rf (h9.2.2 1 0 2 rfl)) ?_
      refine ev_gf (v := .ref 6) dX11_share_49 (fun h9 => (h9.2.1 2 _ rfl).2) 3 (by decide) (by decide) kF_X11_337 (fun h9 => congrArg va_rf (h9.2.2 2 3 6 rfl)) ?_
      refine ev_iload_n 1 dX11_share_52 rfl ?_
      refine ev_bipush dX11_share_53 rfl ?_
      refine ev_imul dX11_share_55 ?_
      refine ev_iload 5 dX11_share_56 rfl ?_
      refine ev_iadd dX11_share_58 ?_
      obtain ⟨c19, h⟩ := am_gd_elim h
      refine ev_iald dX11_share_59 (fun h9 => (h9.2.1 6 _ rfl).2) (am_in_vp c19) ?_
      refine ev_iadd dX11_share_60 ?_
      refine am_let_elim (P := fun x20 => am_Ev zc MX11_share 2 61 [(0, .ref 0), (1, .int a1), (2, .int a2), (3, .int a3), (4, .int x13), (5, .int x14)] [.int x20] g15 (am_ri r)) h fun x20 h => ?_
      refine ev_istore (ls' := [(4, .int x20), (0, .ref 0), (1, .int a1), (2, .int a2), (3, .int a3), (5, .int x14)]) dX11_share_61 (by decide) rfl ?_
      obtain ⟨x21, ex21, h⟩ := am_let_ex h
      refine ev_iinc (ls' := [(5, .int x21), (4, .int x20), (0, .ref 0), (1, .int a1), (2, .int a2), (3, .int a3)]) 5 dX11_share_63 rfl ex21 (by decide) rfl ?_
      refine ev_goto 33 dX11_share_66 (by decide) ?_
      refine ev_sub [2, 3, 4, 5, 1, 0] rfl ?_
      exact ih _ _ _ _ h
set_option maxRecDepth 100000 in
set_option maxHeartbeats 4000000 in
theorem eX11_share (a1 : Int32) (a2 : Int32) (a3 : Int32) (g : am_G) (r : Int32 × am_G) (h : fX11_share a1 a2 a3 g = some r) : am_Ev zc MX11_share 2 0 [(0, .ref 0), (1, .int a1), (2, .int a2), (3, .int a3)] [] g (am_ri r) := by
  unfold fX11_share at h
  refine ev_iload_n 1 dX11_share_0 rfl ?_
  obtain ⟨v1, g2, e3, h⟩ := am_bd_elim h
  refine ev_callSi (v := v1) [.int a1] [] dX11_share_1 (tX11_isSlope e3) (by decide) mo_X11_isSlope kM_X11_96 ks_X11_isSlope (Nat.le_of_ble_eq_true rfl) ?_
  refine ev_if_eq 25 dX11_share_4 (by decide) (fun c4 => ?_) (fun c4 => ?_)
  · replace h := am_ifp c4 h
    refine ev_iconst dX11_share_25 rfl ?_
    cases h
    exact ev_iret dX11_share_26 rfl
  · replace h := am_ifn c4 h
    refine ev_iload_n 2 dX11_share_7 rfl ?_
    refine ev_iconst dX11_share_8 rfl ?_
    refine ev_iconst dX11_share_9 rfl ?_
    obtain ⟨v5, g6, e7, h⟩ := am_bd_elim h
    refine ev_callSi (v := v5) [.int a2, .int (0 : Int32), .int (5 : Int32)] [] dX11_share_10 (tX11_within e7) (by decide) mo_X11_within kM_X11_136 ks_X11_within (Nat.le_of_ble_eq_true rfl) ?_
    refine ev_if_eq 25 dX11_share_13 (by decide) (fun c8 => ?_) (fun c8 => ?_)
    · replace h := am_ifp c8 h
      refine ev_iconst dX11_share_25 rfl ?_
      cases h
      exact ev_iret dX11_share_26 rfl
    · replace h := am_ifn c8 h
      refine ev_iload_n 3 dX11_share_16 rfl ?_
      refine ev_iconst dX11_share_17 rfl ?_
      refine ev_iconst dX11_share_18 rfl ?_
      obtain ⟨v9, g10, e11, h⟩ := am_bd_elim h
      refine ev_callSi (v := v9) [.int a3, .int (0 : Int32), .int (1 : Int32)] [] dX11_share_19 (tX11_within e11) (by decide) mo_X11_within kM_X11_136 ks_X11_within (Nat.le_of_ble_eq_true rfl) ?_
      refine ev_if_ne 27 dX11_share_22 (by decide) (fun c12 => ?_) (fun c12 => ?_)
      · replace h := am_ifn c12 h
        refine ev_iconst dX11_share_27 rfl ?_
        refine ev_istore (ls' := [(4, .int (0 : Int32)), (0, .ref 0), (1, .int a1), (2, .int a2), (3, .int a3)]) dX11_share_28 (by decide) rfl ?_
        refine ev_iconst dX11_share_30 rfl ?_
        refine ev_istore (ls' := [(5, .int (0 : Int32)), (4, .int (0 : Int32)), (0, .ref 0), (1, .int a1), (2, .int a2), (3, .int a3)]) dX11_share_31 (by decide) rfl ?_
        refine ev_sub [2, 3, 4, 5, 1, 0] rfl ?_
        refine tfX11_share_L33 a1 a2 a3 ?_ _ _ _ _ _ h
        intro x22 g23 r h
        try dsimp only at h
        refine ev_iload 4 dX11_share_69 rfl ?_
        refine ev_if_gt 76 dX11_share_71 (by decide) (fun c24 => ?_) (fun c24 => ?_)
        · replace h := am_ifp c24 h
          refine ev_aload_n 0 dX11_share_76 rfl ?_
          refine ev_gf (v := .ref 1) dX11_share_77 (fun h9 => (h9.2.1 0 _ rfl).2) 0 (by decide) (by decide) kF_X11_14 (fun h9 => congrArg va_rf (h9.2.2 0 0 1 rfl)) ?_
          refine ev_gf (v := .ref 2) dX11_share_80 (fun h9 => (h9.2.1 1 _ rfl).2) 0 (by decide) (by decide) kF_X11_112 (fun h9 => congrArg va_rf (h9.2.2 1 0 2 rfl)) ?_
          refine ev_gf (v := .ref 6) dX11_share_83 (fun h9 => (h9.2.1 2 _ rfl).2) 3 (by decide) (by decide) kF_X11_337 (fun h9 => congrArg va_rf (h9.2.2 2 3 6 rfl)) ?_
          refine ev_iload_n 1 dX11_share_86 rfl ?_
          refine ev_bipush dX11_share_87 rfl ?_
          refine ev_imul dX11_share_89 ?_
          refine ev_iload_n 2 dX11_share_90 rfl ?_
          refine ev_iadd dX11_share_91 ?_
          obtain ⟨c25, h⟩ := am_gd_elim h
          refine ev_iald dX11_share_92 (fun h9 => (h9.2.1 6 _ rfl).2) (am_in_vp c25) ?_
          refine am_let_elim (P := fun x26 => am_Ev zc MX11_share 2 93 [(0, .ref 0), (1, .int a1), (2, .int a2), (3, .int a3), (4, .int x22)] [.int x26] g23 (am_ri r)) h fun x26 h => ?_
          refine ev_istore (ls' := [(5, .int x26), (0, .ref 0), (1, .int a1), (2, .int a2), (3, .int a3), (4, .int x22)]) dX11_share_93 (by decide) rfl ?_
          refine ev_iload 5 dX11_share_95 rfl ?_
          refine ev_iload 0 dX11_share_97 rfl ?_
          obtain ⟨v27, g28, e29, h⟩ := am_bd_elim h
          refine ev_callSi (v := v27) [.int x22, .int x26] [] dX11_share_99 (tX11_commonDivisor e29) (by decide) mo_X11_commonDivisor kM_X11_340 ks_X11_commonDivisor (Nat.le_of_ble_eq_true rfl) ?_
          refine ev_istore (ls' := [(6, .int v27), (5, .int x26), (0, .ref 0), (1, .int a1), (2, .int a2), (3, .int a3), (4, .int x22)]) dX11_share_102 (by decide) rfl ?_
          refine ev_iload_n 5 dX11_share_104 rfl ?_
          refine ev_if_ne 113 dX11_share_105 (by decide) (fun c30 => ?_) (fun c30 => ?_)
          · replace h := am_ifn c30 h
            refine ev_iload 6 dX11_share_113 rfl ?_
            refine ev_iload 0 dX11_share_115 rfl ?_
            obtain ⟨c31, h⟩ := am_gd_elim h
            refine ev_idiv dX11_share_117 (by simpa using c31) ?_
            cases h
            exact ev_iret dX11_share_118 rfl
          · replace h := am_ifp c30 h
            refine ev_iload 1 dX11_share_108 rfl ?_
            refine ev_goto 115 dX11_share_110 (by decide) ?_
            refine ev_iload 0 dX11_share_115 rfl ?_
            obtain ⟨c32, h⟩ := am_gd_elim h
            refine ev_idiv dX11_share_117 (by simpa using c32) ?_
            cases h
            exact ev_iret dX11_share_118 rfl
        · replace h := am_ifn c24 h
          refine ev_iconst dX11_share_74 rfl ?_
          cases h
          exact ev_iret dX11_share_75 rfl
      · replace h := am_ifp c12 h
        refine ev_iconst dX11_share_25 rfl ?_
        cases h
        exact ev_iret dX11_share_26 rfl
theorem tX11_share {a1 : Int32} {a2 : Int32} {a3 : Int32} {g : am_G} {r : Int32 × am_G} (h : fX11_share a1 a2 a3 g = some r) : am_Mt zc MX11_share 2 [.ref 0, .int a1, .int a2, .int a3] g (am_ri r) := am_Mt.of rfl (Nat.le_of_ble_eq_true rfl) (eX11_share _ _ _ _ _ h)
def fX11_mean (a1 : Int32) (g : am_G) : Option (Int32 × am_G) :=
  am_bd (fX11_within a1 (0 : Int32) (7 : Int32) g) fun v1 g2 =>
  if v1 = 0 then (
    am_bd (fX11_refused (-1 : Int32) g2) fun v15 g16 =>
    some (v15, g16))
  else (
    if (am_I g2 1 14) < (5 : Int32) then (
      am_gd (am_in (am_I g2 1 14) 5) <|
      am_let (am_si g2 17 (am_I g2 1 14).toNatClampNeg a1) fun g7 =>
      am_let (am_si g7 1 14 ((am_I g7 1 14) + (1 : Int32))) fun g8 =>
      am_bd (fX11_accepted (am_I g8 1 14) g8) fun v9 g10 =>
      some (v9, g10))
    else (
      am_bd (fX11_refused (-5 : Int32) g2) fun v12 g13 =>
      some (v12, g13)))
set_option maxRecDepth 100000 in
set_option maxHeartbeats 4000000 in
theorem eX11_mean (a1 : Int32) (g : am_G) (r : Int32 × am_G) (h : fX11_mean a1 g = some r) : am_Ev zc MX11_mean 1 0 [(0, .ref 0), (1, .int a1)] [] g (am_ri r) := by
  unfold fX11_mean at h
  refine ev_iload_n 1 dX11_mean_0 rfl ?_
  refine ev_iconst dX11_mean_1 rfl ?_
  refine ev_bipush dX11_mean_2 rfl ?_
  obtain ⟨v1, g2, e3, h⟩ := am_bd_elim h
  refine ev_callSi (v := v1) [.int a1, .int (0 : Int32), .int (7 : Int32)] [] dX11_mean_4 (tX11_within e3) (by decide) mo_X11_within kM_X11_136 ks_X11_within (Nat.le_of_ble_eq_true rfl) ?_
  refine ev_if_ne 16 dX11_mean_7 (by decide) (fun c4 => ?_) (fun c4 => ?_)
  · replace h := am_ifn c4 h
    refine ev_aload_n 0 dX11_mean_16 rfl ?_
    refine ev_gf (v := .ref 1) dX11_mean_17 (fun h9 => (h9.2.1 0 _ rfl).2) 0 (by decide) (by decide) kF_X11_14 (fun h9 => congrArg va_rf (h9.2.2 0 0 1 rfl)) ?_
    refine ev_gf (v := .int (am_I g2 1 14)) dX11_mean_20 (fun h9 => (h9.2.1 1 _ rfl).2) 14 (by decide) (by decide) kF_X11_348 (fun _ => rfl) ?_
    refine ev_iconst dX11_mean_23 rfl ?_
    refine ev_icmp_lt 34 dX11_mean_24 (by decide) (fun c5 => ?_) (fun c5 => ?_)
    · replace h := am_ifp c5 h
      refine ev_aload_n 0 dX11_mean_34 rfl ?_
      refine ev_gf (v := .ref 1) dX11_mean_35 (fun h9 => (h9.2.1 0 _ rfl).2) 0 (by decide) (by decide) kF_X11_14 (fun h9 => congrArg va_rf (h9.2.2 0 0 1 rfl)) ?_
      refine ev_gf (v := .ref 17) dX11_mean_38 (fun h9 => (h9.2.1 1 _ rfl).2) 6 (by decide) (by decide) kF_X11_351 (fun h9 => congrArg va_rf (h9.2.2 1 6 17 rfl)) ?_
      refine ev_aload_n 0 dX11_mean_41 rfl ?_
      refine ev_gf (v := .ref 1) dX11_mean_42 (fun h9 => (h9.2.1 0 _ rfl).2) 0 (by decide) (by decide) kF_X11_14 (fun h9 => congrArg va_rf (h9.2.2 0 0 1 rfl)) ?_
      refine ev_gf (v := .int (am_I g2 1 14)) dX11_mean_45 (fun h9 => (h9.2.1 1 _ rfl).2) 14 (by decide) (by decide) kF_X11_348 (fun _ => rfl) ?_
      refine ev_iload_n 1 dX11_mean_48 rfl ?_
      obtain ⟨c6, h⟩ := am_gd_elim h
      refine ev_iast dX11_mean_49 (fun h9 => (h9.2.1 17 _ rfl).2) (am_in_vp c6) ?_
      refine am_let_elim (P := fun g7 => am_Ev zc MX11_mean 1 50 [(0, .ref 0), (1, .int a1)] [] g7 (am_ri r)) h fun g7 h => ?_
      refine ev_aload_n 0 dX11_mean_50 rfl ?_
      refine ev_gf (v := .ref 1) dX11_mean_51 (fun h9 => (h9.2.1 0 _ rfl).2) 0 (by decide) (by decide) kF_X11_14 (fun h9 => congrArg va_rf (h9.2.2 0 0 1 rfl)) ?_
      refine ev_dup dX11_mean_54 rfl ?_
      refine ev_gf (v := .int (am_I g7 1 14)) dX11_mean_55 (fun h9 => (h9.2.1 1 _ rfl).2) 14 (by decide) (by decide) kF_X11_348 (fun _ => rfl) ?_
      refine ev_iconst dX11_mean_58 rfl ?_
      refine ev_iadd dX11_mean_59 ?_
      refine ev_pfi dX11_mean_60 (fun h9 => (h9.2.1 1 _ rfl).2) 14 (by decide) (by decide) kF_X11_348 rfl rfl rfl (fun _ => rfl) ?_
      refine am_let_elim (P := fun g8 => am_Ev zc MX11_mean 1 63 [(0, .ref 0), (1, .int a1)] [] g8 (am_ri r)) h fun g8 h => ?_
      refine ev_aload_n 0 dX11_mean_63 rfl ?_
      refine ev_aload_n 0 dX11_mean_64 rfl ?_
      refine ev_gf (v := .ref 1) dX11_mean_65 (fun h9 => (h9.2.1 0 _ rfl).2) 0 (by decide) (by decide) kF_X11_14 (fun h9 => congrArg va_rf (h9.2.2 0 0 1 rfl)) ?_
      refine ev_gf (v := .int (am_I g8 1 14)) dX11_mean_68 (fun h9 => (h9.2.1 1 _ rfl).2) 14 (by decide) (by decide) kF_X11_348 (fun _ => rfl) ?_
      obtain ⟨v9, g10, e11, h⟩ := am_bd_elim h
      refine ev_callVi (v := v9) [.int (am_I g8 1 14)] [] dX11_mean_71 (tX11_accepted e11) (by decide) mo_X11_accepted kM_X11_133 ki_X11_accepted kv_X11_accepted (fun h9 => (h9.2.1 0 _ rfl).2) (by decide) rfl (Nat.le_of_ble_eq_true rfl) ?_
      cases h
      exact ev_iret dX11_mean_74 rfl
    · replace h := am_ifn c5 h
      refine ev_aload_n 0 dX11_mean_27 rfl ?_
      refine ev_bipush dX11_mean_28 rfl ?_
      obtain ⟨v12, g13, e14, h⟩ := am_bd_elim h
      refine ev_callVi (v := v12) [.int (-5 : Int32)] [] dX11_mean_30 (tX11_refused e14) (by decide) mo_X11_refused kM_X11_104 ki_X11_refused kv_X11_refused (fun h9 => (h9.2.1 0 _ rfl).2) (by decide) rfl (Nat.le_of_ble_eq_true rfl) ?_
      cases h
      exact ev_iret dX11_mean_33 rfl
  · replace h := am_ifp c4 h
    refine ev_aload_n 0 dX11_mean_10 rfl ?_
    refine ev_iconst dX11_mean_11 rfl ?_
    obtain ⟨v15, g16, e17, h⟩ := am_bd_elim h
    refine ev_callVi (v := v15) [.int (-1 : Int32)] [] dX11_mean_12 (tX11_refused e17) (by decide) mo_X11_refused kM_X11_104 ki_X11_refused kv_X11_refused (fun h9 => (h9.2.1 0 _ rfl).2) (by decide) rfl (Nat.le_of_ble_eq_true rfl) ?_
    cases h
    exact ev_iret dX11_mean_15 rfl
theorem tX11_mean {a1 : Int32} {g : am_G} {r : Int32 × am_G} (h : fX11_mean a1 g = some r) : am_Mt zc MX11_mean 1 [.ref 0, .int a1] g (am_ri r) := am_Mt.of rfl (Nat.le_of_ble_eq_true rfl) (eX11_mean _ _ _ h)
def fX11_hush (g : am_G) : Option (Int32 × am_G) :=
  am_let (am_I g 1 14) fun x1 =>
  am_let (am_si g 1 14 (0 : Int32)) fun g2 =>
  some (x1, g2)
set_option maxRecDepth 100000 in
set_option maxHeartbeats 4000000 in
theorem eX11_hush (g : am_G) (r : Int32 × am_G) (h : fX11_hush g = some r) : am_Ev zc MX11_hush 0 0 [(0, .ref 0)] [] g (am_ri r) := by
  unfold fX11_hush at h
  refine ev_aload_n 0 dX11_hush_0 rfl ?_
  refine ev_gf (v := .ref 1) dX11_hush_1 (fun h9 => (h9.2.1 0 _ rfl).2) 0 (by decide) (by decide) kF_X11_14 (fun h9 => congrArg va_rf (h9.2.2 0 0 1 rfl)) ?_
  refine ev_gf (v := .int (am_I g 1 14)) dX11_hush_4 (fun h9 => (h9.2.1 1 _ rfl).2) 14 (by decide) (by decide) kF_X11_348 (fun _ => rfl) ?_
  refine am_let_elim (P := fun x1 => am_Ev zc MX11_hush 0 7 [(0, .ref 0)] [.int x1] g (am_ri r)) h fun x1 h => ?_
  refine ev_istore_n (ls' := [(1, .int x1), (0, .ref 0)]) dX11_hush_7 rfl (by decide) rfl ?_
  refine ev_aload_n 1 dX11_hush_8 rfl ?_
  refine ev_gf (v := .ref 1) dX11_hush_9 (fun h9 => (h9.2.1 0 _ rfl).2) 0 (by decide) (by decide) kF_X11_14 (fun h9 => congrArg va_rf (h9.2.2 0 0 1 rfl)) ?_
  refine ev_iconst dX11_hush_12 rfl ?_
  refine ev_pfi dX11_hush_13 (fun h9 => (h9.2.1 1 _ rfl).2) 14 (by decide) (by decide) kF_X11_348 rfl rfl rfl (fun _ => rfl) ?_
  refine am_let_elim (P := fun g2 => am_Ev zc MX11_hush 0 16 [(1, .int x1), (0, .ref 0)] [] g2 (am_ri r)) h fun g2 h => ?_
  refine ev_iload_n 0 dX11_hush_16 rfl ?_
  cases h
  exact ev_iret dX11_hush_17 rfl
theorem tX11_hush {g : am_G} {r : Int32 × am_G} (h : fX11_hush g = some r) : am_Mt zc MX11_hush 0 [.ref 0] g (am_ri r) := am_Mt.of rfl (Nat.le_of_ble_eq_true rfl) (eX11_hush _ _ h)
def fX11_saying (a1 : Int32) (a2 : Int32) (a3 : Int32) (g : am_G) : Option (Int32 × am_G) :=
  am_bd (fX11_isPlace a1 g) fun v1 g2 =>
  if v1 = 0 then (
    some ((-1 : Int32), g2))
  else (
    am_bd (fX11_isLoud a2 g2) fun v5 g6 =>
    if v5 = 0 then (
      some ((-1 : Int32), g6))
    else (
      am_bd (fX11_within a3 (0 : Int32) ((am_I g6 1 14) + (1 : Int32)) g6) fun v9 g10 =>
      if v9 = 0 then (
        some ((-1 : Int32), g10))
      else (
        am_bd (fX3_prepare a1 a2 g10) fun u13 g14 =>
        am_bd (fX3_search 64 (0 : Int32) (0 : Int32) (1 : Int32) g14) fun u16 g17 =>
        if a3 = (1 : Int32) then (
          some (am_I g17 39 8, g17))
        else (
          if (am_I g17 39 8) = 0 then (
            some ((-1 : Int32), g17))
          else (
            if a3 = 0 then (
              some (am_I g17 39 7, g17))
            else (
              am_gd (am_in (a3 - (2 : Int32)) 5) <|
              some (am_I g17 44 (a3 - (2 : Int32)).toNatClampNeg, g17)))))))
set_option maxRecDepth 100000 in
set_option maxHeartbeats 4000000 in
theorem eX11_saying (a1 : Int32) (a2 : Int32) (a3 : Int32) (g : am_G) (r : Int32 × am_G) (h : fX11_saying a1 a2 a3 g = some r) : am_Ev zc MX11_saying 65 0 [(0, .ref 0), (1, .int a1), (2, .int a2), (3, .int a3)] [] g (am_ri r) := by
  unfold fX11_saying at h
  refine ev_iload_n 1 dX11_saying_0 rfl ?_
  obtain ⟨v1, g2, e3, h⟩ := am_bd_elim h
  refine ev_callSi (v := v1) [.int a1] [] dX11_saying_1 (tX11_isPlace e3) (by decide) mo_X11_isPlace kM_X11_274 ks_X11_isPlace (Nat.le_of_ble_eq_true rfl) ?_
  refine ev_if_eq 31 dX11_saying_4 (by decide) (fun c4 => ?_) (fun c4 => ?_)
  · replace h := am_ifp c4 h
    refine ev_iconst dX11_saying_31 rfl ?_
    cases h
    exact ev_iret dX11_saying_32 rfl
  · replace h := am_ifn c4 h
    refine ev_iload_n 2 dX11_saying_7 rfl ?_
    obtain ⟨v5, g6, e7, h⟩ := am_bd_elim h
    refine ev_callSi (v := v5) [.int a2] [] dX11_saying_8 (tX11_isLoud e7) (by decide) mo_X11_isLoud kM_X11_277 ks_X11_isLoud (Nat.le_of_ble_eq_true rfl) ?_
    refine ev_if_eq 31 dX11_saying_11 (by decide) (fun c8 => ?_) (fun c8 => ?_)
    · replace h := am_ifp c8 h
      refine ev_iconst dX11_saying_31 rfl ?_
      cases h
      exact ev_iret dX11_saying_32 rfl
    · replace h := am_ifn c8 h
      refine ev_iload_n 3 dX11_saying_14 rfl ?_
      refine ev_iconst dX11_saying_15 rfl ?_
      refine ev_aload_n 0 dX11_saying_16 rfl ?_
      refine ev_gf (v := .ref 1) dX11_saying_17 (fun h9 => (h9.2.1 0 _ rfl).2) 0 (by decide) (by decide) kF_X11_14 (fun h9 => congrArg va_rf (h9.2.2 0 0 1 rfl)) ?_
      refine ev_gf (v := .int (am_I g6 1 14)) dX11_saying_20 (fun h9 => (h9.2.1 1 _ rfl).2) 14 (by decide) (by decide) kF_X11_348 (fun _ => rfl) ?_
      refine ev_iconst dX11_saying_23 rfl ?_
      refine ev_iadd dX11_saying_24 ?_
      obtain ⟨v9, g10, e11, h⟩ := am_bd_elim h
      refine ev_callSi (v := v9) [.int a3, .int (0 : Int32), .int ((am_I g6 1 14) + (1 : Int32))] [] dX11_saying_25 (tX11_within e11) (by decide) mo_X11_within kM_X11_136 ks_X11_within (Nat.le_of_ble_eq_true rfl) ?_
      refine ev_if_ne 33 dX11_saying_28 (by decide) (fun c12 => ?_) (fun c12 => ?_)
      · replace h := am_ifn c12 h
        refine ev_aload_n 0 dX11_saying_33 rfl ?_
        refine ev_gf (v := .ref 39) dX11_saying_34 (fun h9 => (h9.2.1 0 _ rfl).2) 5 (by decide) (by decide) kF_X11_50 (fun h9 => congrArg va_rf (h9.2.2 0 5 39 rfl)) ?_
        refine ev_iload_n 1 dX11_saying_37 rfl ?_
        refine ev_iload_n 2 dX11_saying_38 rfl ?_
        obtain ⟨u13, g14, e15, h⟩ := am_bd_elim h
        refine ev_callVv [.int a1, .int a2] [] dX11_saying_39 (tX3_prepare e15) (by decide) mo_X3_prepare kM_X11_354 ki_X3_prepare kv_X3_prepare (fun h9 => (h9.2.1 39 _ rfl).2) (by decide) rfl (Nat.le_of_ble_eq_true rfl) ?_
        refine ev_aload_n 0 dX11_saying_42 rfl ?_
        refine ev_gf (v := .ref 39) dX11_saying_43 (fun h9 => (h9.2.1 0 _ rfl).2) 5 (by decide) (by decide) kF_X11_50 (fun h9 => congrArg va_rf (h9.2.2 0 5 39 rfl)) ?_
        refine ev_iconst dX11_saying_46 rfl ?_
        refine ev_iconst dX11_saying_47 rfl ?_
        refine ev_iconst dX11_saying_48 rfl ?_
        obtain ⟨u16, g17, e18, h⟩ := am_bd_elim h
        refine ev_callVNv [.int (0 : Int32), .int (0 : Int32), .int (1 : Int32)] [] dX11_saying_49 (tX3_search_f e18) (by decide) mo_X3_search kN_X11_357 ki_X3_search kv_X3_search (fun h9 => (h9.2.1 39 _ rfl).2) (by decide) rfl (Nat.le_of_ble_eq_true rfl) ?_
        refine ev_iload_n 3 dX11_saying_52 rfl ?_
        refine ev_iconst dX11_saying_53 rfl ?_
        refine ev_icmp_ne 65 dX11_saying_54 (by decide) (fun c19 => ?_) (fun c19 => ?_)
        · replace h := am_ifn c19 h
          refine ev_aload_n 0 dX11_saying_65 rfl ?_
          refine ev_gf (v := .ref 39) dX11_saying_66 (fun h9 => (h9.2.1 0 _ rfl).2) 5 (by decide) (by decide) kF_X11_50 (fun h9 => congrArg va_rf (h9.2.2 0 5 39 rfl)) ?_
          refine ev_gf (v := .int (am_I g17 39 8)) dX11_saying_69 (fun h9 => (h9.2.1 39 _ rfl).2) 8 (by decide) (by decide) kF_X11_360 (fun _ => rfl) ?_
          refine ev_if_ne 77 dX11_saying_72 (by decide) (fun c20 => ?_) (fun c20 => ?_)
          · replace h := am_ifn c20 h
            refine ev_iload_n 3 dX11_saying_77 rfl ?_
            refine ev_if_ne 91 dX11_saying_78 (by decide) (fun c21 => ?_) (fun c21 => ?_)
            · replace h := am_ifn c21 h
              refine ev_aload_n 0 dX11_saying_91 rfl ?_
              refine ev_gf (v := .ref 39) dX11_saying_92 (fun h9 => (h9.2.1 0 _ rfl).2) 5 (by decide) (by decide) kF_X11_50 (fun h9 => congrArg va_rf (h9.2.2 0 5 39 rfl)) ?_
              refine ev_gf (v := .ref 44) dX11_saying_95 (fun h9 => (h9.2.1 39 _ rfl).2) 6 (by decide) (by decide) kF_X11_366 (fun h9 => congrArg va_rf (h9.2.2 39 6 44 rfl)) ?_
              refine ev_iload_n 3 dX11_saying_98 rfl ?_
              refine ev_iconst dX11_saying_99 rfl ?_
              refine ev_isub dX11_saying_100 ?_
              obtain ⟨c22, h⟩ := am_gd_elim h
              refine ev_iald dX11_saying_101 (fun h9 => (h9.2.1 44 _ rfl).2) (am_in_vp c22) ?_
              cases h
              exact ev_iret dX11_saying_102 rfl
            · replace h := am_ifp c21 h
              refine ev_aload_n 0 dX11_saying_81 rfl ?_
              refine ev_gf (v := .ref 39) dX11_saying_82 (fun h9 => (h9.2.1 0 _ rfl).2) 5 (by decide) (by decide) kF_X11_50 (fun h9 => congrArg va_rf (h9.2.2 0 5 39 rfl)) ?_
              refine ev_gf (v := .int (am_I g17 39 7)) dX11_saying_85 (fun h9 => (h9.2.1 39 _ rfl).2) 7 (by decide) (by decide) kF_X11_363 (fun _ => rfl) ?_
              refine ev_goto 102 dX11_saying_88 (by decide) ?_
              cases h
              exact ev_iret dX11_saying_102 rfl
          · replace h := am_ifp c20 h
            refine ev_iconst dX11_saying_75 rfl ?_
            cases h
            exact ev_iret dX11_saying_76 rfl
        · replace h := am_ifp c19 h
          refine ev_aload_n 0 dX11_saying_57 rfl ?_
          refine ev_gf (v := .ref 39) dX11_saying_58 (fun h9 => (h9.2.1 0 _ rfl).2) 5 (by decide) (by decide) kF_X11_50 (fun h9 => congrArg va_rf (h9.2.2 0 5 39 rfl)) ?_
          refine ev_gf (v := .int (am_I g17 39 8)) dX11_saying_61 (fun h9 => (h9.2.1 39 _ rfl).2) 8 (by decide) (by decide) kF_X11_360 (fun _ => rfl) ?_
          cases h
          exact ev_iret dX11_saying_64 rfl
      · replace h := am_ifp c12 h
        refine ev_iconst dX11_saying_31 rfl ?_
        cases h
        exact ev_iret dX11_saying_32 rfl
theorem tX11_saying {a1 : Int32} {a2 : Int32} {a3 : Int32} {g : am_G} {r : Int32 × am_G} (h : fX11_saying a1 a2 a3 g = some r) : am_Mt zc MX11_saying 65 [.ref 0, .int a1, .int a2, .int a3] g (am_ri r) := am_Mt.of rfl (Nat.le_of_ble_eq_true rfl) (eX11_saying _ _ _ _ _ h)
def fX11_talk (a1 : Int32) (a2 : Int32) (a3 : Int32) (g : am_G) : Option (Int32 × am_G) :=
  am_bd (fX11_isPlace a2 g) fun v1 g2 =>
  if v1 = 0 then (
    am_bd (fX11_refused (-1 : Int32) g2) fun v5 g6 =>
    some (v5, g6))
  else (
    am_bd (fX11_isLoud a3 g2) fun v8 g9 =>
    if v8 = 0 then (
      am_bd (fX11_refused (-1 : Int32) g9) fun v34 g35 =>
      some (v34, g35))
    else (
      am_bd (fX10_has a1 g9) fun v12 g13 =>
      if v12 = 0 then (
        am_bd (fX11_refused (-2 : Int32) g13) fun v31 g32 =>
        some (v31, g32))
      else (
        if (am_I g13 1 15) < (6 : Int32) then (
          am_let (am_I g13 1 15) fun x17 =>
          am_gd (am_in x17 6) <|
          am_let (am_si g13 18 x17.toNatClampNeg a1) fun g19 =>
          am_gd (am_in x17 6) <|
          am_let (am_si g19 19 x17.toNatClampNeg a2) fun g21 =>
          am_gd (am_in x17 6) <|
          am_let (am_si g21 20 x17.toNatClampNeg a3) fun g23 =>
          am_let (am_si g23 1 15 ((am_I g23 1 15) + (1 : Int32))) fun g24 =>
          am_bd (fX11_accepted x17 g24) fun v25 g26 =>
          some (v25, g26))
        else (
          am_bd (fX11_refused (-5 : Int32) g13) fun v28 g29 =>
          some (v28, g29)))))
set_option maxRecDepth 100000 in
set_option maxHeartbeats 4000000 in
theorem eX11_talk (a1 : Int32) (a2 : Int32) (a3 : Int32) (g : am_G) (r : Int32 × am_G) (h : fX11_talk a1 a2 a3 g = some r) : am_Ev zc MX11_talk 2 0 [(0, .ref 0), (1, .int a1), (2, .int a2), (3, .int a3)] [] g (am_ri r) := by
  unfold fX11_talk at h
  refine ev_iload_n 2 dX11_talk_0 rfl ?_
  obtain ⟨v1, g2, e3, h⟩ := am_bd_elim h
  refine ev_callSi (v := v1) [.int a2] [] dX11_talk_1 (tX11_isPlace e3) (by decide) mo_X11_isPlace kM_X11_274 ks_X11_isPlace (Nat.le_of_ble_eq_true rfl) ?_
  refine ev_if_eq 14 dX11_talk_4 (by decide) (fun c4 => ?_) (fun c4 => ?_)
  · replace h := am_ifp c4 h
    refine ev_aload_n 0 dX11_talk_14 rfl ?_
    refine ev_iconst dX11_talk_15 rfl ?_
    obtain ⟨v5, g6, e7, h⟩ := am_bd_elim h
    refine ev_callVi (v := v5) [.int (-1 : Int32)] [] dX11_talk_16 (tX11_refused e7) (by decide) mo_X11_refused kM_X11_104 ki_X11_refused kv_X11_refused (fun h9 => (h9.2.1 0 _ rfl).2) (by decide) rfl (Nat.le_of_ble_eq_true rfl) ?_
    cases h
    exact ev_iret dX11_talk_19 rfl
  · replace h := am_ifn c4 h
    refine ev_iload_n 3 dX11_talk_7 rfl ?_
    obtain ⟨v8, g9, e10, h⟩ := am_bd_elim h
    refine ev_callSi (v := v8) [.int a3] [] dX11_talk_8 (tX11_isLoud e10) (by decide) mo_X11_isLoud kM_X11_277 ks_X11_isLoud (Nat.le_of_ble_eq_true rfl) ?_
    refine ev_if_ne 20 dX11_talk_11 (by decide) (fun c11 => ?_) (fun c11 => ?_)
    · replace h := am_ifn c11 h
      refine ev_aload_n 0 dX11_talk_20 rfl ?_
      refine ev_gf (v := .ref 1) dX11_talk_21 (fun h9 => (h9.2.1 0 _ rfl).2) 0 (by decide) (by decide) kF_X11_14 (fun h9 => congrArg va_rf (h9.2.2 0 0 1 rfl)) ?_
      refine ev_gf (v := .ref 12) dX11_talk_24 (fun h9 => (h9.2.1 1 _ rfl).2) 5 (by decide) (by decide) kF_X11_150 (fun h9 => congrArg va_rf (h9.2.2 1 5 12 rfl)) ?_
      refine ev_iload_n 1 dX11_talk_27 rfl ?_
      obtain ⟨v12, g13, e14, h⟩ := am_bd_elim h
      refine ev_callVi (v := v12) [.int a1] [] dX11_talk_28 (tX10_has e14) (by decide) mo_X10_has kM_X11_162 ki_X10_has kv_X10_has (fun h9 => (h9.2.1 12 _ rfl).2) (by decide) rfl (Nat.le_of_ble_eq_true rfl) ?_
      refine ev_if_ne 41 dX11_talk_31 (by decide) (fun c15 => ?_) (fun c15 => ?_)
      · replace h := am_ifn c15 h
        refine ev_aload_n 0 dX11_talk_41 rfl ?_
        refine ev_gf (v := .ref 1) dX11_talk_42 (fun h9 => (h9.2.1 0 _ rfl).2) 0 (by decide) (by decide) kF_X11_14 (fun h9 => congrArg va_rf (h9.2.2 0 0 1 rfl)) ?_
        refine ev_gf (v := .int (am_I g13 1 15)) dX11_talk_45 (fun h9 => (h9.2.1 1 _ rfl).2) 15 (by decide) (by decide) kF_X11_369 (fun _ => rfl) ?_
        refine ev_bipush dX11_talk_48 rfl ?_
        refine ev_icmp_lt 60 dX11_talk_50 (by decide) (fun c16 => ?_) (fun c16 => ?_)
        · replace h := am_ifp c16 h
          refine ev_aload_n 0 dX11_talk_60 rfl ?_
          refine ev_gf (v := .ref 1) dX11_talk_61 (fun h9 => (h9.2.1 0 _ rfl).2) 0 (by decide) (by decide) kF_X11_14 (fun h9 => congrArg va_rf (h9.2.2 0 0 1 rfl)) ?_
          refine ev_gf (v := .int (am_I g13 1 15)) dX11_talk_64 (fun h9 => (h9.2.1 1 _ rfl).2) 15 (by decide) (by decide) kF_X11_369 (fun _ => rfl) ?_
          refine am_let_elim (P := fun x17 => am_Ev zc MX11_talk 2 67 [(0, .ref 0), (1, .int a1), (2, .int a2), (3, .int a3)] [.int x17] g13 (am_ri r)) h fun x17 h => ?_
          refine ev_istore (ls' := [(4, .int x17), (0, .ref 0), (1, .int a1), (2, .int a2), (3, .int a3)]) dX11_talk_67 (by decide) rfl ?_
          refine ev_aload_n 1 dX11_talk_69 rfl ?_
          refine ev_gf (v := .ref 1) dX11_talk_70 (fun h9 => (h9.2.1 0 _ rfl).2) 0 (by decide) (by decide) kF_X11_14 (fun h9 => congrArg va_rf (h9.2.2 0 0 1 rfl)) ?_
          refine ev_gf (v := .ref 18) dX11_talk_73 (fun h9 => (h9.2.1 1 _ rfl).2) 7 (by decide) (by decide) kF_X11_372 (fun h9 => congrArg va_rf (h9.2.2 1 7 18 rfl)) ?_
          refine ev_iload 0 dX11_talk_76 rfl ?_
          refine ev_iload_n 2 dX11_talk_78 rfl ?_
          obtain ⟨c18, h⟩ := am_gd_elim h
          refine ev_iast dX11_talk_79 (fun h9 => (h9.2.1 18 _ rfl).2) (am_in_vp c18) ?_
          refine am_let_elim (P := fun g19 => am_Ev zc MX11_talk 2 80 [(4, .int x17), (0, .ref 0), (1, .int a1), (2, .int a2), (3, .int a3)] [] g19 (am_ri r)) h fun g19 h => ?_
          refine ev_aload_n 1 dX11_talk_80 rfl ?_
          refine ev_gf (v := .ref 1) dX11_talk_81 (fun h9 => (h9.2.1 0 _ rfl).2) 0 (by decide) (by decide) kF_X11_14 (fun h9 => congrArg va_rf (h9.2.2 0 0 1 rfl)) ?_
          refine ev_gf (v := .ref 19) dX11_talk_84 (fun h9 => (h9.2.1 1 _ rfl).2) 8 (by decide) (by decide) kF_X11_375 (fun h9 => congrArg va_rf (h9.2.2 1 8 19 rfl)) ?_
          refine ev_iload 0 dX11_talk_87 rfl ?_
          refine ev_iload_n 3 dX11_talk_89 rfl ?_
          obtain ⟨c20, h⟩ := am_gd_elim h
          refine ev_iast dX11_talk_90 (fun h9 => (h9.2.1 19 _ rfl).2) (am_in_vp c20) ?_
          refine am_let_elim (P := fun g21 => am_Ev zc MX11_talk 2 91 [(4, .int x17), (0, .ref 0), (1, .int a1), (2, .int a2), (3, .int a3)] [] g21 (am_ri r)) h fun g21 h => ?_
          refine ev_aload_n 1 dX11_talk_91 rfl ?_
          refine ev_gf (v := .ref 1) dX11_talk_92 (fun h9 => (h9.2.1 0 _ rfl).2) 0 (by decide) (by decide) kF_X11_14 (fun h9 => congrArg va_rf (h9.2.2 0 0 1 rfl)) ?_
          refine ev_gf (v := .ref 20) dX11_talk_95 (fun h9 => (h9.2.1 1 _ rfl).2) 9 (by decide) (by decide) kF_X11_378 (fun h9 => congrArg va_rf (h9.2.2 1 9 20 rfl)) ?_
          refine ev_iload 0 dX11_talk_98 rfl ?_
          refine ev_iload_n 4 dX11_talk_100 rfl ?_
          obtain ⟨c22, h⟩ := am_gd_elim h
          refine ev_iast dX11_talk_101 (fun h9 => (h9.2.1 20 _ rfl).2) (am_in_vp c22) ?_
          refine am_let_elim (P := fun g23 => am_Ev zc MX11_talk 2 102 [(4, .int x17), (0, .ref 0), (1, .int a1), (2, .int a2), (3, .int a3)] [] g23 (am_ri r)) h fun g23 h => ?_
          refine ev_aload_n 1 dX11_talk_102 rfl ?_
          refine ev_gf (v := .ref 1) dX11_talk_103 (fun h9 => (h9.2.1 0 _ rfl).2) 0 (by decide) (by decide) kF_X11_14 (fun h9 => congrArg va_rf (h9.2.2 0 0 1 rfl)) ?_
          refine ev_dup dX11_talk_106 rfl ?_
          refine ev_gf (v := .int (am_I g23 1 15)) dX11_talk_107 (fun h9 => (h9.2.1 1 _ rfl).2) 15 (by decide) (by decide) kF_X11_369 (fun _ => rfl) ?_
          refine ev_iconst dX11_talk_110 rfl ?_
          refine ev_iadd dX11_talk_111 ?_
          refine ev_pfi dX11_talk_112 (fun h9 => (h9.2.1 1 _ rfl).2) 15 (by decide) (by decide) kF_X11_369 rfl rfl rfl (fun _ => rfl) ?_
          refine am_let_elim (P := fun g24 => am_Ev zc MX11_talk 2 115 [(4, .int x17), (0, .ref 0), (1, .int a1), (2, .int a2), (3, .int a3)] [] g24 (am_ri r)) h fun g24 h => ?_
          refine ev_aload_n 1 dX11_talk_115 rfl ?_
          refine ev_iload 0 dX11_talk_116 rfl ?_
          obtain ⟨v25, g26, e27, h⟩ := am_bd_elim h
          refine ev_callVi (v := v25) [.int x17] [] dX11_talk_118 (tX11_accepted e27) (by decide) mo_X11_accepted kM_X11_133 ki_X11_accepted kv_X11_accepted (fun h9 => (h9.2.1 0 _ rfl).2) (by decide) rfl (Nat.le_of_ble_eq_true rfl) ?_
          cases h
          exact ev_iret dX11_talk_121 rfl
        · replace h := am_ifn c16 h
          refine ev_aload_n 0 dX11_talk_53 rfl ?_
          refine ev_bipush dX11_talk_54 rfl ?_
          obtain ⟨v28, g29, e30, h⟩ := am_bd_elim h
          refine ev_callVi (v := v28) [.int (-5 : Int32)] [] dX11_talk_56 (tX11_refused e30) (by decide) mo_X11_refused kM_X11_104 ki_X11_refused kv_X11_refused (fun h9 => (h9.2.1 0 _ rfl).2) (by decide) rfl (Nat.le_of_ble_eq_true rfl) ?_
          cases h
          exact ev_iret dX11_talk_59 rfl
      · replace h := am_ifp c15 h
        refine ev_aload_n 0 dX11_talk_34 rfl ?_
        refine ev_bipush dX11_talk_35 rfl ?_
        obtain ⟨v31, g32, e33, h⟩ := am_bd_elim h
        refine ev_callVi (v := v31) [.int (-2 : Int32)] [] dX11_talk_37 (tX11_refused e33) (by decide) mo_X11_refused kM_X11_104 ki_X11_refused kv_X11_refused (fun h9 => (h9.2.1 0 _ rfl).2) (by decide) rfl (Nat.le_of_ble_eq_true rfl) ?_
        cases h
        exact ev_iret dX11_talk_40 rfl
    · replace h := am_ifp c11 h
      refine ev_aload_n 0 dX11_talk_14 rfl ?_
      refine ev_iconst dX11_talk_15 rfl ?_
      obtain ⟨v34, g35, e36, h⟩ := am_bd_elim h
      refine ev_callVi (v := v34) [.int (-1 : Int32)] [] dX11_talk_16 (tX11_refused e36) (by decide) mo_X11_refused kM_X11_104 ki_X11_refused kv_X11_refused (fun h9 => (h9.2.1 0 _ rfl).2) (by decide) rfl (Nat.le_of_ble_eq_true rfl) ?_
      cases h
      exact ev_iret dX11_talk_19 rfl
theorem tX11_talk {a1 : Int32} {a2 : Int32} {a3 : Int32} {g : am_G} {r : Int32 × am_G} (h : fX11_talk a1 a2 a3 g = some r) : am_Mt zc MX11_talk 2 [.ref 0, .int a1, .int a2, .int a3] g (am_ri r) := am_Mt.of rfl (Nat.le_of_ble_eq_true rfl) (eX11_talk _ _ _ _ _ h)
def fX11_cancel (g : am_G) : Option (Int32 × am_G) :=
  am_let (am_I g 1 15) fun x1 =>
  am_let (am_si g 1 15 (0 : Int32)) fun g2 =>
  some (x1, g2)
set_option maxRecDepth 100000 in
set_option maxHeartbeats 4000000 in
theorem eX11_cancel (g : am_G) (r : Int32 × am_G) (h : fX11_cancel g = some r) : am_Ev zc MX11_cancel 0 0 [(0, .ref 0)] [] g (am_ri r) := by
  unfold fX11_cancel at h
  refine ev_aload_n 0 dX11_cancel_0 rfl ?_
  refine ev_gf (v := .ref 1) dX11_cancel_1 (fun h9 => (h9.2.1 0 _ rfl).2) 0 (by decide) (by decide) kF_X11_14 (fun h9 => congrArg va_rf (h9.2.2 0 0 1 rfl)) ?_
  refine ev_gf (v := .int (am_I g 1 15)) dX11_cancel_4 (fun h9 => (h9.2.1 1 _ rfl).2) 15 (by decide) (by decide) kF_X11_369 (fun _ => rfl) ?_
  refine am_let_elim (P := fun x1 => am_Ev zc MX11_cancel 0 7 [(0, .ref 0)] [.int x1] g (am_ri r)) h fun x1 h => ?_
  refine ev_istore_n (ls' := [(1, .int x1), (0, .ref 0)]) dX11_cancel_7 rfl (by decide) rfl ?_
  refine ev_aload_n 1 dX11_cancel_8 rfl ?_
  refine ev_gf (v := .ref 1) dX11_cancel_9 (fun h9 => (h9.2.1 0 _ rfl).2) 0 (by decide) (by decide) kF_X11_14 (fun h9 => congrArg va_rf (h9.2.2 0 0 1 rfl)) ?_
  refine ev_iconst dX11_cancel_12 rfl ?_
  refine ev_pfi dX11_cancel_13 (fun h9 => (h9.2.1 1 _ rfl).2) 15 (by decide) (by decide) kF_X11_369 rfl rfl rfl (fun _ => rfl) ?_
  refine am_let_elim (P := fun g2 => am_Ev zc MX11_cancel 0 16 [(1, .int x1), (0, .ref 0)] [] g2 (am_ri r)) h fun g2 h => ?_
  refine ev_iload_n 0 dX11_cancel_16 rfl ?_
  cases h
  exact ev_iret dX11_cancel_17 rfl
theorem tX11_cancel {g : am_G} {r : Int32 × am_G} (h : fX11_cancel g = some r) : am_Mt zc MX11_cancel 0 [.ref 0] g (am_ri r) := am_Mt.of rfl (Nat.le_of_ble_eq_true rfl) (eX11_cancel _ _ h)
def fX11_lookAhead_L16 (a1 : Int32) : Nat → Int32 → am_G → Option (Int32 × am_G)
  | 0, _, _ => none
  | n + 1, x4, g5 =>
    if a1 ≤ x4 then (
      some ((1 : Int32), g5))
    else (
      am_jn (fun  (g8 : am_G) =>
        am_bd (fX4_noteDay x4 65 g8) fun u10 g11 =>
        am_let (x4 + (1 : Int32)) fun x13 =>
        fX11_lookAhead_L16 a1 n x13 g11) fun j9 =>
      if x4 ≤ 0 then (
        j9 g5)
      else (
        if (999 : Int32) ≤ (am_I g5 65 5) then (
          some ((0 : Int32), g5))
        else (
          am_bd (fX11_passNight 65 g5) fun v15 g16 =>
          if v15 ≤ 0 then (
            j9 g16)
          else (
            some ((0 : Int32), g16)))))
def fX11_lookAhead (a1 : Int32) (g : am_G) : Option (Int32 × am_G) :=
  am_bd (fX2_copyFrom 65 2 g) fun u1 g2 =>
  fX11_lookAhead_L16 a1 am_fu (0 : Int32) g2
set_option maxRecDepth 100000 in
set_option maxHeartbeats 4000000 in
theorem tfX11_lookAhead_L16  (a1 : Int32) : ∀ (n : Nat) (x4 : Int32) (g5 : am_G) (r : Int32 × am_G), fX11_lookAhead_L16 a1 n x4 g5 = some r → am_Ev zc MX11_lookAhead 5 16 [(0, .ref 0), (1, .int a1), (2, .int x4)] [] g5 (am_ri r) := by
  intro n
  induction n with
  | zero => intro x4 g5 r h; exact nomatch (show (none : Option (Int32 × am_G)) = some r from h)
  | succ n ih =>
    intro x4 g5 r h
    rw [fX11_lookAhead_L16] at h
    refine ev_iload_n 2 dX11_lookAhead_16 rfl ?_
    refine ev_iload_n 1 dX11_lookAhead_17 rfl ?_
    refine ev_icmp_ge 69 dX11_lookAhead_18 (by decide) (fun c6 => ?_) (fun c6 => ?_)
    · replace h := am_ifp c6 h
      refine ev_iconst dX11_lookAhead_69 rfl ?_
      cases h
      exact ev_zret dX11_lookAhead_70 rfl rfl
    · replace h := am_ifn c6 h
      refine ev_iload_n 2 dX11_lookAhead_21 rfl ?_
      refine am_jn_elim (fun q9 => ∀  (g8 : am_G) (r : Int32 × am_G), q9  g8 = some r → am_Ev zc MX11_lookAhead 5 51 [(0, .ref 0), (1, .int a1), (2, .int x4)] [] g8 (am_ri r)) h ?_ (fun j9 hj9 h => ?_)
      · intro  g8 r h
        try dsimp only at h
        refine ev_aload_n 0 dX11_lookAhead_51 rfl ?_
        refine ev_gf (v := .ref 45) dX11_lookAhead_52 (fun h9 => (h9.2.1 0 _ rfl).2) 6 (by decide) (by decide) kF_X11_57 (fun h9 => congrArg va_rf (h9.2.2 0 6 45 rfl)) ?_
        refine ev_iload_n 2 dX11_lookAhead_55 rfl ?_
        refine ev_aload_n 0 dX11_lookAhead_56 rfl ?_
        refine ev_gf (v := .ref 65) dX11_lookAhead_57 (fun h9 => (h9.2.1 0 _ rfl).2) 9 (by decide) (by decide) kF_X11_78 (fun h9 => congrArg va_rf (h9.2.2 0 9 65 rfl)) ?_
        obtain ⟨u10, g11, e12, h⟩ := am_bd_elim h
        refine ev_callVv [.int x4, .ref 65] [] dX11_lookAhead_60 (tX4_noteDay e12) (by decide) mo_X4_noteDay kM_X11_391 ki_X4_noteDay kv_X4_noteDay (fun h9 => (h9.2.1 45 _ rfl).2) (by decide) rfl (Nat.le_of_ble_eq_true rfl) ?_
        obtain ⟨x13, ex13, h⟩ := am_let_ex h
        refine ev_iinc (ls' := [(2, .int x13), (0, .ref 0), (1, .int a1)]) 2 dX11_lookAhead_63 rfl ex13 (by decide) rfl ?_
        refine ev_goto 16 dX11_lookAhead_66 (by decide) ?_
        refine ev_sub [1, 2, 0] rfl ?_
        exact ih _ _ _ h
      · refine ev_if_le 51 dX11_lookAhead_22 (by decide) (fun c7 => ?_) (fun c7 => ?_)
        · replace h := am_ifp c7 h
          refine ev_sub [0, 1, 2] rfl ?_
          exact hj9  _ _ h
        · replace h := am_ifn c7 h
          refine ev_aload_n 0 dX11_lookAhead_25 rfl ?_
          refine ev_gf (v := .ref 65) dX11_lookAhead_26 (fun h9 => (h9.2.1 0 _ rfl).2) 9 (by decide) (by decide) kF_X11_78 (fun h9 => congrArg va_rf (h9.2.2 0 9 65 rfl)) ?_
          refine ev_gf (v := .int (am_I g5 65 5)) dX11_lookAhead_29 (fun h9 => (h9.2.1 65 _ rfl).2) 5 (by decide) (by decide) kF_X11_177 (fun _ => rfl) ?_
          refine ev_sipush dX11_lookAhead_32 rfl ?_
          refine ev_icmp_ge 49 dX11_lookAhead_35 (by decide) (fun c14 => ?_) (fun c14 => ?_)
          · replace h := am_ifp c14 h
            refine ev_iconst dX11_lookAhead_49 rfl ?_
            cases h
            exact ev_zret dX11_lookAhead_50 rfl rfl
          · replace h := am_ifn c14 h
            refine ev_aload_n 0 dX11_lookAhead_38 rfl ?_
            refine ev_aload_n 0 dX11_lookAhead_39 rfl ?_
            refine ev_gf (v := .ref 65) dX11_lookAhead_40 (fun h9 => (h9.2.1 0 _ rfl).2) 9 (by decide) (by decide) kF_X11_78 (fun h9 => congrArg va_rf (h9.2.2 0 9 65 rfl)) ?_
            obtain ⟨v15, g16, e17, h⟩ := am_bd_elim h
            refine ev_callVi (v := v15) [.ref 65] [] dX11_lookAhead_43 (tX11_passNight e17) (by decide) mo_X11_passNight kM_X11_267 ki_X11_passNight kv_X11_passNight (fun h9 => (h9.2.1 0 _ rfl).2) (by decide) rfl (Nat.le_of_ble_eq_true rfl) ?_
            refine ev_if_le 51 dX11_lookAhead_46 (by decide) (fun c18 => ?_) (fun c18 => ?_)
            · replace h := am_ifp c18 h
              refine ev_sub [0, 1, 2] rfl ?_
              exact hj9  _ _ h
            · replace h := am_ifn c18 h
              refine ev_iconst dX11_lookAhead_49 rfl ?_
              cases h
              exact ev_zret dX11_lookAhead_50 rfl rfl
set_option maxRecDepth 100000 in
set_option maxHeartbeats 4000000 in
theorem eX11_lookAhead (a1 : Int32) (g : am_G) (r : Int32 × am_G) (h : fX11_lookAhead a1 g = some r) : am_Ev zc MX11_lookAhead 5 0 [(0, .ref 0), (1, .int a1)] [] g (am_ri r) := by
  unfold fX11_lookAhead at h
  refine ev_aload_n 0 dX11_lookAhead_0 rfl ?_
  refine ev_gf (v := .ref 65) dX11_lookAhead_1 (fun h9 => (h9.2.1 0 _ rfl).2) 9 (by decide) (by decide) kF_X11_78 (fun h9 => congrArg va_rf (h9.2.2 0 9 65 rfl)) ?_
  refine ev_aload_n 0 dX11_lookAhead_4 rfl ?_
  refine ev_gf (v := .ref 1) dX11_lookAhead_5 (fun h9 => (h9.2.1 0 _ rfl).2) 0 (by decide) (by decide) kF_X11_14 (fun h9 => congrArg va_rf (h9.2.2 0 0 1 rfl)) ?_
  refine ev_gf (v := .ref 2) dX11_lookAhead_8 (fun h9 => (h9.2.1 1 _ rfl).2) 0 (by decide) (by decide) kF_X11_112 (fun h9 => congrArg va_rf (h9.2.2 1 0 2 rfl)) ?_
  obtain ⟨u1, g2, e3, h⟩ := am_bd_elim h
  refine ev_callVv [.ref 2] [] dX11_lookAhead_11 (tX2_copyFrom e3) (by decide) mo_X2_copyFrom kM_X11_223 ki_X2_copyFrom kv_X2_copyFrom (fun h9 => (h9.2.1 65 _ rfl).2) (by decide) rfl (Nat.le_of_ble_eq_true rfl) ?_
  refine ev_iconst dX11_lookAhead_14 rfl ?_
  refine ev_istore_n (ls' := [(2, .int (0 : Int32)), (0, .ref 0), (1, .int a1)]) dX11_lookAhead_15 rfl (by decide) rfl ?_
  refine ev_sub [1, 2, 0] rfl ?_
  exact tfX11_lookAhead_L16 a1 _ _ _ _ h
theorem tX11_lookAhead {a1 : Int32} {g : am_G} {r : Int32 × am_G} (h : fX11_lookAhead a1 g = some r) : am_Mt zc MX11_lookAhead 5 [.ref 0, .int a1] g (am_ri r) := am_Mt.of rfl (Nat.le_of_ble_eq_true rfl) (eX11_lookAhead _ _ _ h)
