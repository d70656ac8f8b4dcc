def fX11_init (fx : Nat) (a0 : Nat) (g : am_G) : Option (Unit × am_G) :=
  am_let (am_n g) fun p1 =>
  am_let (am_new g 9 20) fun g2 =>
  am_bd (fX9_init fx p1 g2) fun u3 g4 =>
  am_gd (decide (am_S g4 a0 = (11, 17))) <|
  am_gd (decide (fx ≤ a0)) <|
  am_let (am_sp g4 a0 0 (some p1)) fun g7 =>
  am_let (am_n g7) fun p9 =>
  am_let (am_new g7 25 2) fun g10 =>
  am_gd (decide (am_S g10 a0 = (11, 17))) <|
  am_gd (decide (fx ≤ a0)) <|
  am_let (am_sp g10 a0 1 (some p9)) fun g12 =>
  am_let (am_n g12) fun p14 =>
  am_let (am_new g12 8 4) fun g15 =>
  am_bd (fX8_init fx p14 g15) fun u16 g17 =>
  am_gd (decide (am_S g17 a0 = (11, 17))) <|
  am_gd (decide (fx ≤ a0)) <|
  am_let (am_sp g17 a0 2 (some p14)) fun g20 =>
  am_let (am_n g20) fun p22 =>
  am_let (am_new g20 5 11) fun g23 =>
  am_bd (fX5_init fx p22 g23) fun u24 g25 =>
  am_gd (decide (am_S g25 a0 = (11, 17))) <|
  am_gd (decide (fx ≤ a0)) <|
  am_let (am_sp g25 a0 3 (some p22)) fun g28 =>
  am_let (am_n g28) fun p30 =>
  am_let (am_new g28 0 3) fun g31 =>
  am_gd (decide (am_S g31 a0 = (11, 17))) <|
  am_oc (am_P g31 a0 0) (fun p33 =>
  am_bd (fX0_init fx p30 p33 g31) fun u35 g36 =>
  am_gd (decide (am_S g36 a0 = (11, 17))) <|
  am_gd (decide (fx ≤ a0)) <|
  am_let (am_sp g36 a0 4 (some p30)) fun g39 =>
  am_let (am_n g39) fun p41 =>
  am_let (am_new g39 3 9) fun g42 =>
  am_gd (decide (am_S g42 a0 = (11, 17))) <|
  am_oc (am_P g42 a0 0) (fun p44 =>
  am_gd (decide (am_S g42 a0 = (11, 17))) <|
  am_oc (am_P g42 a0 4) (fun p47 =>
  am_bd (fX3_init fx p41 p44 p47 g42) fun u49 g50 =>
  am_gd (decide (am_S g50 a0 = (11, 17))) <|
  am_gd (decide (fx ≤ a0)) <|
  am_let (am_sp g50 a0 5 (some p41)) fun g53 =>
  am_let (am_n g53) fun p55 =>
  am_let (am_new g53 4 9) fun g56 =>
  am_gd (decide (am_S g56 a0 = (11, 17))) <|
  am_oc (am_P g56 a0 0) (fun p58 =>
  am_gd (decide (am_S g56 a0 = (11, 17))) <|
  am_oc (am_P g56 a0 4) (fun p61 =>
  am_bd (fX4_init fx p55 p58 p61 g56) fun u63 g64 =>
  am_gd (decide (am_S g64 a0 = (11, 17))) <|
  am_gd (decide (fx ≤ a0)) <|
  am_let (am_sp g64 a0 6 (some p55)) fun g67 =>
  am_let (am_n g67) fun p69 =>
  am_let (am_new g67 1 15) fun g70 =>
  am_gd (decide (am_S g70 a0 = (11, 17))) <|
  am_oc (am_P g70 a0 0) (fun p72 =>
  am_gd (decide (am_S g70 a0 = (11, 17))) <|
  am_oc (am_P g70 a0 4) (fun p75 =>
  am_bd (fX1_init fx p69 p72 p75 g70) fun u77 g78 =>
  am_gd (decide (am_S g78 a0 = (11, 17))) <|
  am_gd (decide (fx ≤ a0)) <|
  am_let (am_sp g78 a0 7 (some p69)) fun g81 =>
  am_let (am_n g81) fun p83 =>
  am_let (am_new g81 7 6) fun g84 =>
  am_gd (decide (am_S g84 a0 = (11, 17))) <|
  am_oc (am_P g84 a0 0) (fun p86 =>
  am_gd (decide (am_S g84 a0 = (11, 17))) <|
  am_oc (am_P g84 a0 4) (fun p89 =>
  am_bd (fX7_init fx p83 p86 p89 g84) fun u91 g92 =>
  am_gd (decide (am_S g92 a0 = (11, 17))) <|
  am_gd (decide (fx ≤ a0)) <|
  am_let (am_sp g92 a0 8 (some p83)) fun g95 =>
  am_let (am_n g95) fun p97 =>
  am_let (am_new g95 2 8) fun g98 =>
  am_bd (fX2_init fx p97 g98) fun u99 g100 =>
  am_gd (decide (am_S g100 a0 = (11, 17))) <|
  am_gd (decide (fx ≤ a0)) <|
  am_let (am_sp g100 a0 9 (some p97)) fun g103 =>
  am_let (am_n g103) fun p105 =>
  am_let (am_new g103 2 8) fun g106 =>
  am_bd (fX2_init fx p105 g106) fun u107 g108 =>
  am_gd (decide (am_S g108 a0 = (11, 17))) <|
  am_gd (decide (fx ≤ a0)) <|
  am_let (am_sp g108 a0 10 (some p105)) fun g111 =>
  am_let (am_n g111) fun p113 =>
  am_let (am_new g111 20 7) fun g114 =>
  am_gd (decide (am_S g114 a0 = (11, 17))) <|
  am_gd (decide (fx ≤ a0)) <|
  am_let (am_sp g114 a0 11 (some p113)) fun g116 =>
  am_let (am_n g116) fun p118 =>
  am_let (am_new g116 20 16) fun g119 =>
  am_gd (decide (am_S g119 a0 = (11, 17))) <|
  am_gd (decide (fx ≤ a0)) <|
  am_let (am_sp g119 a0 12 (some p118)) fun g121 =>
  am_gd (decide (am_S g121 a0 = (11, 17))) <|
  am_let (am_si g121 a0 15 (-1 : Int32)) fun g124 =>
  some ((), g124)) none) none) none) none) none) none) none) none) none
set_option maxRecDepth 100000 in
set_option maxHeartbeats 4000000 in
theorem eX11_init {Z : am_Z} {fx : Nat} (hF : ∀ g : am_G, am_ok Z g → ∀ k, Z.2 (am_n g) k = none) (hZ : ∀ a k, fx ≤ a → Z.2 a k = none) (a0 : Nat) (g : am_G) (r : Unit × am_G) (h : fX11_init fx a0 g = some r) : am_Ev Z MX11_init 2 0 [(0, .ref a0)] [] g (am_rv r) := by
  unfold fX11_init at h
  refine ev_aload_n 0 dX11_init_0 rfl ?_
  refine ev_objInit dX11_init_1 kM_X11_5 k_objI k_objC (Nat.le_of_ble_eq_true rfl) ?_
  refine ev_aload_n 0 dX11_init_4 rfl ?_
  refine ev_new 9 dX11_init_5 (fun h9 => hF _ h9) (by decide) kC_X11_11 ?_
  refine am_let_elim (P := fun p1 => am_Ev Z MX11_init 2 8 [(0, .ref a0)] [.ref p1, .ref a0] (am_new g 9 20) (am_rv r)) h fun p1 h => ?_
  refine am_let_elim (P := fun g2 => am_Ev Z MX11_init 2 8 [(0, .ref a0)] [.ref p1, .ref a0] g2 (am_rv r)) h fun g2 h => ?_
  refine ev_dup dX11_init_8 rfl ?_
  obtain ⟨u3, g4, e5, h⟩ := am_bd_elim h
  refine ev_callI (as := []) (rest := [.ref p1, .ref a0]) dX11_init_9 (tX9_init hF hZ e5) (by decide) mo_X9_init kM_X11_13 ki_X9_init ⟨rfl, rfl⟩ (Nat.le_of_ble_eq_true rfl) ?_
  obtain ⟨c6, h⟩ := am_gd_elim h
  obtain ⟨c8, h⟩ := am_gd_elim h
  refine ev_pfr dX11_init_12 (fun _ => am_sh c6) 0 (by decide) (by decide) kF_X11_14 rfl ⟨rfl, rfl⟩ (hZ _ _ (of_decide_eq_true c8)) (fun _ => rfl) (fun _ => rfl) (fun _ => rfl) ?_
  refine am_let_elim (P := fun g7 => am_Ev Z MX11_init 2 15 [(0, .ref a0)] [] g7 (am_rv r)) h fun g7 h => ?_
  refine ev_aload_n 0 dX11_init_15 rfl ?_
  refine ev_iconst dX11_init_16 rfl ?_
  refine ev_newq 25 2 dX11_init_17 (fun h9 => hF _ h9) (by decide) (by decide) kC_X11_11 (by decide) rfl (by decide) ?_
  refine am_let_elim (P := fun p9 => am_Ev Z MX11_init 2 20 [(0, .ref a0)] [.ref p9, .ref a0] (am_new g7 25 2) (am_rv r)) h fun p9 h => ?_
  refine am_let_elim (P := fun g10 => am_Ev Z MX11_init 2 20 [(0, .ref a0)] [.ref p9, .ref a0] g10 (am_rv r)) h fun g10 h => ?_
  obtain ⟨c11, h⟩ := am_gd_elim h
  obtain ⟨c13, h⟩ := am_gd_elim h
  refine ev_pfr dX11_init_20 (fun _ => am_sh c11) 1 (by decide) (by decide) kF_X11_18 rfl ⟨rfl, rfl⟩ (hZ _ _ (of_decide_eq_true c13)) (fun _ => rfl) (fun _ => rfl) (fun _ => rfl) ?_
  refine am_let_elim (P := fun g12 => am_Ev Z MX11_init 2 23 [(0, .ref a0)] [] g12 (am_rv r)) h fun g12 h => ?_
  refine ev_aload_n 0 dX11_init_23 rfl ?_
  refine ev_new 8 dX11_init_24 (fun h9 => hF _ h9) (by decide) kC_X11_22 ?_
  refine am_let_elim (P := fun p14 => am_Ev Z MX11_init 2 27 [(0, .ref a0)] [.ref p14, .ref a0] (am_new g12 8 4) (am_rv r)) h fun p14 h => ?_
  refine am_let_elim (P := fun g15 => am_Ev Z MX11_init 2 27 [(0, .ref a0)] [.ref p14, .ref a0] g15 (am_rv r)) h fun g15 h => ?_
  refine ev_dup dX11_init_27 rfl ?_
  obtain ⟨u16, g17, e18, h⟩ := am_bd_elim h
  refine ev_callIN (as := []) (rest := [.ref p14, .ref a0]) dX11_init_28 (tX8_init hF hZ e18) (by decide) mo_X8_init kN_X11_24 ki_X8_init ⟨rfl, rfl⟩ (Nat.le_of_ble_eq_true rfl) ?_
  obtain ⟨c19, h⟩ := am_gd_elim h
  obtain ⟨c21, h⟩ := am_gd_elim h
  refine ev_pfr dX11_init_31 (fun _ => am_sh c19) 2 (by decide) (by decide) kF_X11_25 rfl ⟨rfl, rfl⟩ (hZ _ _ (of_decide_eq_true c21)) (fun _ => rfl) (fun _ => rfl) (fun _ => rfl) ?_
  refine am_let_elim (P := fun g20 => am_Ev Z MX11_init 2 34 [(0, .ref a0)] [] g20 (am_rv r)) h fun g20 h => ?_
  refine ev_aload_n 0 dX11_init_34 rfl ?_
  refine ev_new 5 dX11_init_35 (fun h9 => hF _ h9) (by decide) kC_X11_29 ?_
  refine am_let_elim (P := fun p22 => am_Ev Z MX11_init 2 38 [(0, .ref a0)] [.ref p22, .ref a0] (am_new g20 5 11) (am_rv r)) h fun p22 h => ?_
  refine am_let_elim (P := fun g23 => am_Ev Z MX11_init 2 38 [(0, .ref a0)] [.ref p22, .ref a0] g23 (am_rv r)) h fun g23 h => ?_
  refine ev_dup dX11_init_38 rfl ?_
  obtain ⟨u24, g25, e26, h⟩ := am_bd_elim h
  refine ev_callIN (as := []) (rest := [.ref p22, .ref a0]) dX11_init_39 (tX5_init hF hZ e26) (by decide) mo_X5_init kN_X11_31 ki_X5_init ⟨rfl, rfl⟩ (Nat.le_of_ble_eq_true rfl) ?_
  obtain ⟨c27, h⟩ := am_gd_elim h
  obtain ⟨c29, h⟩ := am_gd_elim h
  refine ev_pfr dX11_init_42 (fun _ => am_sh c27) 3 (by decide) (by decide) kF_X11_32 rfl ⟨rfl, rfl⟩ (hZ _ _ (of_decide_eq_true c29)) (fun _ => rfl) (fun _ => rfl) (fun _ => rfl) ?_
  refine am_let_elim (P := fun g28 => am_Ev Z MX11_init 2 45 [(0, .ref a0)] [] g28 (am_rv r)) h fun g28 h => ?_
  refine ev_aload_n 0 dX11_init_45 rfl ?_
  refine ev_new 0 dX11_init_46 (fun h9 => hF _ h9) (by decide) kC_X11_36 ?_
  refine am_let_elim (P := fun p30 => am_Ev Z MX11_init 2 49 [(0, .ref a0)] [.ref p30, .ref a0] (am_new g28 0 3) (am_rv r)) h fun p30 h => ?_
  refine am_let_elim (P := fun g31 => am_Ev Z MX11_init 2 49 [(0, .ref a0)] [.ref p30, .ref a0] g31 (am_rv r)) h fun g31 h => ?_
  refine ev_dup dX11_init_49 rfl ?_
  refine ev_aload_n 0 dX11_init_50 rfl ?_
  obtain ⟨c32, h⟩ := am_gd_elim h
  refine am_oc_elim h (fun p33 e34 h => ?_) (fun _ h => nomatch h)
  refine ev_gf (v := .ref p33) dX11_init_51 (fun _ => am_sh c32) 0 (by decide) (by decide) kF_X11_14 (fun _ => congrArg va_rf e34) ?_
  obtain ⟨u35, g36, e37, h⟩ := am_bd_elim h
  refine ev_callI (as := [.ref p33]) (rest := [.ref p30, .ref a0]) dX11_init_54 (tX0_init hF hZ e37) (by decide) mo_X0_init kM_X11_38 ki_X0_init ⟨rfl, rfl⟩ (Nat.le_of_ble_eq_true rfl) ?_
  obtain ⟨c38, h⟩ := am_gd_elim h
  obtain ⟨c40, h⟩ := am_gd_elim h
  refine ev_pfr dX11_init_57 (fun _ => am_sh c38) 4 (by decide) (by decide) kF_X11_41 rfl ⟨rfl, rfl⟩ (hZ _ _ (of_decide_eq_true c40)) (fun _ => rfl) (fun _ => rfl) (fun _ => rfl) ?_
  refine am_let_elim (P := fun g39 => am_Ev Z MX11_init 2 60 [(0, .ref a0)] [] g39 (am_rv r)) h fun g39 h => ?_
  refine ev_aload_n 0 dX11_init_60 rfl ?_
  refine ev_new 3 dX11_init_61 (fun h9 => hF _ h9) (by decide) kC_X11_45 ?_
  refine am_let_elim (P := fun p41 => am_Ev Z MX11_init 2 64 [(0, .ref a0)] [.ref p41, .ref a0] (am_new g39 3 9) (am_rv r)) h fun p41 h => ?_
  refine am_let_elim (P := fun g42 => am_Ev Z MX11_init 2 64 [(0, .ref a0)] [.ref p41, .ref a0] g42 (am_rv r)) h fun g42 h => ?_
  refine ev_dup dX11_init_64 rfl ?_
  refine ev_aload_n 0 dX11_init_65 rfl ?_
  obtain ⟨c43, h⟩ := am_gd_elim h
  refine am_oc_elim h (fun p44 e45 h => ?_) (fun _ h => nomatch h)
  refine ev_gf (v := .ref p44) dX11_init_66 (fun _ => am_sh c43) 0 (by decide) (by decide) kF_X11_14 (fun _ => congrArg va_rf e45) ?_
  refine ev_aload_n 0 dX11_init_69 rfl ?_
  obtain ⟨c46, h⟩ := am_gd_elim h
  refine am_oc_elim h (fun p47 e48 h => ?_) (fun _ h => nomatch h)
  refine ev_gf (v := .ref p47) dX11_init_70 (fun _ => am_sh c46) 4 (by decide) (by decide) kF_X11_41 (fun _ => congrArg va_rf e48) ?_
  obtain ⟨u49, g50, e51, h⟩ := am_bd_elim h
  refine ev_callI (as := [.ref p44, .ref p47]) (rest := [.ref p41, .ref a0]) dX11_init_73 (tX3_init hF hZ e51) (by decide) mo_X3_init kM_X11_47 ki_X3_init ⟨rfl, rfl⟩ (Nat.le_of_ble_eq_true rfl) ?_
  obtain ⟨c52, h⟩ := am_gd_elim h
  obtain ⟨c54, h⟩ := am_gd_elim h
  refine ev_pfr dX11_init_76 (fun _ => am_sh c52) 5 (by decide) (by decide) kF_X11_50 rfl ⟨rfl, rfl⟩ (hZ _ _ (of_decide_eq_true c54)) (fun _ => rfl) (fun _ => rfl) (fun _ => rfl) ?_
  refine am_let_elim (P := fun g53 => am_Ev Z MX11_init 2 79 [(0, .ref a0)] [] g53 (am_rv r)) h fun g53 h => ?_
  refine ev_aload_n 0 dX11_init_79 rfl ?_
  refine ev_new 4 dX11_init_80 (fun h9 => hF _ h9) (by decide) kC_X11_54 ?_
  refine am_let_elim (P := fun p55 => am_Ev Z MX11_init 2 83 [(0, .ref a0)] [.ref p55, .ref a0] (am_new g53 4 9) (am_rv r)) h fun p55 h => ?_
  refine am_let_elim (P := fun g56 => am_Ev Z MX11_init 2 83 [(0, .ref a0)] [.ref p55, .ref a0] g56 (am_rv r)) h fun g56 h => ?_
  refine ev_dup dX11_init_83 rfl ?_
  refine ev_aload_n 0 dX11_init_84 rfl ?_
  obtain ⟨c57, h⟩ := am_gd_elim h
  refine am_oc_elim h (fun p58 e59 h => ?_) (fun _ h => nomatch h)
  refine ev_gf (v := .ref p58) dX11_init_85 (fun _ => am_sh c57) 0 (by decide) (by decide) kF_X11_14 (fun _ => congrArg va_rf e59) ?_
  refine ev_aload_n 0 dX11_init_88 rfl ?_
  obtain ⟨c60, h⟩ := am_gd_elim h
  refine am_oc_elim h (fun p61 e62 h => ?_) (fun _ h => nomatch h)
  refine ev_gf (v := .ref p61) dX11_init_89 (fun _ => am_sh c60) 4 (by decide) (by decide) kF_X11_41 (fun _ => congrArg va_rf e62) ?_
  obtain ⟨u63, g64, e65, h⟩ := am_bd_elim h
  refine ev_callI (as := [.ref p58, .ref p61]) (rest := [.ref p55, .ref a0]) dX11_init_92 (tX4_init hF hZ e65) (by decide) mo_X4_init kM_X11_56 ki_X4_init ⟨rfl, rfl⟩ (Nat.le_of_ble_eq_true rfl) ?_
  obtain ⟨c66, h⟩ := am_gd_elim h
  obtain ⟨c68, h⟩ := am_gd_elim h
  refine ev_pfr dX11_init_95 (fun _ => am_sh c66) 6 (by decide) (by decide) kF_X11_57 rfl ⟨rfl, rfl⟩ (hZ _ _ (of_decide_eq_true c68)) (fun _ => rfl) (fun _ => rfl) (fun _ => rfl) ?_
  refine am_let_elim (P := fun g67 => am_Ev Z MX11_init 2 98 [(0, .ref a0)] [] g67 (am_rv r)) h fun g67 h => ?_
  refine ev_aload_n 0 dX11_init_98 rfl ?_
  refine ev_new 1 dX11_init_99 (fun h9 => hF _ h9) (by decide) kC_X11_61 ?_
  refine am_let_elim (P := fun p69 => am_Ev Z MX11_init 2 102 [(0, .ref a0)] [.ref p69, .ref a0] (am_new g67 1 15) (am_rv r)) h fun p69 h => ?_
  refine am_let_elim (P := fun g70 => am_Ev Z MX11_init 2 102 [(0, .ref a0)] [.ref p69, .ref a0] g70 (am_rv r)) h fun g70 h => ?_
  refine ev_dup dX11_init_102 rfl ?_
  refine ev_aload_n 0 dX11_init_103 rfl ?_
  obtain ⟨c71, h⟩ := am_gd_elim h
  refine am_oc_elim h (fun p72 e73 h => ?_) (fun _ h => nomatch h)
  refine ev_gf (v := .ref p72) dX11_init_104 (fun _ => am_sh c71) 0 (by decide) (by decide) kF_X11_14 (fun _ => congrArg va_rf e73) ?_
  refine ev_aload_n 0 dX11_init_107 rfl ?_
  obtain ⟨c74, h⟩ := am_gd_elim h
  refine am_oc_elim h (fun p75 e76 h => ?_) (fun _ h => nomatch h)
  refine ev_gf (v := .ref p75) dX11_init_108 (fun _ => am_sh c74) 4 (by decide) (by decide) kF_X11_41 (fun _ => congrArg va_rf e76) ?_
  obtain ⟨u77, g78, e79, h⟩ := am_bd_elim h
  refine ev_callI (as := [.ref p72, .ref p75]) (rest := [.ref p69, .ref a0]) dX11_init_111 (tX1_init hF hZ e79) (by decide) mo_X1_init kM_X11_63 ki_X1_init ⟨rfl, rfl⟩ (Nat.le_of_ble_eq_true rfl) ?_
  obtain ⟨c80, h⟩ := am_gd_elim h
  obtain ⟨c82, h⟩ := am_gd_elim h
  refine ev_pfr dX11_init_114 (fun _ => am_sh c80) 7 (by decide) (by decide) kF_X11_64 rfl ⟨rfl, rfl⟩ (hZ _ _ (of_decide_eq_true c82)) (fun _ => rfl) (fun _ => rfl) (fun _ => rfl) ?_
  refine am_let_elim (P := fun g81 => am_Ev Z MX11_init 2 117 [(0, .ref a0)] [] g81 (am_rv r)) h fun g81 h => ?_
  refine ev_aload_n 0 dX11_init_117 rfl ?_
  refine ev_new 7 dX11_init_118 (fun h9 => hF _ h9) (by decide) kC_X11_68 ?_
  refine am_let_elim (P := fun p83 => am_Ev Z MX11_init 2 121 [(0, .ref a0)] [.ref p83, .ref a0] (am_new g81 7 6) (am_rv r)) h fun p83 h => ?_
  refine am_let_elim (P := fun g84 => am_Ev Z MX11_init 2 121 [(0, .ref a0)] [.ref p83, .ref a0] g84 (am_rv r)) h fun g84 h => ?_
  refine ev_dup dX11_init_121 rfl ?_
  refine ev_aload_n 0 dX11_init_122 rfl ?_
  obtain ⟨c85, h⟩ := am_gd_elim h
  refine am_oc_elim h (fun p86 e87 h => ?_) (fun _ h => nomatch h)
  refine ev_gf (v := .ref p86) dX11_init_123 (fun _ => am_sh c85) 0 (by decide) (by decide) kF_X11_14 (fun _ => congrArg va_rf e87) ?_
  refine ev_aload_n 0 dX11_init_126 rfl ?_
  obtain ⟨c88, h⟩ := am_gd_elim h
  refine am_oc_elim h (fun p89 e90 h => ?_) (fun _ h => nomatch h)
  refine ev_gf (v := .ref p89) dX11_init_127 (fun _ => am_sh c88) 4 (by decide) (by decide) kF_X11_41 (fun _ => congrArg va_rf e90) ?_
  obtain ⟨u91, g92, e93, h⟩ := am_bd_elim h
  refine ev_callI (as := [.ref p86, .ref p89]) (rest := [.ref p83, .ref a0]) dX11_init_130 (tX7_init hF hZ e93) (by decide) mo_X7_init kM_X11_70 ki_X7_init ⟨rfl, rfl⟩ (Nat.le_of_ble_eq_true rfl) ?_
  obtain ⟨c94, h⟩ := am_gd_elim h
  obtain ⟨c96, h⟩ := am_gd_elim h
  refine ev_pfr dX11_init_133 (fun _ => am_sh c94) 8 (by decide) (by decide) kF_X11_71 rfl ⟨rfl, rfl⟩ (hZ _ _ (of_decide_eq_true c96)) (fun _ => rfl) (fun _ => rfl) (fun _ => rfl) ?_
  refine am_let_elim (P := fun g95 => am_Ev Z MX11_init 2 136 [(0, .ref a0)] [] g95 (am_rv r)) h fun g95 h => ?_
  refine ev_aload_n 0 dX11_init_136 rfl ?_
  refine ev_new 2 dX11_init_137 (fun h9 => hF _ h9) (by decide) kC_X11_75 ?_
  refine am_let_elim (P := fun p97 => am_Ev Z MX11_init 2 140 [(0, .ref a0)] [.ref p97, .ref a0] (am_new g95 2 8) (am_rv r)) h fun p97 h => ?_
  refine am_let_elim (P := fun g98 => am_Ev Z MX11_init 2 140 [(0, .ref a0)] [.ref p97, .ref a0] g98 (am_rv r)) h fun g98 h => ?_
  refine ev_dup dX11_init_140 rfl ?_
  obtain ⟨u99, g100, e101, h⟩ := am_bd_elim h
  refine ev_callIN (as := []) (rest := [.ref p97, .ref a0]) dX11_init_141 (tX2_init hF hZ e101) (by decide) mo_X2_init kN_X11_77 ki_X2_init ⟨rfl, rfl⟩ (Nat.le_of_ble_eq_true rfl) ?_
  obtain ⟨c102, h⟩ := am_gd_elim h
  obtain ⟨c104, h⟩ := am_gd_elim h
  refine ev_pfr dX11_init_144 (fun _ => am_sh c102) 9 (by decide) (by decide) kF_X11_78 rfl ⟨rfl, rfl⟩ (hZ _ _ (of_decide_eq_true c104)) (fun _ => rfl) (fun _ => rfl) (fun _ => rfl) ?_
  refine am_let_elim (P := fun g103 => am_Ev Z MX11_init 2 147 [(0, .ref a0)] [] g103 (am_rv r)) h fun g103 h => ?_
  refine ev_aload_n 0 dX11_init_147 rfl ?_
  refine ev_new 2 dX11_init_148 (fun h9 => hF _ h9) (by decide) kC_X11_75 ?_
  refine am_let_elim (P := fun p105 => am_Ev Z MX11_init 2 151 [(0, .ref a0)] [.ref p105, .ref a0] (am_new g103 2 8) (am_rv r)) h fun p105 h => ?_
  refine am_let_elim (P := fun g106 => am_Ev Z MX11_init 2 151 [(0, .ref a0)] [.ref p105, .ref a0] g106 (am_rv r)) h fun g106 h => ?_
  refine ev_dup dX11_init_151 rfl ?_
  obtain ⟨u107, g108, e109, h⟩ := am_bd_elim h
  refine ev_callIN (as := []) (rest := [.ref p105, .ref a0]) dX11_init_152 (tX2_init hF hZ e109) (by decide) mo_X2_init kN_X11_77 ki_X2_init ⟨rfl, rfl⟩ (Nat.le_of_ble_eq_true rfl) ?_
  obtain ⟨c110, h⟩ := am_gd_elim h
  obtain ⟨c112, h⟩ := am_gd_elim h
  refine ev_pfr dX11_init_155 (fun _ => am_sh c110) 10 (by decide) (by decide) kF_X11_82 rfl ⟨rfl, rfl⟩ (hZ _ _ (of_decide_eq_true c112)) (fun _ => rfl) (fun _ => rfl) (fun _ => rfl) ?_
  refine am_let_elim (P := fun g111 => am_Ev Z MX11_init 2 158 [(0, .ref a0)] [] g111 (am_rv r)) h fun g111 h => ?_
  refine ev_aload_n 0 dX11_init_158 rfl ?_
  refine ev_bipush dX11_init_159 rfl ?_
  refine ev_newa 20 7 dX11_init_161 (fun h9 => hF _ h9) (by decide) (by decide) kA_int (by decide) rfl (by decide) ?_
  refine am_let_elim (P := fun p113 => am_Ev Z MX11_init 2 163 [(0, .ref a0)] [.ref p113, .ref a0] (am_new g111 20 7) (am_rv r)) h fun p113 h => ?_
  refine am_let_elim (P := fun g114 => am_Ev Z MX11_init 2 163 [(0, .ref a0)] [.ref p113, .ref a0] g114 (am_rv r)) h fun g114 h => ?_
  obtain ⟨c115, h⟩ := am_gd_elim h
  obtain ⟨c117, h⟩ := am_gd_elim h
  refine ev_pfr dX11_init_163 (fun _ => am_sh c115) 11 (by decide) (by decide) kF_X11_85 rfl ⟨rfl, rfl⟩ (hZ _ _ (of_decide_eq_true c117)) (fun _ => rfl) (fun _ => rfl) (fun _ => rfl) ?_
  refine am_let_elim (P := fun g116 => am_Ev Z MX11_init 2 166 [(0, .ref a0)] [] g116 (am_rv r)) h fun g116 h => ?_
  refine ev_aload_n 0 dX11_init_166 rfl ?_
  refine ev_bipush dX11_init_167 rfl ?_
  refine ev_newa 20 16 dX11_init_169 (fun h9 => hF _ h9) (by decide) (by decide) kA_int (by decide) rfl (by decide) ?_
  refine am_let_elim (P := fun p118 => am_Ev Z MX11_init 2 171 [(0, .ref a0)] [.ref p118, .ref a0] (am_new g116 20 16) (am_rv r)) h fun p118 h => ?_
  refine am_let_elim (P := fun g119 => am_Ev Z MX11_init 2 171 [(0, .ref a0)] [.ref p118, .ref a0] g119 (am_rv r)) h fun g119 h => ?_
  obtain ⟨c120, h⟩ := am_gd_elim h
  obtain ⟨c122, h⟩ := am_gd_elim h
  refine ev_pfr dX11_init_171 (fun _ => am_sh c120) 12 (by decide) (by decide) kF_X11_89 rfl ⟨rfl, rfl⟩ (hZ _ _ (of_decide_eq_true c122)) (fun _ => rfl) (fun _ => rfl) (fun _ => rfl) ?_
  refine am_let_elim (P := fun g121 => am_Ev Z MX11_init 2 174 [(0, .ref a0)] [] g121 (am_rv r)) h fun g121 h => ?_
  refine ev_aload_n 0 dX11_init_174 rfl ?_
  refine ev_iconst dX11_init_175 rfl ?_
  obtain ⟨c123, h⟩ := am_gd_elim h
  refine ev_pfi dX11_init_176 (fun _ => am_sh c123) 15 (by decide) (by decide) kF_X11_92 rfl rfl rfl (fun _ => rfl) ?_
  refine am_let_elim (P := fun g124 => am_Ev Z MX11_init 2 179 [(0, .ref a0)] [] g124 (am_rv r)) h fun g124 h => ?_
  cases h
  exact ev_ret dX11_init_179 rfl
theorem tX11_init {Z : am_Z} {fx : Nat} (hF : ∀ g : am_G, am_ok Z g → ∀ k, Z.2 (am_n g) k = none) (hZ : ∀ a k, fx ≤ a → Z.2 a k = none) {a0 : Nat} {g : am_G} {r : Unit × am_G} (h : fX11_init fx a0 g = some r) : am_Mt Z MX11_init 2 [.ref a0] g (am_rv r) := am_Mt.of rfl (Nat.le_of_ble_eq_true rfl) (eX11_init hF hZ _ _ _ h)
def fX11_canPut (a0 : Int32) (a1 : Int32) (a2 : Int32) (g : am_G) : Option (Int32 × am_G) :=
  if a1 = (0 : Int32) then (
    am_bd (fX11_within a2 (0 : Int32) (9999 : Int32) g) fun v1 g2 =>
    am_gd (am_zb v1) <|
    some (v1, g2))
  else
  if a1 = (1 : Int32) then (
    am_bd (fX11_within a2 (1 : Int32) (9999 : Int32) g) fun v5 g6 =>
    am_gd (am_zb v5) <|
    some (v5, g6))
  else
  if a1 = (2 : Int32) then (
    if a2 = (-1 : Int32) then (
      some ((1 : Int32), g))
    else (
      am_bd (fX11_within a2 (a0 + (1 : Int32)) (5 : Int32) g) fun v10 g11 =>
      if v10 = 0 then (
        some ((0 : Int32), g11))
      else (
        some ((1 : Int32), g11))))
  else
  if a1 = (3 : Int32) then (
    am_bd (fX11_within a2 (0 : Int32) (1 : Int32) g) fun v14 g15 =>
    am_gd (am_zb v14) <|
    some (v14, g15))
  else (
    am_bd (fX11_within a1 (4 : Int32) (7 : Int32) g) fun v18 g19 =>
    if v18 = 0 then (
      some ((0 : Int32), g19))
    else (
      am_bd (fX11_within a2 (0 : Int32) (9 : Int32) g19) fun v22 g23 =>
      if v22 = 0 then (
        some ((0 : Int32), g23))
      else (
        some ((1 : Int32), g23))))
set_option maxRecDepth 100000 in
set_option maxHeartbeats 4000000 in
theorem eX11_canPut (a0 : Int32) (a1 : Int32) (a2 : Int32) (g : am_G) (r : Int32 × am_G) (h : fX11_canPut a0 a1 a2 g = some r) : am_Ev zc MX11_canPut 1 0 [(0, .int a0), (1, .int a1), (2, .int a2)] [] g (am_ri r) := by
  unfold fX11_canPut at h
  refine ev_iload_n 1 dX11_canPut_0 rfl ?_
  by_cases c26 : a1 = (0 : Int32)
  · replace h := am_ifp c26 h
    refine ev_tableIn 32 dX11_canPut_1 (by rw [c26]; decide) (by rw [c26]; decide) (by rw [c26]; rfl) (by decide) ?_
    refine ev_iload_n 2 dX11_canPut_32 rfl ?_
    refine ev_iconst dX11_canPut_33 rfl ?_
    refine ev_sipush dX11_canPut_34 rfl ?_
    obtain ⟨v1, g2, e3, h⟩ := am_bd_elim h
    refine ev_callSi (v := v1) [.int a2, .int (0 : Int32), .int (9999 : Int32)] [] dX11_canPut_37 (tX11_within e3) (by decide) mo_X11_within kM_X11_136 ks_X11_within (Nat.le_of_ble_eq_true rfl) ?_
    obtain ⟨c4, h⟩ := am_gd_elim h
    cases h
    exact ev_zret dX11_canPut_40 rfl (am_zb_n c4)
  replace h := am_ifn c26 h
  by_cases c27 : a1 = (1 : Int32)
  · replace h := am_ifp c27 h
    refine ev_tableIn 41 dX11_canPut_1 (by rw [c27]; decide) (by rw [c27]; decide) (by rw [c27]; rfl) (by decide) ?_
    refine ev_iload_n 2 dX11_canPut_41 rfl ?_
    refine ev_iconst dX11_canPut_42 rfl ?_
    refine ev_sipush dX11_canPut_43 rfl ?_
    obtain ⟨v5, g6, e7, h⟩ := am_bd_elim h
    refine ev_callSi (v := v5) [.int a2, .int (1 : Int32), .int (9999 : Int32)] [] dX11_canPut_46 (tX11_within e7) (by decide) mo_X11_within kM_X11_136 ks_X11_within (Nat.le_of_ble_eq_true rfl) ?_
    obtain ⟨c8, h⟩ := am_gd_elim h
    cases h
    exact ev_zret dX11_canPut_49 rfl (am_zb_n c8)
  replace h := am_ifn c27 h
  by_cases c28 : a1 = (2 : Int32)
  · replace h := am_ifp c28 h
    refine ev_tableIn 50 dX11_canPut_1 (by rw [c28]; decide) (by rw [c28]; decide) (by rw [c28]; rfl) (by decide) ?_
    refine ev_iload_n 2 dX11_canPut_50 rfl ?_
    refine ev_iconst dX11_canPut_51 rfl ?_
    refine ev_icmp_eq 66 dX11_canPut_52 (by decide) (fun c9 => ?_) (fun c9 => ?_)
    · replace h := am_ifp c9 h
      refine ev_iconst dX11_canPut_66 rfl ?_
      refine ev_goto 71 dX11_canPut_67 (by decide) ?_
      cases h
      exact ev_zret dX11_canPut_71 rfl rfl
    · replace h := am_ifn c9 h
      refine ev_iload_n 2 dX11_canPut_55 rfl ?_
      refine ev_iload_n 0 dX11_canPut_56 rfl ?_
      refine ev_iconst dX11_canPut_57 rfl ?_
      refine ev_iadd dX11_canPut_58 ?_
      refine ev_iconst dX11_canPut_59 rfl ?_
      obtain ⟨v10, g11, e12, h⟩ := am_bd_elim h
      refine ev_callSi (v := v10) [.int a2, .int (a0 + (1 : Int32)), .int (5 : Int32)] [] dX11_canPut_60 (tX11_within e12) (by decide) mo_X11_within kM_X11_136 ks_X11_within (Nat.le_of_ble_eq_true rfl) ?_
      refine ev_if_eq 70 dX11_canPut_63 (by decide) (fun c13 => ?_) (fun c13 => ?_)
      · replace h := am_ifp c13 h
        refine ev_iconst dX11_canPut_70 rfl ?_
        cases h
        exact ev_zret dX11_canPut_71 rfl rfl
      · replace h := am_ifn c13 h
        refine ev_iconst dX11_canPut_66 rfl ?_
        refine ev_goto 71 dX11_canPut_67 (by decide) ?_
        cases h
        exact ev_zret dX11_canPut_71 rfl rfl
  replace h := am_ifn c28 h
  by_cases c29 : a1 = (3 : Int32)
  · replace h := am_ifp c29 h
    refine ev_tableIn 72 dX11_canPut_1 (by rw [c29]; decide) (by rw [c29]; decide) (by rw [c29]; rfl) (by decide) ?_
    refine ev_iload_n 2 dX11_canPut_72 rfl ?_
    refine ev_iconst dX11_canPut_73 rfl ?_
    refine ev_iconst dX11_canPut_74 rfl ?_
    obtain ⟨v14, g15, e16, h⟩ := am_bd_elim h
    refine ev_callSi (v := v14) [.int a2, .int (0 : Int32), .int (1 : Int32)] [] dX11_canPut_75 (tX11_within e16) (by decide) mo_X11_within kM_X11_136 ks_X11_within (Nat.le_of_ble_eq_true rfl) ?_
    obtain ⟨c17, h⟩ := am_gd_elim h
    cases h
    exact ev_zret dX11_canPut_78 rfl (am_zb_n c17)
  replace h := am_ifn c29 h
  refine ev_tableOut 79 dX11_canPut_1 (by have z0 := am_ti c26 (k := 0) (by decide); have z1 := am_ti c27 (k := 1) (by decide); have z2 := am_ti c28 (k := 2) (by decide); have z3 := am_ti c29 (k := 3) (by decide); omega) (by decide) ?_
  refine ev_iload_n 1 dX11_canPut_79 rfl ?_
  refine ev_iconst dX11_canPut_80 rfl ?_
  refine ev_bipush dX11_canPut_81 rfl ?_
  obtain ⟨v18, g19, e20, h⟩ := am_bd_elim h
  refine ev_callSi (v := v18) [.int a1, .int (4 : Int32), .int (7 : Int32)] [] dX11_canPut_83 (tX11_within e20) (by decide) mo_X11_within kM_X11_136 ks_X11_within (Nat.le_of_ble_eq_true rfl) ?_
  refine ev_if_eq 103 dX11_canPut_86 (by decide) (fun c21 => ?_) (fun c21 => ?_)
  · replace h := am_ifp c21 h
    refine ev_iconst dX11_canPut_103 rfl ?_
    cases h
    exact ev_zret dX11_canPut_104 rfl rfl
  · replace h := am_ifn c21 h
    refine ev_iload_n 2 dX11_canPut_89 rfl ?_
    refine ev_iconst dX11_canPut_90 rfl ?_
    refine ev_bipush dX11_canPut_91 rfl ?_
    obtain ⟨v22, g23, e24, h⟩ := am_bd_elim h
    refine ev_callSi (v := v22) [.int a2, .int (0 : Int32), .int (9 : Int32)] [] dX11_canPut_93 (tX11_within e24) (by decide) mo_X11_within kM_X11_136 ks_X11_within (Nat.le_of_ble_eq_true rfl) ?_
    refine ev_if_eq 103 dX11_canPut_96 (by decide) (fun c25 => ?_) (fun c25 => ?_)
    · replace h := am_ifp c25 h
      refine ev_iconst dX11_canPut_103 rfl ?_
      cases h
      exact ev_zret dX11_canPut_104 rfl rfl
    · replace h := am_ifn c25 h
      refine ev_iconst dX11_canPut_99 rfl ?_
      refine ev_goto 104 dX11_canPut_100 (by decide) ?_
      cases h
      exact ev_zret dX11_canPut_104 rfl rfl
theorem tX11_canPut {a0 : Int32} {a1 : Int32} {a2 : Int32} {g : am_G} {r : Int32 × am_G} (h : fX11_canPut a0 a1 a2 g = some r) : am_Mt zc MX11_canPut 1 [.int a0, .int a1, .int a2] g (am_ri r) := am_Mt.of rfl (Nat.le_of_ble_eq_true rfl) (eX11_canPut _ _ _ _ _ h)
def fX11_refused (a1 : Int32) (g : am_G) : Option (Int32 × am_G) :=
  am_let (am_si g 0 16 a1) fun g1 =>
  am_gd (am_in (-a1) 7) <|
  am_gd (am_in (-a1) 7) <|
  am_let (am_si g1 77 (-a1).toNatClampNeg ((am_I g1 77 (-a1).toNatClampNeg) + (1 : Int32))) fun g4 =>
  some (a1, g4)
set_option maxRecDepth 100000 in
set_option maxHeartbeats 4000000 in
theorem eX11_refused (a1 : Int32) (g : am_G) (r : Int32 × am_G) (h : fX11_refused a1 g = some r) : am_Ev zc MX11_refused 0 0 [(0, .ref 0), (1, .int a1)] [] g (am_ri r) := by
  unfold fX11_refused at h
  refine ev_aload_n 0 dX11_refused_0 rfl ?_
  refine ev_iload_n 1 dX11_refused_1 rfl ?_
  refine ev_pfi dX11_refused_2 (fun h9 => (h9.2.1 0 _ rfl).2) 16 (by decide) (by decide) kF_X11_456 rfl rfl rfl (fun _ => rfl) ?_
  refine am_let_elim (P := fun g1 => am_Ev zc MX11_refused 0 5 [(0, .ref 0), (1, .int a1)] [] g1 (am_ri r)) h fun g1 h => ?_
  refine ev_aload_n 0 dX11_refused_5 rfl ?_
  refine ev_gf (v := .ref 77) dX11_refused_6 (fun h9 => (h9.2.1 0 _ rfl).2) 11 (by decide) (by decide) kF_X11_85 (fun h9 => congrArg va_rf (h9.2.2 0 11 77 rfl)) ?_
  refine ev_iload_n 1 dX11_refused_9 rfl ?_
  refine ev_ineg dX11_refused_10 ?_
  refine ev_dup2 dX11_refused_11 rfl rfl ?_
  obtain ⟨c2, h⟩ := am_gd_elim h
  refine ev_iald dX11_refused_12 (fun h9 => (h9.2.1 77 _ rfl).2) (am_in_vp c2) ?_
  refine ev_iconst dX11_refused_13 rfl ?_
  refine ev_iadd dX11_refused_14 ?_
  obtain ⟨c3, h⟩ := am_gd_elim h
  refine ev_iast dX11_refused_15 (fun h9 => (h9.2.1 77 _ rfl).2) (am_in_vp c3) ?_
  refine am_let_elim (P := fun g4 => am_Ev zc MX11_refused 0 16 [(0, .ref 0), (1, .int a1)] [] g4 (am_ri r)) h fun g4 h => ?_
  refine ev_iload_n 1 dX11_refused_16 rfl ?_
  cases h
  exact ev_iret dX11_refused_17 rfl
theorem tX11_refused {a1 : Int32} {g : am_G} {r : Int32 × am_G} (h : fX11_refused a1 g = some r) : am_Mt zc MX11_refused 0 [.ref 0, .int a1] g (am_ri r) := am_Mt.of rfl (Nat.le_of_ble_eq_true rfl) (eX11_refused _ _ _ h)
def fX11_ofSlope (a1 : Int32) (a2 : Int32) (g : am_G) : Option (Int32 × am_G) :=
  if a2 = (0 : Int32) then (
    am_gd (am_in a1 6) <|
    some (am_I g 3 a1.toNatClampNeg, g))
  else
  if a2 = (1 : Int32) then (
    am_gd (am_in a1 6) <|
    some (am_I g 8 a1.toNatClampNeg, g))
  else
  if a2 = (2 : Int32) then (
    am_gd (am_in a1 6) <|
    some (am_I g 9 a1.toNatClampNeg, g))
  else
  if a2 = (3 : Int32) then (
    am_gd (am_in a1 6) <|
    some (am_I g 10 a1.toNatClampNeg, g))
  else
  if a2 = (8 : Int32) then (
    am_gd (am_in a1 6) <|
    some (am_I g 4 a1.toNatClampNeg, g))
  else
  if a2 = (9 : Int32) then (
    am_gd (am_in a1 6) <|
    some (am_I g 7 a1.toNatClampNeg, g))
  else (
    am_gd (am_in (((a1 * (4 : Int32)) + a2) - (4 : Int32)) 24) <|
    some (am_I g 11 (((a1 * (4 : Int32)) + a2) - (4 : Int32)).toNatClampNeg, g))
set_option maxRecDepth 100000 in
set_option maxHeartbeats 4000000 in
theorem eX11_ofSlope (a1 : Int32) (a2 : Int32) (g : am_G) (r : Int32 × am_G) (h : fX11_ofSlope a1 a2 g = some r) : am_Ev zc MX11_ofSlope 0 0 [(0, .ref 0), (1, .int a1), (2, .int a2)] [] g (am_ri r) := by
  unfold fX11_ofSlope at h
  refine ev_iload_n 2 dX11_ofSlope_0 rfl ?_
  by_cases c8 : a2 = (0 : Int32)
  · replace h := am_ifp c8 h
    refine ev_tableIn 56 dX11_ofSlope_1 (by rw [c8]; decide) (by rw [c8]; decide) (by rw [c8]; rfl) (by decide) ?_
    refine ev_aload_n 0 dX11_ofSlope_56 rfl ?_
    refine ev_gf (v := .ref 1) dX11_ofSlope_57 (fun h9 => (h9.2.1 0 _ rfl).2) 0 (by decide) (by decide) kF_X11_14 (fun h9 => congrArg va_rf (h9.2.2 0 0 1 rfl)) ?_
    refine ev_gf (v := .ref 2) dX11_ofSlope_60 (fun h9 => (h9.2.1 1 _ rfl).2) 0 (by decide) (by decide) kF_X11_112 (fun h9 => congrArg va_rf (h9.2.2 1 0 2 rfl)) ?_
    refine ev_gf (v := .ref 3) dX11_ofSlope_63 (fun h9 => (h9.2.1 2 _ rfl).2) 0 (by decide) (by decide) kF_X11_115 (fun h9 => congrArg va_rf (h9.2.2 2 0 3 rfl)) ?_
    refine ev_iload_n 1 dX11_ofSlope_66 rfl ?_
    obtain ⟨c1, h⟩ := am_gd_elim h
    refine ev_iald dX11_ofSlope_67 (fun h9 => (h9.2.1 3 _ rfl).2) (am_in_vp c1) ?_
    cases h
    exact ev_iret dX11_ofSlope_68 rfl
  replace h := am_ifn c8 h
  by_cases c9 : a2 = (1 : Int32)
  · replace h := am_ifp c9 h
    refine ev_tableIn 69 dX11_ofSlope_1 (by rw [c9]; decide) (by rw [c9]; decide) (by rw [c9]; rfl) (by decide) ?_
    refine ev_aload_n 0 dX11_ofSlope_69 rfl ?_
    refine ev_gf (v := .ref 1) dX11_ofSlope_70 (fun h9 => (h9.2.1 0 _ rfl).2) 0 (by decide) (by decide) kF_X11_14 (fun h9 => congrArg va_rf (h9.2.2 0 0 1 rfl)) ?_
    refine ev_gf (v := .ref 8) dX11_ofSlope_73 (fun h9 => (h9.2.1 1 _ rfl).2) 1 (by decide) (by decide) kF_X11_118 (fun h9 => congrArg va_rf (h9.2.2 1 1 8 rfl)) ?_
    refine ev_iload_n 1 dX11_ofSlope_76 rfl ?_
    obtain ⟨c2, h⟩ := am_gd_elim h
    refine ev_iald dX11_ofSlope_77 (fun h9 => (h9.2.1 8 _ rfl).2) (am_in_vp c2) ?_
    cases h
    exact ev_iret dX11_ofSlope_78 rfl
  replace h := am_ifn c9 h
  by_cases c10 : a2 = (2 : Int32)
  · replace h := am_ifp c10 h
    refine ev_tableIn 79 dX11_ofSlope_1 (by rw [c10]; decide) (by rw [c10]; decide) (by rw [c10]; rfl) (by decide) ?_
    refine ev_aload_n 0 dX11_ofSlope_79 rfl ?_
    refine ev_gf (v := .ref 1) dX11_ofSlope_80 (fun h9 => (h9.2.1 0 _ rfl).2) 0 (by decide) (by decide) kF_X11_14 (fun h9 => congrArg va_rf (h9.2.2 0 0 1 rfl)) ?_
    refine ev_gf (v := .ref 9) dX11_ofSlope_83 (fun h9 => (h9.2.1 1 _ rfl).2) 2 (by decide) (by decide) kF_X11_121 (fun h9 => congrArg va_rf (h9.2.2 1 2 9 rfl)) ?_
    refine ev_iload_n 1 dX11_ofSlope_86 rfl ?_
    obtain ⟨c3, h⟩ := am_gd_elim h
    refine ev_iald dX11_ofSlope_87 (fun h9 => (h9.2.1 9 _ rfl).2) (am_in_vp c3) ?_
    cases h
    exact ev_iret dX11_ofSlope_88 rfl
  replace h := am_ifn c10 h
  by_cases c11 : a2 = (3 : Int32)
  · replace h := am_ifp c11 h
    refine ev_tableIn 89 dX11_ofSlope_1 (by rw [c11]; decide) (by rw [c11]; decide) (by rw [c11]; rfl) (by decide) ?_
    refine ev_aload_n 0 dX11_ofSlope_89 rfl ?_
    refine ev_gf (v := .ref 1) dX11_ofSlope_90 (fun h9 => (h9.2.1 0 _ rfl).2) 0 (by decide) (by decide) kF_X11_14 (fun h9 => congrArg va_rf (h9.2.2 0 0 1 rfl)) ?_
    refine ev_gf (v := .ref 10) dX11_ofSlope_93 (fun h9 => (h9.2.1 1 _ rfl).2) 3 (by decide) (by decide) kF_X11_124 (fun h9 => congrArg va_rf (h9.2.2 1 3 10 rfl)) ?_
    refine ev_iload_n 1 dX11_ofSlope_96 rfl ?_
    obtain ⟨c4, h⟩ := am_gd_elim h
    refine ev_iald dX11_ofSlope_97 (fun h9 => (h9.2.1 10 _ rfl).2) (am_in_vp c4) ?_
    cases h
    exact ev_iret dX11_ofSlope_98 rfl
  replace h := am_ifn c11 h
  by_cases c12 : a2 = (8 : Int32)
  · replace h := am_ifp c12 h
    refine ev_tableIn 99 dX11_ofSlope_1 (by rw [c12]; decide) (by rw [c12]; decide) (by rw [c12]; rfl) (by decide) ?_
    refine ev_aload_n 0 dX11_ofSlope_99 rfl ?_
    refine ev_gf (v := .ref 1) dX11_ofSlope_100 (fun h9 => (h9.2.1 0 _ rfl).2) 0 (by decide) (by decide) kF_X11_14 (fun h9 => congrArg va_rf (h9.2.2 0 0 1 rfl)) ?_
    refine ev_gf (v := .ref 2) dX11_ofSlope_103 (fun h9 => (h9.2.1 1 _ rfl).2) 0 (by decide) (by decide) kF_X11_112 (fun h9 => congrArg va_rf (h9.2.2 1 0 2 rfl)) ?_
    refine ev_gf (v := .ref 4) dX11_ofSlope_106 (fun h9 => (h9.2.1 2 _ rfl).2) 1 (by decide) (by decide) kF_X11_139 (fun h9 => congrArg va_rf (h9.2.2 2 1 4 rfl)) ?_
    refine ev_iload_n 1 dX11_ofSlope_109 rfl ?_
    obtain ⟨c5, h⟩ := am_gd_elim h
    refine ev_iald dX11_ofSlope_110 (fun h9 => (h9.2.1 4 _ rfl).2) (am_in_vp c5) ?_
    cases h
    exact ev_iret dX11_ofSlope_111 rfl
  replace h := am_ifn c12 h
  by_cases c13 : a2 = (9 : Int32)
  · replace h := am_ifp c13 h
    refine ev_tableIn 112 dX11_ofSlope_1 (by rw [c13]; decide) (by rw [c13]; decide) (by rw [c13]; rfl) (by decide) ?_
    refine ev_aload_n 0 dX11_ofSlope_112 rfl ?_
    refine ev_gf (v := .ref 1) dX11_ofSlope_113 (fun h9 => (h9.2.1 0 _ rfl).2) 0 (by decide) (by decide) kF_X11_14 (fun h9 => congrArg va_rf (h9.2.2 0 0 1 rfl)) ?_
    refine ev_gf (v := .ref 2) dX11_ofSlope_116 (fun h9 => (h9.2.1 1 _ rfl).2) 0 (by decide) (by decide) kF_X11_112 (fun h9 => congrArg va_rf (h9.2.2 1 0 2 rfl)) ?_
    refine ev_gf (v := .ref 7) dX11_ofSlope_119 (fun h9 => (h9.2.1 2 _ rfl).2) 4 (by decide) (by decide) kF_X11_142 (fun h9 => congrArg va_rf (h9.2.2 2 4 7 rfl)) ?_
    refine ev_iload_n 1 dX11_ofSlope_122 rfl ?_
    obtain ⟨c6, h⟩ := am_gd_elim h
    refine ev_iald dX11_ofSlope_123 (fun h9 => (h9.2.1 7 _ rfl).2) (am_in_vp c6) ?_
    cases h
    exact ev_iret dX11_ofSlope_124 rfl
  replace h := am_ifn c13 h
  by_cases c14 : a2 = (4 : Int32)
  · refine ev_tableIn 125 dX11_ofSlope_1 (by rw [c14]; decide) (by rw [c14]; decide) (by rw [c14]; rfl) (by decide) ?_
    refine ev_aload_n 0 dX11_ofSlope_125 rfl ?_
    refine ev_gf (v := .ref 1) dX11_ofSlope_126 (fun h9 => (h9.2.1 0 _ rfl).2) 0 (by decide) (by decide) kF_X11_14 (fun h9 => congrArg va_rf (h9.2.2 0 0 1 rfl)) ?_
    refine ev_gf (v := .ref 11) dX11_ofSlope_129 (fun h9 => (h9.2.1 1 _ rfl).2) 4 (by decide) (by decide) kF_X11_127 (fun h9 => congrArg va_rf (h9.2.2 1 4 11 rfl)) ?_
    refine ev_iload_n 1 dX11_ofSlope_132 rfl ?_
    refine ev_iconst dX11_ofSlope_133 rfl ?_
    refine ev_imul dX11_ofSlope_134 ?_
    refine ev_iload_n 2 dX11_ofSlope_135 rfl ?_
    refine ev_iadd dX11_ofSlope_136 ?_
    refine ev_iconst dX11_ofSlope_137 rfl ?_
    refine ev_isub dX11_ofSlope_138 ?_
    obtain ⟨c7, h⟩ := am_gd_elim h
    refine ev_iald dX11_ofSlope_139 (fun h9 => (h9.2.1 11 _ rfl).2) (am_in_vp c7) ?_
    cases h
    exact ev_iret dX11_ofSlope_140 rfl
  by_cases c15 : a2 = (5 : Int32)
  · refine ev_tableIn 125 dX11_ofSlope_1 (by rw [c15]; decide) (by rw [c15]; decide) (by rw [c15]; rfl) (by decide) ?_
    refine ev_aload_n 0 dX11_ofSlope_125 rfl ?_
    refine ev_gf (v := .ref 1) dX11_ofSlope_126 (fun h9 => (h9.2.1 0 _ rfl).2) 0 (by decide) (by decide) kF_X11_14 (fun h9 => congrArg va_rf (h9.2.2 0 0 1 rfl)) ?_
    refine ev_gf (v := .ref 11) dX11_ofSlope_129 (fun h9 => (h9.2.1 1 _ rfl).2) 4 (by decide) (by decide) kF_X11_127 (fun h9 => congrArg va_rf (h9.2.2 1 4 11 rfl)) ?_
    refine ev_iload_n 1 dX11_ofSlope_132 rfl ?_
    refine ev_iconst dX11_ofSlope_133 rfl ?_
    refine ev_imul dX11_ofSlope_134 ?_
    refine ev_iload_n 2 dX11_ofSlope_135 rfl ?_
    refine ev_iadd dX11_ofSlope_136 ?_
    refine ev_iconst dX11_ofSlope_137 rfl ?_
    refine ev_isub dX11_ofSlope_138 ?_
    obtain ⟨c7, h⟩ := am_gd_elim h
    refine ev_iald dX11_ofSlope_139 (fun h9 => (h9.2.1 11 _ rfl).2) (am_in_vp c7) ?_
    cases h
    exact ev_iret dX11_ofSlope_140 rfl
  by_cases c16 : a2 = (6 : Int32)
  · refine ev_tableIn 125 dX11_ofSlope_1 (by rw [c16]; decide) (by rw [c16]; decide) (by rw [c16]; rfl) (by decide) ?_
    refine ev_aload_n 0 dX11_ofSlope_125 rfl ?_
    refine ev_gf (v := .ref 1) dX11_ofSlope_126 (fun h9 => (h9.2.1 0 _ rfl).2) 0 (by decide) (by decide) kF_X11_14 (fun h9 => congrArg va_rf (h9.2.2 0 0 1 rfl)) ?_
    refine ev_gf (v := .ref 11) dX11_ofSlope_129 (fun h9 => (h9.2.1 1 _ rfl).2) 4 (by decide) (by decide) kF_X11_127 (fun h9 => congrArg va_rf (h9.2.2 1 4 11 rfl)) ?_
    refine ev_iload_n 1 dX11_ofSlope_132 rfl ?_
    refine ev_iconst dX11_ofSlope_133 rfl ?_
    refine ev_imul dX11_ofSlope_134 ?_
    refine ev_iload_n 2 dX11_ofSlope_135 rfl ?_
    refine ev_iadd dX11_ofSlope_136 ?_
    refine ev_iconst dX11_ofSlope_137 rfl ?_
    refine ev_isub dX11_ofSlope_138 ?_
    obtain ⟨c7, h⟩ := am_gd_elim h
    refine ev_iald dX11_ofSlope_139 (fun h9 => (h9.2.1 11 _ rfl).2) (am_in_vp c7) ?_
    cases h
    exact ev_iret dX11_ofSlope_140 rfl
  by_cases c17 : a2 = (7 : Int32)
  · refine ev_tableIn 125 dX11_ofSlope_1 (by rw [c17]; decide) (by rw [c17]; decide) (by rw [c17]; rfl) (by decide) ?_
    refine ev_aload_n 0 dX11_ofSlope_125 rfl ?_
    refine ev_gf (v := .ref 1) dX11_ofSlope_126 (fun h9 => (h9.2.1 0 _ rfl).2) 0 (by decide) (by decide) kF_X11_14 (fun h9 => congrArg va_rf (h9.2.2 0 0 1 rfl)) ?_
    refine ev_gf (v := .ref 11) dX11_ofSlope_129 (fun h9 => (h9.2.1 1 _ rfl).2) 4 (by decide) (by decide) kF_X11_127 (fun h9 => congrArg va_rf (h9.2.2 1 4 11 rfl)) ?_
    refine ev_iload_n 1 dX11_ofSlope_132 rfl ?_
    refine ev_iconst dX11_ofSlope_133 rfl ?_
    refine ev_imul dX11_ofSlope_134 ?_
    refine ev_iload_n 2 dX11_ofSlope_135 rfl ?_
    refine ev_iadd dX11_ofSlope_136 ?_
    refine ev_iconst dX11_ofSlope_137 rfl ?_
    refine ev_isub dX11_ofSlope_138 ?_
    obtain ⟨c7, h⟩ := am_gd_elim h
    refine ev_iald dX11_ofSlope_139 (fun h9 => (h9.2.1 11 _ rfl).2) (am_in_vp c7) ?_
    cases h
    exact ev_iret dX11_ofSlope_140 rfl
  refine ev_tableOut 125 dX11_ofSlope_1 (by have z0 := am_ti c8 (k := 0) (by decide); have z1 := am_ti c9 (k := 1) (by decide); have z2 := am_ti c10 (k := 2) (by decide); have z3 := am_ti c11 (k := 3) (by decide); have z4 := am_ti c12 (k := 8) (by decide); have z5 := am_ti c13 (k := 9) (by decide); have z6 := am_ti c14 (k := 4) (by decide); have z7 := am_ti c15 (k := 5) (by decide); have z8 := am_ti c16 (k := 6) (by decide); have z9 := am_ti c17 (k := 7) (by decide); omega) (by decide) ?_
  refine ev_aload_n 0 dX11_ofSlope_125 rfl ?_
  refine ev_gf (v := .ref 1) dX11_ofSlope_126 (fun h9 => (h9.2.1 0 _ rfl).2) 0 (by decide) (by decide) kF_X11_14 (fun h9 => congrArg va_rf (h9.2.2 0 0 1 rfl)) ?_
  refine ev_gf (v := .ref 11) dX11_ofSlope_129 (fun h9 => (h9.2.1 1 _ rfl).2) 4 (by decide) (by decide) kF_X11_127 (fun h9 => congrArg va_rf (h9.2.2 1 4 11 rfl)) ?_
  refine ev_iload_n 1 dX11_ofSlope_132 rfl ?_
  refine ev_iconst dX11_ofSlope_133 rfl ?_
  refine ev_imul dX11_ofSlope_134 ?_
  refine ev_iload_n 2 dX11_ofSlope_135 rfl ?_
  refine ev_iadd dX11_ofSlope_136 ?_
  refine ev_iconst dX11_ofSlope_137 rfl ?_
  refine ev_isub dX11_ofSlope_138 ?_
  obtain ⟨c7, h⟩ := am_gd_elim h
  refine ev_iald dX11_ofSlope_139 (fun h9 => (h9.2.1 11 _ rfl).2) (am_in_vp c7) ?_
  cases h
  exact ev_iret dX11_ofSlope_140 rfl
theorem tX11_ofSlope {a1 : Int32} {a2 : Int32} {g : am_G} {r : Int32 × am_G} (h : fX11_ofSlope a1 a2 g = some r) : am_Mt zc MX11_ofSlope 0 [.ref 0, .int a1, .int a2] g (am_ri r) := am_Mt.of rfl (Nat.le_of_ble_eq_true rfl) (eX11_ofSlope _ _ _ _ h)
def fX11_accepted (a1 : Int32) (g : am_G) : Option (Int32 × am_G) :=
  am_let (am_si g 0 16 (0 : Int32)) fun g1 =>
  some (a1, g1)
set_option maxRecDepth 100000 in
set_option maxHeartbeats 4000000 in
theorem eX11_accepted (a1 : Int32) (g : am_G) (r : Int32 × am_G) (h : fX11_accepted a1 g = some r) : am_Ev zc MX11_accepted 0 0 [(0, .ref 0), (1, .int a1)] [] g (am_ri r) := by
  unfold fX11_accepted at h
  refine ev_aload_n 0 dX11_accepted_0 rfl ?_
  refine ev_iconst dX11_accepted_1 rfl ?_
  refine ev_pfi dX11_accepted_2 (fun h9 => (h9.2.1 0 _ rfl).2) 16 (by decide) (by decide) kF_X11_456 rfl rfl rfl (fun _ => rfl) ?_
  refine am_let_elim (P := fun g1 => am_Ev zc MX11_accepted 0 5 [(0, .ref 0), (1, .int a1)] [] g1 (am_ri r)) h fun g1 h => ?_
  refine ev_iload_n 1 dX11_accepted_5 rfl ?_
  cases h
  exact ev_iret dX11_accepted_6 rfl
theorem tX11_accepted {a1 : Int32} {g : am_G} {r : Int32 × am_G} (h : fX11_accepted a1 g = some r) : am_Mt zc MX11_accepted 0 [.ref 0, .int a1] g (am_ri r) := am_Mt.of rfl (Nat.le_of_ble_eq_true rfl) (eX11_accepted _ _ _ h)
def fX11_put (a1 : Int32) (a2 : Int32) (a3 : Int32) (g : am_G) : Option (Int32 × am_G) :=
  am_bd (fX11_isSlope a1 g) fun v1 g2 =>
  if v1 = 0 then (
    am_bd (fX11_refused (-1 : Int32) g2) fun v5 g6 =>
    some (v5, g6))
  else (
    am_bd (fX11_canPut a1 a2 a3 g2) fun v8 g9 =>
    if v8 = 0 then (
      am_bd (fX11_refused (-1 : Int32) g9) fun v59 g60 =>
      some (v59, g60))
    else (
      am_bd (fX11_ofSlope a1 a2 g9) fun v12 g13 =>
      if a2 = 0 then (
        am_gd (am_in a1 6) <|
        am_let (am_si g13 3 a1.toNatClampNeg a3) fun g52 =>
        am_bd (fX8_clear g52) fun u53 g54 =>
        am_bd (fX11_accepted v12 g54) fun v56 g57 =>
        some (v56, g57))
      else (
        if a2 = (1 : Int32) then (
          am_gd (am_in a1 6) <|
          am_let (am_si g13 8 a1.toNatClampNeg a3) fun g44 =>
          am_bd (fX8_clear g44) fun u45 g46 =>
          am_bd (fX11_accepted v12 g46) fun v48 g49 =>
          some (v48, g49))
        else (
          if a2 = (2 : Int32) then (
            am_gd (am_in a1 6) <|
            am_let (am_si g13 9 a1.toNatClampNeg a3) fun g36 =>
            am_bd (fX8_clear g36) fun u37 g38 =>
            am_bd (fX11_accepted v12 g38) fun v40 g41 =>
            some (v40, g41))
          else (
            if a2 = (3 : Int32) then (
              am_gd (am_in a1 6) <|
              am_let (am_si g13 10 a1.toNatClampNeg a3) fun g28 =>
              am_bd (fX8_clear g28) fun u29 g30 =>
              am_bd (fX11_accepted v12 g30) fun v32 g33 =>
              some (v32, g33))
            else (
              am_gd (am_in (((a1 * (4 : Int32)) + a2) - (4 : Int32)) 24) <|
              am_let (am_si g13 11 (((a1 * (4 : Int32)) + a2) - (4 : Int32)).toNatClampNeg a3) fun g20 =>
              am_bd (fX8_clear g20) fun u21 g22 =>
              am_bd (fX11_accepted v12 g22) fun v24 g25 =>
              some (v24, g25)))))))
set_option maxRecDepth 100000 in
set_option maxHeartbeats 4000000 in
theorem eX11_put (a1 : Int32) (a2 : Int32) (a3 : Int32) (g : am_G) (r : Int32 × am_G) (h : fX11_put a1 a2 a3 g = some r) : am_Ev zc MX11_put 2 0 [(0, .ref 0), (1, .int a1), (2, .int a2), (3, .int a3)] [] g (am_ri r) := by
  unfold fX11_put at h
  refine ev_iload_n 1 dX11_put_0 rfl ?_
  obtain ⟨v1, g2, e3, h⟩ := am_bd_elim h
  refine ev_callSi (v := v1) [.int a1] [] dX11_put_1 (tX11_isSlope e3) (by decide) mo_X11_isSlope kM_X11_96 ks_X11_isSlope (Nat.le_of_ble_eq_true rfl) ?_
  refine ev_if_eq 16 dX11_put_4 (by decide) (fun c4 => ?_) (fun c4 => ?_)
  · replace h := am_ifp c4 h
    refine ev_aload_n 0 dX11_put_16 rfl ?_
    refine ev_iconst dX11_put_17 rfl ?_
    obtain ⟨v5, g6, e7, h⟩ := am_bd_elim h
    refine ev_callVi (v := v5) [.int (-1 : Int32)] [] dX11_put_18 (tX11_refused e7) (by decide) mo_X11_refused kM_X11_104 ki_X11_refused kv_X11_refused (fun h9 => (h9.2.1 0 _ rfl).2) (by decide) rfl (Nat.le_of_ble_eq_true rfl) ?_
    cases h
    exact ev_iret dX11_put_21 rfl
  · replace h := am_ifn c4 h
    refine ev_iload_n 1 dX11_put_7 rfl ?_
    refine ev_iload_n 2 dX11_put_8 rfl ?_
    refine ev_iload_n 3 dX11_put_9 rfl ?_
    obtain ⟨v8, g9, e10, h⟩ := am_bd_elim h
    refine ev_callSi (v := v8) [.int a1, .int a2, .int a3] [] dX11_put_10 (tX11_canPut e10) (by decide) mo_X11_canPut kM_X11_100 ks_X11_canPut (Nat.le_of_ble_eq_true rfl) ?_
    refine ev_if_ne 22 dX11_put_13 (by decide) (fun c11 => ?_) (fun c11 => ?_)
    · replace h := am_ifn c11 h
      refine ev_aload_n 0 dX11_put_22 rfl ?_
      refine ev_iload_n 1 dX11_put_23 rfl ?_
      refine ev_iload_n 2 dX11_put_24 rfl ?_
      obtain ⟨v12, g13, e14, h⟩ := am_bd_elim h
      refine ev_callVi (v := v12) [.int a1, .int a2] [] dX11_put_25 (tX11_ofSlope e14) (by decide) mo_X11_ofSlope kM_X11_108 ki_X11_ofSlope kv_X11_ofSlope (fun h9 => (h9.2.1 0 _ rfl).2) (by decide) rfl (Nat.le_of_ble_eq_true rfl) ?_
      refine ev_istore (ls' := [(4, .int v12), (0, .ref 0), (1, .int a1), (2, .int a2), (3, .int a3)]) dX11_put_28 (by decide) rfl ?_
      refine ev_iload_n 3 dX11_put_30 rfl ?_
      refine ev_if_ne 50 dX11_put_31 (by decide) (fun c15 => ?_) (fun c15 => ?_)
      · replace h := am_ifn c15 h
        refine ev_iload_n 3 dX11_put_50 rfl ?_
        refine ev_iconst dX11_put_51 rfl ?_
        refine ev_icmp_ne 68 dX11_put_52 (by decide) (fun c16 => ?_) (fun c16 => ?_)
        · replace h := am_ifn c16 h
          refine ev_iload_n 3 dX11_put_68 rfl ?_
          refine ev_iconst dX11_put_69 rfl ?_
          refine ev_icmp_ne 86 dX11_put_70 (by decide) (fun c17 => ?_) (fun c17 => ?_)
          · replace h := am_ifn c17 h
            refine ev_iload_n 3 dX11_put_86 rfl ?_
            refine ev_iconst dX11_put_87 rfl ?_
            refine ev_icmp_ne 104 dX11_put_88 (by decide) (fun c18 => ?_) (fun c18 => ?_)
            · replace h := am_ifn c18 h
              refine ev_aload_n 1 dX11_put_104 rfl ?_
              refine ev_gf (v := .ref 1) dX11_put_105 (fun h9 => (h9.2.1 0 _ rfl).2) 0 (by decide) (by decide) kF_X11_14 (fun h9 => congrArg va_rf (h9.2.2 0 0 1 rfl)) ?_
              refine ev_gf (v := .ref 11) dX11_put_108 (fun h9 => (h9.2.1 1 _ rfl).2) 4 (by decide) (by decide) kF_X11_127 (fun h9 => congrArg va_rf (h9.2.2 1 4 11 rfl)) ?_
              refine ev_iload_n 2 dX11_put_111 rfl ?_
              refine ev_iconst dX11_put_112 rfl ?_
              refine ev_imul dX11_put_113 ?_
              refine ev_iload_n 3 dX11_put_114 rfl ?_
              refine ev_iadd dX11_put_115 ?_
              refine ev_iconst dX11_put_116 rfl ?_
              refine ev_isub dX11_put_117 ?_
              refine ev_iload_n 4 dX11_put_118 rfl ?_
              obtain ⟨c19, h⟩ := am_gd_elim h
              refine ev_iast dX11_put_119 (fun h9 => (h9.2.1 11 _ rfl).2) (am_in_vp c19) ?_
              refine am_let_elim (P := fun g20 => am_Ev zc MX11_put 2 120 [(4, .int v12), (0, .ref 0), (1, .int a1), (2, .int a2), (3, .int a3)] [] g20 (am_ri r)) h fun g20 h => ?_
              refine ev_aload_n 1 dX11_put_120 rfl ?_
              refine ev_gf (v := .ref 26) dX11_put_121 (fun h9 => (h9.2.1 0 _ rfl).2) 2 (by decide) (by decide) kF_X11_25 (fun h9 => congrArg va_rf (h9.2.2 0 2 26 rfl)) ?_
              obtain ⟨u21, g22, e23, h⟩ := am_bd_elim h
              refine ev_callVv [] [] dX11_put_124 (tX8_clear e23) (by decide) mo_X8_clear kM_X11_130 ki_X8_clear kv_X8_clear (fun h9 => (h9.2.1 26 _ rfl).2) (by decide) rfl (Nat.le_of_ble_eq_true rfl) ?_
              refine ev_aload_n 1 dX11_put_127 rfl ?_
              refine ev_iload 0 dX11_put_128 rfl ?_
              obtain ⟨v24, g25, e26, h⟩ := am_bd_elim h
              refine ev_callVi (v := v24) [.int v12] [] dX11_put_130 (tX11_accepted e26) (by decide) mo_X11_accepted kM_X11_133 ki_X11_accepted kv_X11_accepted (fun h9 => (h9.2.1 0 _ rfl).2) (by decide) rfl (Nat.le_of_ble_eq_true rfl) ?_
              cases h
              exact ev_iret dX11_put_133 rfl
            · replace h := am_ifp c18 h
              refine ev_aload_n 1 dX11_put_91 rfl ?_
              refine ev_gf (v := .ref 1) dX11_put_92 (fun h9 => (h9.2.1 0 _ rfl).2) 0 (by decide) (by decide) kF_X11_14 (fun h9 => congrArg va_rf (h9.2.2 0 0 1 rfl)) ?_
              refine ev_gf (v := .ref 10) dX11_put_95 (fun h9 => (h9.2.1 1 _ rfl).2) 3 (by decide) (by decide) kF_X11_124 (fun h9 => congrArg va_rf (h9.2.2 1 3 10 rfl)) ?_
              refine ev_iload_n 2 dX11_put_98 rfl ?_
              refine ev_iload_n 4 dX11_put_99 rfl ?_
              obtain ⟨c27, h⟩ := am_gd_elim h
              refine ev_iast dX11_put_100 (fun h9 => (h9.2.1 10 _ rfl).2) (am_in_vp c27) ?_
              refine am_let_elim (P := fun g28 => am_Ev zc MX11_put 2 101 [(4, .int v12), (0, .ref 0), (1, .int a1), (2, .int a2), (3, .int a3)] [] g28 (am_ri r)) h fun g28 h => ?_
              refine ev_goto 120 dX11_put_101 (by decide) ?_
              refine ev_aload_n 1 dX11_put_120 rfl ?_
              refine ev_gf (v := .ref 26) dX11_put_121 (fun h9 => (h9.2.1 0 _ rfl).2) 2 (by decide) (by decide) kF_X11_25 (fun h9 => congrArg va_rf (h9.2.2 0 2 26 rfl)) ?_
              obtain ⟨u29, g30, e31, h⟩ := am_bd_elim h
              refine ev_callVv [] [] dX11_put_124 (tX8_clear e31) (by decide) mo_X8_clear kM_X11_130 ki_X8_clear kv_X8_clear (fun h9 => (h9.2.1 26 _ rfl).2) (by decide) rfl (Nat.le_of_ble_eq_true rfl) ?_
              refine ev_aload_n 1 dX11_put_127 rfl ?_
              refine ev_iload 0 dX11_put_128 rfl ?_
              obtain ⟨v32, g33, e34, h⟩ := am_bd_elim h
              refine ev_callVi (v := v32) [.int v12] [] dX11_put_130 (tX11_accepted e34) (by decide) mo_X11_accepted kM_X11_133 ki_X11_accepted kv_X11_accepted (fun h9 => (h9.2.1 0 _ rfl).2) (by decide) rfl (Nat.le_of_ble_eq_true rfl) ?_
              cases h
              exact ev_iret dX11_put_133 rfl
          · replace h := am_ifp c17 h
            refine ev_aload_n 1 dX11_put_73 rfl ?_
            refine ev_gf (v := .ref 1) dX11_put_74 (fun h9 => (h9.2.1 0 _ rfl).2) 0 (by decide) (by decide) kF_X11_14 (fun h9 => congrArg va_rf (h9.2.2 0 0 1 rfl)) ?_
            refine ev_gf (v := .ref 9) dX11_put_77 (fun h9 => (h9.2.1 1 _ rfl).2) 2 (by decide) (by decide) kF_X11_121 (fun h9 => congrArg va_rf (h9.2.2 1 2 9 rfl)) ?_
            refine ev_iload_n 2 dX11_put_80 rfl ?_
            refine ev_iload_n 4 dX11_put_81 rfl ?_
            obtain ⟨c35, h⟩ := am_gd_elim h
            refine ev_iast dX11_put_82 (fun h9 => (h9.2.1 9 _ rfl).2) (am_in_vp c35) ?_
            refine am_let_elim (P := fun g36 => am_Ev zc MX11_put 2 83 [(4, .int v12), (0, .ref 0), (1, .int a1), (2, .int a2), (3, .int a3)] [] g36 (am_ri r)) h fun g36 h => ?_
            refine ev_goto 120 dX11_put_83 (by decide) ?_
            refine ev_aload_n 1 dX11_put_120 rfl ?_
            refine ev_gf (v := .ref 26) dX11_put_121 (fun h9 => (h9.2.1 0 _ rfl).2) 2 (by decide) (by decide) kF_X11_25 (fun h9 => congrArg va_rf (h9.2.2 0 2 26 rfl)) ?_
            obtain ⟨u37, g38, e39, h⟩ := am_bd_elim h
            refine ev_callVv [] [] dX11_put_124 (tX8_clear e39) (by decide) mo_X8_clear kM_X11_130 ki_X8_clear kv_X8_clear (fun h9 => (h9.2.1 26 _ rfl).2) (by decide) rfl (Nat.le_of_ble_eq_true rfl) ?_
            refine ev_aload_n 1 dX11_put_127 rfl ?_
            refine ev_iload 0 dX11_put_128 rfl ?_
            obtain ⟨v40, g41, e42, h⟩ := am_bd_elim h
            refine ev_callVi (v := v40) [.int v12] [] dX11_put_130 (tX11_accepted e42) (by decide) mo_X11_accepted kM_X11_133 ki_X11_accepted kv_X11_accepted (fun h9 => (h9.2.1 0 _ rfl).2) (by decide) rfl (Nat.le_of_ble_eq_true rfl) ?_
            cases h
            exact ev_iret dX11_put_133 rfl
        · replace h := am_ifp c16 h
          refine ev_aload_n 1 dX11_put_55 rfl ?_
          refine ev_gf (v := .ref 1) dX11_put_56 (fun h9 => (h9.2.1 0 _ rfl).2) 0 (by decide) (by decide) kF_X11_14 (fun h9 => congrArg va_rf (h9.2.2 0 0 1 rfl)) ?_
          refine ev_gf (v := .ref 8) dX11_put_59 (fun h9 => (h9.2.1 1 _ rfl).2) 1 (by decide) (by decide) kF_X11_118 (fun h9 => congrArg va_rf (h9.2.2 1 1 8 rfl)) ?_
          refine ev_iload_n 2 dX11_put_62 rfl ?_
          refine ev_iload_n 4 dX11_put_63 rfl ?_
          obtain ⟨c43, h⟩ := am_gd_elim h
          refine ev_iast dX11_put_64 (fun h9 => (h9.2.1 8 _ rfl).2) (am_in_vp c43) ?_
          refine am_let_elim (P := fun g44 => am_Ev zc MX11_put 2 65 [(4, .int v12), (0, .ref 0), (1, .int a1), (2, .int a2), (3, .int a3)] [] g44 (am_ri r)) h fun g44 h => ?_
          refine ev_goto 120 dX11_put_65 (by decide) ?_
          refine ev_aload_n 1 dX11_put_120 rfl ?_
          refine ev_gf (v := .ref 26) dX11_put_121 (fun h9 => (h9.2.1 0 _ rfl).2) 2 (by decide) (by decide) kF_X11_25 (fun h9 => congrArg va_rf (h9.2.2 0 2 26 rfl)) ?_
          obtain ⟨u45, g46, e47, h⟩ := am_bd_elim h
          refine ev_callVv [] [] dX11_put_124 (tX8_clear e47) (by decide) mo_X8_clear kM_X11_130 ki_X8_clear kv_X8_clear (fun h9 => (h9.2.1 26 _ rfl).2) (by decide) rfl (Nat.le_of_ble_eq_true rfl) ?_
          refine ev_aload_n 1 dX11_put_127 rfl ?_
          refine ev_iload 0 dX11_put_128 rfl ?_
          obtain ⟨v48, g49, e50, h⟩ := am_bd_elim h
          refine ev_callVi (v := v48) [.int v12] [] dX11_put_130 (tX11_accepted e50) (by decide) mo_X11_accepted kM_X11_133 ki_X11_accepted kv_X11_accepted (fun h9 => (h9.2.1 0 _ rfl).2) (by decide) rfl (Nat.le_of_ble_eq_true rfl) ?_
          cases h
          exact ev_iret dX11_put_133 rfl
      · replace h := am_ifp c15 h
        refine ev_aload_n 1 dX11_put_34 rfl ?_
        refine ev_gf (v := .ref 1) dX11_put_35 (fun h9 => (h9.2.1 0 _ rfl).2) 0 (by decide) (by decide) kF_X11_14 (fun h9 => congrArg va_rf (h9.2.2 0 0 1 rfl)) ?_
        refine ev_gf (v := .ref 2) dX11_put_38 (fun h9 => (h9.2.1 1 _ rfl).2) 0 (by decide) (by decide) kF_X11_112 (fun h9 => congrArg va_rf (h9.2.2 1 0 2 rfl)) ?_
        refine ev_gf (v := .ref 3) dX11_put_41 (fun h9 => (h9.2.1 2 _ rfl).2) 0 (by decide) (by decide) kF_X11_115 (fun h9 => congrArg va_rf (h9.2.2 2 0 3 rfl)) ?_
        refine ev_iload_n 2 dX11_put_44 rfl ?_
        refine ev_iload_n 4 dX11_put_45 rfl ?_
        obtain ⟨c51, h⟩ := am_gd_elim h
        refine ev_iast dX11_put_46 (fun h9 => (h9.2.1 3 _ rfl).2) (am_in_vp c51) ?_
        refine am_let_elim (P := fun g52 => am_Ev zc MX11_put 2 47 [(4, .int v12), (0, .ref 0), (1, .int a1), (2, .int a2), (3, .int a3)] [] g52 (am_ri r)) h fun g52 h => ?_
        refine ev_goto 120 dX11_put_47 (by decide) ?_
        refine ev_aload_n 1 dX11_put_120 rfl ?_
        refine ev_gf (v := .ref 26) dX11_put_121 (fun h9 => (h9.2.1 0 _ rfl).2) 2 (by decide) (by decide) kF_X11_25 (fun h9 => congrArg va_rf (h9.2.2 0 2 26 rfl)) ?_
        obtain ⟨u53, g54, e55, h⟩ := am_bd_elim h
        refine ev_callVv [] [] dX11_put_124 (tX8_clear e55) (by decide) mo_X8_clear kM_X11_130 ki_X8_clear kv_X8_clear (fun h9 => (h9.2.1 26 _ rfl).2) (by decide) rfl (Nat.le_of_ble_eq_true rfl) ?_
        refine ev_aload_n 1 dX11_put_127 rfl ?_
        refine ev_iload 0 dX11_put_128 rfl ?_
        obtain ⟨v56, g57, e58, h⟩ := am_bd_elim h
        refine ev_callVi (v := v56) [.int v12] [] dX11_put_130 (tX11_accepted e58) (by decide) mo_X11_accepted kM_X11_133 ki_X11_accepted kv_X11_accepted (fun h9 => (h9.2.1 0 _ rfl).2) (by decide) rfl (Nat.le_of_ble_eq_true rfl) ?_
        cases h
        exact ev_iret dX11_put_133 rfl
    · replace h := am_ifp c11 h
      refine ev_aload_n 0 dX11_put_16 rfl ?_
      refine ev_iconst dX11_put_17 rfl ?_
      obtain ⟨v59, g60, e61, h⟩ := am_bd_elim h
      refine ev_callVi (v := v59) [.int (-1 : Int32)] [] dX11_put_18 (tX11_refused e61) (by decide) mo_X11_refused kM_X11_104 ki_X11_refused kv_X11_refused (fun h9 => (h9.2.1 0 _ rfl).2) (by decide) rfl (Nat.le_of_ble_eq_true rfl) ?_
      cases h
      exact ev_iret dX11_put_21 rfl
theorem tX11_put {a1 : Int32} {a2 : Int32} {a3 : Int32} {g : am_G} {r : Int32 × am_G} (h : fX11_put a1 a2 a3 g = some r) : am_Mt zc MX11_put 2 [.ref 0, .int a1, .int a2, .int a3] g (am_ri r) := am_Mt.of rfl (Nat.le_of_ble_eq_true rfl) (eX11_put _ _ _ _ _ h)
def fX11_of (a1 : Int32) (a2 : Int32) (g : am_G) : Option (Int32 × am_G) :=
  am_bd (fX11_isSlope a1 g) fun v1 g2 =>
  if v1 = 0 then (
    some ((-1 : Int32), g2))
  else (
    am_bd (fX11_within a2 (0 : Int32) (9 : Int32) g2) fun v5 g6 =>
    if v5 = 0 then (
      some ((-1 : Int32), g6))
    else (
      am_bd (fX11_ofSlope a1 a2 g6) fun v9 g10 =>
      some (v9, g10)))
set_option maxRecDepth 100000 in
set_option maxHeartbeats 4000000 in
theorem eX11_of (a1 : Int32) (a2 : Int32) (g : am_G) (r : Int32 × am_G) (h : fX11_of a1 a2 g = some r) : am_Ev zc MX11_of 2 0 [(0, .ref 0), (1, .int a1), (2, .int a2)] [] g (am_ri r) := by
  unfold fX11_of at h
  refine ev_iload_n 1 dX11_of_0 rfl ?_
  obtain ⟨v1, g2, e3, h⟩ := am_bd_elim h
  refine ev_callSi (v := v1) [.int a1] [] dX11_of_1 (tX11_isSlope e3) (by decide) mo_X11_isSlope kM_X11_96 ks_X11_isSlope (Nat.le_of_ble_eq_true rfl) ?_
  refine ev_if_eq 26 dX11_of_4 (by decide) (fun c4 => ?_) (fun c4 => ?_)
  · replace h := am_ifp c4 h
    refine ev_iconst dX11_of_26 rfl ?_
    cases h
    exact ev_iret dX11_of_27 rfl
  · replace h := am_ifn c4 h
    refine ev_iload_n 2 dX11_of_7 rfl ?_
    refine ev_iconst dX11_of_8 rfl ?_
    refine ev_bipush dX11_of_9 rfl ?_
    obtain ⟨v5, g6, e7, h⟩ := am_bd_elim h
    refine ev_callSi (v := v5) [.int a2, .int (0 : Int32), .int (9 : Int32)] [] dX11_of_11 (tX11_within e7) (by decide) mo_X11_within kM_X11_136 ks_X11_within (Nat.le_of_ble_eq_true rfl) ?_
    refine ev_if_eq 26 dX11_of_14 (by decide) (fun c8 => ?_) (fun c8 => ?_)
    · replace h := am_ifp c8 h
      refine ev_iconst dX11_of_26 rfl ?_
      cases h
      exact ev_iret dX11_of_27 rfl
    · replace h := am_ifn c8 h
      refine ev_aload_n 0 dX11_of_17 rfl ?_
      refine ev_iload_n 1 dX11_of_18 rfl ?_
      refine ev_iload_n 2 dX11_of_19 rfl ?_
      obtain ⟨v9, g10, e11, h⟩ := am_bd_elim h
      refine ev_callVi (v := v9) [.int a1, .int a2] [] dX11_of_20 (tX11_ofSlope e11) (by decide) mo_X11_ofSlope kM_X11_108 ki_X11_ofSlope kv_X11_ofSlope (fun h9 => (h9.2.1 0 _ rfl).2) (by decide) rfl (Nat.le_of_ble_eq_true rfl) ?_
      refine ev_goto 27 dX11_of_23 (by decide) ?_
      cases h
      exact ev_iret dX11_of_27 rfl
theorem tX11_of {a1 : Int32} {a2 : Int32} {g : am_G} {r : Int32 × am_G} (h : fX11_of a1 a2 g = some r) : am_Mt zc MX11_of 2 [.ref 0, .int a1, .int a2] g (am_ri r) := am_Mt.of rfl (Nat.le_of_ble_eq_true rfl) (eX11_of _ _ _ _ h)
def fX11_word (a1 : Int32) (a2 : Int32) (a3 : Int32) (g : am_G) : Option (Int32 × am_G) :=
  am_bd (fX10_canBe a1 a2 a3 g) fun v1 g2 =>
  if v1 = 0 then (
    am_bd (fX11_refused (-1 : Int32) g2) fun v18 g19 =>
    some (v18, g19))
  else (
    am_bd (fX10_isFull g2) fun v5 g6 =>
    if v5 = 0 then (
      am_bd (fX10_coin a1 a2 a3 g6) fun v9 g10 =>
      am_bd (fX11_accepted v9 g10) fun v12 g13 =>
      some (v12, g13))
    else (
      am_bd (fX11_refused (-5 : Int32) g6) fun v15 g16 =>
      some (v15, g16)))
set_option maxRecDepth 100000 in
set_option maxHeartbeats 4000000 in
theorem eX11_word (a1 : Int32) (a2 : Int32) (a3 : Int32) (g : am_G) (r : Int32 × am_G) (h : fX11_word a1 a2 a3 g = some r) : am_Ev zc MX11_word 2 0 [(0, .ref 0), (1, .int a1), (2, .int a2), (3, .int a3)] [] g (am_ri r) := by
  unfold fX11_word at h
  refine ev_iload_n 1 dX11_word_0 rfl ?_
  refine ev_iload_n 2 dX11_word_1 rfl ?_
  refine ev_iload_n 3 dX11_word_2 rfl ?_
  obtain ⟨v1, g2, e3, h⟩ := am_bd_elim h
  refine ev_callSi (v := v1) [.int a1, .int a2, .int a3] [] dX11_word_3 (tX10_canBe e3) (by decide) mo_X10_canBe kM_X11_145 ks_X10_canBe (Nat.le_of_ble_eq_true rfl) ?_
  refine ev_if_ne 15 dX11_word_6 (by decide) (fun c4 => ?_) (fun c4 => ?_)
  · replace h := am_ifn c4 h
    refine ev_aload_n 0 dX11_word_15 rfl ?_
    refine ev_gf (v := .ref 1) dX11_word_16 (fun h9 => (h9.2.1 0 _ rfl).2) 0 (by decide) (by decide) kF_X11_14 (fun h9 => congrArg va_rf (h9.2.2 0 0 1 rfl)) ?_
    refine ev_gf (v := .ref 12) dX11_word_19 (fun h9 => (h9.2.1 1 _ rfl).2) 5 (by decide) (by decide) kF_X11_150 (fun h9 => congrArg va_rf (h9.2.2 1 5 12 rfl)) ?_
    obtain ⟨v5, g6, e7, h⟩ := am_bd_elim h
    refine ev_callVi (v := v5) [] [] dX11_word_22 (tX10_isFull e7) (by decide) mo_X10_isFull kM_X11_154 ki_X10_isFull kv_X10_isFull (fun h9 => (h9.2.1 12 _ rfl).2) (by decide) rfl (Nat.le_of_ble_eq_true rfl) ?_
    refine ev_if_eq 35 dX11_word_25 (by decide) (fun c8 => ?_) (fun c8 => ?_)
    · replace h := am_ifp c8 h
      refine ev_aload_n 0 dX11_word_35 rfl ?_
      refine ev_aload_n 0 dX11_word_36 rfl ?_
      refine ev_gf (v := .ref 1) dX11_word_37 (fun h9 => (h9.2.1 0 _ rfl).2) 0 (by decide) (by decide) kF_X11_14 (fun h9 => congrArg va_rf (h9.2.2 0 0 1 rfl)) ?_
      refine ev_gf (v := .ref 12) dX11_word_40 (fun h9 => (h9.2.1 1 _ rfl).2) 5 (by decide) (by decide) kF_X11_150 (fun h9 => congrArg va_rf (h9.2.2 1 5 12 rfl)) ?_
      refine ev_iload_n 1 dX11_word_43 rfl ?_
      refine ev_iload_n 2 dX11_word_44 rfl ?_
      refine ev_iload_n 3 dX11_word_45 rfl ?_
      obtain ⟨v9, g10, e11, h⟩ := am_bd_elim h
      refine ev_callVi (v := v9) [.int a1, .int a2, .int a3] [.ref 0] dX11_word_46 (tX10_coin e11) (by decide) mo_X10_coin kM_X11_158 ki_X10_coin kv_X10_coin (fun h9 => (h9.2.1 12 _ rfl).2) (by decide) rfl (Nat.le_of_ble_eq_true rfl) ?_
      obtain ⟨v12, g13, e14, h⟩ := am_bd_elim h
      refine ev_callVi (v := v12) [.int v9] [] dX11_word_49 (tX11_accepted e14) (by decide) mo_X11_accepted kM_X11_133 ki_X11_accepted kv_X11_accepted (fun h9 => (h9.2.1 0 _ rfl).2) (by decide) rfl (Nat.le_of_ble_eq_true rfl) ?_
      cases h
      exact ev_iret dX11_word_52 rfl
    · replace h := am_ifn c8 h
      refine ev_aload_n 0 dX11_word_28 rfl ?_
      refine ev_bipush dX11_word_29 rfl ?_
      obtain ⟨v15, g16, e17, h⟩ := am_bd_elim h
      refine ev_callVi (v := v15) [.int (-5 : Int32)] [] dX11_word_31 (tX11_refused e17) (by decide) mo_X11_refused kM_X11_104 ki_X11_refused kv_X11_refused (fun h9 => (h9.2.1 0 _ rfl).2) (by decide) rfl (Nat.le_of_ble_eq_true rfl) ?_
      cases h
      exact ev_iret dX11_word_34 rfl
  · replace h := am_ifp c4 h
    refine ev_aload_n 0 dX11_word_9 rfl ?_
    refine ev_iconst dX11_word_10 rfl ?_
    obtain ⟨v18, g19, e20, h⟩ := am_bd_elim h
    refine ev_callVi (v := v18) [.int (-1 : Int32)] [] dX11_word_11 (tX11_refused e20) (by decide) mo_X11_refused kM_X11_104 ki_X11_refused kv_X11_refused (fun h9 => (h9.2.1 0 _ rfl).2) (by decide) rfl (Nat.le_of_ble_eq_true rfl) ?_
    cases h
    exact ev_iret dX11_word_14 rfl
theorem tX11_word {a1 : Int32} {a2 : Int32} {a3 : Int32} {g : am_G} {r : Int32 × am_G} (h : fX11_word a1 a2 a3 g = some r) : am_Mt zc MX11_word 2 [.ref 0, .int a1, .int a2, .int a3] g (am_ri r) := am_Mt.of rfl (Nat.le_of_ble_eq_true rfl) (eX11_word _ _ _ _ _ h)
def fX11_at (a1 : Int32) (a2 : Int32) (g : am_G) : Option (Int32 × am_G) :=
  am_bd (fX10_has a1 g) fun v1 g2 =>
  if v1 = 0 then (
    some ((-1 : Int32), g2))
  else (
    if a2 = (0 : Int32) then (
      am_gd (am_in a1 16) <|
      some (am_I g2 13 a1.toNatClampNeg, g2))
    else
    if a2 = (1 : Int32) then (
      am_gd (am_in a1 16) <|
      some (am_I g2 14 a1.toNatClampNeg, g2))
    else
    if a2 = (2 : Int32) then (
      am_gd (am_in a1 16) <|
      some (am_I g2 15 a1.toNatClampNeg, g2))
    else
    if a2 = (3 : Int32) then (
      am_gd (am_in a1 16) <|
      some (am_I g2 16 a1.toNatClampNeg, g2))
    else (
      some ((-1 : Int32), g2)))
set_option maxRecDepth 100000 in
set_option maxHeartbeats 4000000 in
theorem eX11_at (a1 : Int32) (a2 : Int32) (g : am_G) (r : Int32 × am_G) (h : fX11_at a1 a2 g = some r) : am_Ev zc MX11_at 2 0 [(0, .ref 0), (1, .int a1), (2, .int a2)] [] g (am_ri r) := by
  unfold fX11_at at h
  refine ev_aload_n 0 dX11_at_0 rfl ?_
  refine ev_gf (v := .ref 1) dX11_at_1 (fun h9 => (h9.2.1 0 _ rfl).2) 0 (by decide) (by decide) kF_X11_14 (fun h9 => congrArg va_rf (h9.2.2 0 0 1 rfl)) ?_
  refine ev_gf (v := .ref 12) dX11_at_4 (fun h9 => (h9.2.1 1 _ rfl).2) 5 (by decide) (by decide) kF_X11_150 (fun h9 => congrArg va_rf (h9.2.2 1 5 12 rfl)) ?_
  refine ev_iload_n 1 dX11_at_7 rfl ?_
  obtain ⟨v1, g2, e3, h⟩ := am_bd_elim h
  refine ev_callVi (v := v1) [.int a1] [] dX11_at_8 (tX10_has e3) (by decide) mo_X10_has kM_X11_162 ki_X10_has kv_X10_has (fun h9 => (h9.2.1 12 _ rfl).2) (by decide) rfl (Nat.le_of_ble_eq_true rfl) ?_
  refine ev_if_ne 16 dX11_at_11 (by decide) (fun c4 => ?_) (fun c4 => ?_)
  · replace h := am_ifn c4 h
    refine ev_iload_n 2 dX11_at_16 rfl ?_
    by_cases c9 : a2 = (0 : Int32)
    · replace h := am_ifp c9 h
      refine ev_tableIn 48 dX11_at_17 (by rw [c9]; decide) (by rw [c9]; decide) (by rw [c9]; rfl) (by decide) ?_
      refine ev_aload_n 0 dX11_at_48 rfl ?_
      refine ev_gf (v := .ref 1) dX11_at_49 (fun h9 => (h9.2.1 0 _ rfl).2) 0 (by decide) (by decide) kF_X11_14 (fun h9 => congrArg va_rf (h9.2.2 0 0 1 rfl)) ?_
      refine ev_gf (v := .ref 12) dX11_at_52 (fun h9 => (h9.2.1 1 _ rfl).2) 5 (by decide) (by decide) kF_X11_150 (fun h9 => congrArg va_rf (h9.2.2 1 5 12 rfl)) ?_
      refine ev_gf (v := .ref 13) dX11_at_55 (fun h9 => (h9.2.1 12 _ rfl).2) 0 (by decide) (by decide) kF_X11_165 (fun h9 => congrArg va_rf (h9.2.2 12 0 13 rfl)) ?_
      refine ev_iload_n 1 dX11_at_58 rfl ?_
      obtain ⟨c5, h⟩ := am_gd_elim h
      refine ev_iald dX11_at_59 (fun h9 => (h9.2.1 13 _ rfl).2) (am_in_vp c5) ?_
      cases h
      exact ev_iret dX11_at_60 rfl
    replace h := am_ifn c9 h
    by_cases c10 : a2 = (1 : Int32)
    · replace h := am_ifp c10 h
      refine ev_tableIn 61 dX11_at_17 (by rw [c10]; decide) (by rw [c10]; decide) (by rw [c10]; rfl) (by decide) ?_
      refine ev_aload_n 0 dX11_at_61 rfl ?_
      refine ev_gf (v := .ref 1) dX11_at_62 (fun h9 => (h9.2.1 0 _ rfl).2) 0 (by decide) (by decide) kF_X11_14 (fun h9 => congrArg va_rf (h9.2.2 0 0 1 rfl)) ?_
      refine ev_gf (v := .ref 12) dX11_at_65 (fun h9 => (h9.2.1 1 _ rfl).2) 5 (by decide) (by decide) kF_X11_150 (fun h9 => congrArg va_rf (h9.2.2 1 5 12 rfl)) ?_
      refine ev_gf (v := .ref 14) dX11_at_68 (fun h9 => (h9.2.1 12 _ rfl).2) 1 (by decide) (by decide) kF_X11_168 (fun h9 => congrArg va_rf (h9.2.2 12 1 14 rfl)) ?_
      refine ev_iload_n 1 dX11_at_71 rfl ?_
      obtain ⟨c6, h⟩ := am_gd_elim h
      refine ev_iald dX11_at_72 (fun h9 => (h9.2.1 14 _ rfl).2) (am_in_vp c6) ?_
      cases h
      exact ev_iret dX11_at_73 rfl
    replace h := am_ifn c10 h
    by_cases c11 : a2 = (2 : Int32)
    · replace h := am_ifp c11 h
      refine ev_tableIn 74 dX11_at_17 (by rw [c11]; decide) (by rw [c11]; decide) (by rw [c11]; rfl) (by decide) ?_
      refine ev_aload_n 0 dX11_at_74 rfl ?_
      refine ev_gf (v := .ref 1) dX11_at_75 (fun h9 => (h9.2.1 0 _ rfl).2) 0 (by decide) (by decide) kF_X11_14 (fun h9 => congrArg va_rf (h9.2.2 0 0 1 rfl)) ?_
      refine ev_gf (v := .ref 12) dX11_at_78 (fun h9 => (h9.2.1 1 _ rfl).2) 5 (by decide) (by decide) kF_X11_150 (fun h9 => congrArg va_rf (h9.2.2 1 5 12 rfl)) ?_
      refine ev_gf (v := .ref 15) dX11_at_81 (fun h9 => (h9.2.1 12 _ rfl).2) 2 (by decide) (by decide) kF_X11_171 (fun h9 => congrArg va_rf (h9.2.2 12 2 15 rfl)) ?_
      refine ev_iload_n 1 dX11_at_84 rfl ?_
      obtain ⟨c7, h⟩ := am_gd_elim h
      refine ev_iald dX11_at_85 (fun h9 => (h9.2.1 15 _ rfl).2) (am_in_vp c7) ?_
      cases h
      exact ev_iret dX11_at_86 rfl
    replace h := am_ifn c11 h
    by_cases c12 : a2 = (3 : Int32)
    · replace h := am_ifp c12 h
      refine ev_tableIn 87 dX11_at_17 (by rw [c12]; decide) (by rw [c12]; decide) (by rw [c12]; rfl) (by decide) ?_
      refine ev_aload_n 0 dX11_at_87 rfl ?_
      refine ev_gf (v := .ref 1) dX11_at_88 (fun h9 => (h9.2.1 0 _ rfl).2) 0 (by decide) (by decide) kF_X11_14 (fun h9 => congrArg va_rf (h9.2.2 0 0 1 rfl)) ?_
      refine ev_gf (v := .ref 12) dX11_at_91 (fun h9 => (h9.2.1 1 _ rfl).2) 5 (by decide) (by decide) kF_X11_150 (fun h9 => congrArg va_rf (h9.2.2 1 5 12 rfl)) ?_
      refine ev_gf (v := .ref 16) dX11_at_94 (fun h9 => (h9.2.1 12 _ rfl).2) 3 (by decide) (by decide) kF_X11_174 (fun h9 => congrArg va_rf (h9.2.2 12 3 16 rfl)) ?_
      refine ev_iload_n 1 dX11_at_97 rfl ?_
      obtain ⟨c8, h⟩ := am_gd_elim h
      refine ev_iald dX11_at_98 (fun h9 => (h9.2.1 16 _ rfl).2) (am_in_vp c8) ?_
      cases h
      exact ev_iret dX11_at_99 rfl
    replace h := am_ifn c12 h
    refine ev_tableOut 100 dX11_at_17 (by have z0 := am_ti c9 (k := 0) (by decide); have z1 := am_ti c10 (k := 1) (by decide); have z2 := am_ti c11 (k := 2) (by decide); have z3 := am_ti c12 (k := 3) (by decide); omega) (by decide) ?_
    refine ev_iconst dX11_at_100 rfl ?_
    cases h
    exact ev_iret dX11_at_101 rfl
  · replace h := am_ifp c4 h
    refine ev_iconst dX11_at_14 rfl ?_
    cases h
    exact ev_iret dX11_at_15 rfl
theorem tX11_at {a1 : Int32} {a2 : Int32} {g : am_G} {r : Int32 × am_G} (h : fX11_at a1 a2 g = some r) : am_Mt zc MX11_at 2 [.ref 0, .int a1, .int a2] g (am_ri r) := am_Mt.of rfl (Nat.le_of_ble_eq_true rfl) (eX11_at _ _ _ _ h)
def fX11_often (a1 : Int32) (a2 : Int32) (g : am_G) : Option (Int32 × am_G) :=
  am_bd (fX11_within a2 (0 : Int32) (99 : Int32) g) fun v1 g2 =>
  if v1 = 0 then (
    am_bd (fX11_refused (-1 : Int32) g2) fun v19 g20 =>
    some (v19, g20))
  else (
    am_bd (fX10_has a1 g2) fun v5 g6 =>
    if v5 = 0 then (
      am_bd (fX11_refused (-2 : Int32) g6) fun v16 g17 =>
      some (v16, g17))
    else (
      am_gd (am_in a1 16) <|
      am_let (am_I g6 16 a1.toNatClampNeg) fun x10 =>
      am_gd (am_in a1 16) <|
      am_let (am_si g6 16 a1.toNatClampNeg a2) fun g12 =>
      am_bd (fX11_accepted x10 g12) fun v13 g14 =>
      some (v13, g14)))
set_option maxRecDepth 100000 in
set_option maxHeartbeats 4000000 in
theorem eX11_often (a1 : Int32) (a2 : Int32) (g : am_G) (r : Int32 × am_G) (h : fX11_often a1 a2 g = some r) : am_Ev zc MX11_often 2 0 [(0, .ref 0), (1, .int a1), (2, .int a2)] [] g (am_ri r) := by
  unfold fX11_often at h
  refine ev_iload_n 2 dX11_often_0 rfl ?_
  refine ev_iconst dX11_often_1 rfl ?_
  refine ev_bipush dX11_often_2 rfl ?_
  obtain ⟨v1, g2, e3, h⟩ := am_bd_elim h
  refine ev_callSi (v := v1) [.int a2, .int (0 : Int32), .int (99 : Int32)] [] dX11_often_4 (tX11_within e3) (by decide) mo_X11_within kM_X11_136 ks_X11_within (Nat.le_of_ble_eq_true rfl) ?_
  refine ev_if_ne 16 dX11_often_7 (by decide) (fun c4 => ?_) (fun c4 => ?_)
  · replace h := am_ifn c4 h
    refine ev_aload_n 0 dX11_often_16 rfl ?_
    refine ev_gf (v := .ref 1) dX11_often_17 (fun h9 => (h9.2.1 0 _ rfl).2) 0 (by decide) (by decide) kF_X11_14 (fun h9 => congrArg va_rf (h9.2.2 0 0 1 rfl)) ?_
    refine ev_gf (v := .ref 12) dX11_often_20 (fun h9 => (h9.2.1 1 _ rfl).2) 5 (by decide) (by decide) kF_X11_150 (fun h9 => congrArg va_rf (h9.2.2 1 5 12 rfl)) ?_
    refine ev_iload_n 1 dX11_often_23 rfl ?_
    obtain ⟨v5, g6, e7, h⟩ := am_bd_elim h
    refine ev_callVi (v := v5) [.int a1] [] dX11_often_24 (tX10_has e7) (by decide) mo_X10_has kM_X11_162 ki_X10_has kv_X10_has (fun h9 => (h9.2.1 12 _ rfl).2) (by decide) rfl (Nat.le_of_ble_eq_true rfl) ?_
    refine ev_if_ne 37 dX11_often_27 (by decide) (fun c8 => ?_) (fun c8 => ?_)
    · replace h := am_ifn c8 h
      refine ev_aload_n 0 dX11_often_37 rfl ?_
      refine ev_gf (v := .ref 1) dX11_often_38 (fun h9 => (h9.2.1 0 _ rfl).2) 0 (by decide) (by decide) kF_X11_14 (fun h9 => congrArg va_rf (h9.2.2 0 0 1 rfl)) ?_
      refine ev_gf (v := .ref 12) dX11_often_41 (fun h9 => (h9.2.1 1 _ rfl).2) 5 (by decide) (by decide) kF_X11_150 (fun h9 => congrArg va_rf (h9.2.2 1 5 12 rfl)) ?_
      refine ev_gf (v := .ref 16) dX11_often_44 (fun h9 => (h9.2.1 12 _ rfl).2) 3 (by decide) (by decide) kF_X11_174 (fun h9 => congrArg va_rf (h9.2.2 12 3 16 rfl)) ?_
      refine ev_iload_n 1 dX11_often_47 rfl ?_
      obtain ⟨c9, h⟩ := am_gd_elim h
      refine ev_iald dX11_often_48 (fun h9 => (h9.2.1 16 _ rfl).2) (am_in_vp c9) ?_
      refine am_let_elim (P := fun x10 => am_Ev zc MX11_often 2 49 [(0, .ref 0), (1, .int a1), (2, .int a2)] [.int x10] g6 (am_ri r)) h fun x10 h => ?_
      refine ev_istore_n (ls' := [(3, .int x10), (0, .ref 0), (1, .int a1), (2, .int a2)]) dX11_often_49 rfl (by decide) rfl ?_
      refine ev_aload_n 1 dX11_often_50 rfl ?_
      refine ev_gf (v := .ref 1) dX11_often_51 (fun h9 => (h9.2.1 0 _ rfl).2) 0 (by decide) (by decide) kF_X11_14 (fun h9 => congrArg va_rf (h9.2.2 0 0 1 rfl)) ?_
      refine ev_gf (v := .ref 12) dX11_often_54 (fun h9 => (h9.2.1 1 _ rfl).2) 5 (by decide) (by decide) kF_X11_150 (fun h9 => congrArg va_rf (h9.2.2 1 5 12 rfl)) ?_
      refine ev_gf (v := .ref 16) dX11_often_57 (fun h9 => (h9.2.1 12 _ rfl).2) 3 (by decide) (by decide) kF_X11_174 (fun h9 => congrArg va_rf (h9.2.2 12 3 16 rfl)) ?_
      refine ev_iload_n 2 dX11_often_60 rfl ?_
      refine ev_iload_n 3 dX11_often_61 rfl ?_
      obtain ⟨c11, h⟩ := am_gd_elim h
      refine ev_iast dX11_often_62 (fun h9 => (h9.2.1 16 _ rfl).2) (am_in_vp c11) ?_
      refine am_let_elim (P := fun g12 => am_Ev zc MX11_often 2 63 [(3, .int x10), (0, .ref 0), (1, .int a1), (2, .int a2)] [] g12 (am_ri r)) h fun g12 h => ?_
      refine ev_aload_n 1 dX11_often_63 rfl ?_
      refine ev_iload_n 0 dX11_often_64 rfl ?_
      obtain ⟨v13, g14, e15, h⟩ := am_bd_elim h
      refine ev_callVi (v := v13) [.int x10] [] dX11_often_65 (tX11_accepted e15) (by decide) mo_X11_accepted kM_X11_133 ki_X11_accepted kv_X11_accepted (fun h9 => (h9.2.1 0 _ rfl).2) (by decide) rfl (Nat.le_of_ble_eq_true rfl) ?_
      cases h
      exact ev_iret dX11_often_68 rfl
    · replace h := am_ifp c8 h
      refine ev_aload_n 0 dX11_often_30 rfl ?_
      refine ev_bipush dX11_often_31 rfl ?_
      obtain ⟨v16, g17, e18, h⟩ := am_bd_elim h
      refine ev_callVi (v := v16) [.int (-2 : Int32)] [] dX11_often_33 (tX11_refused e18) (by decide) mo_X11_refused kM_X11_104 ki_X11_refused kv_X11_refused (fun h9 => (h9.2.1 0 _ rfl).2) (by decide) rfl (Nat.le_of_ble_eq_true rfl) ?_
      cases h
      exact ev_iret dX11_often_36 rfl
  · replace h := am_ifp c4 h
    refine ev_aload_n 0 dX11_often_10 rfl ?_
    refine ev_iconst dX11_often_11 rfl ?_
    obtain ⟨v19, g20, e21, h⟩ := am_bd_elim h
    refine ev_callVi (v := v19) [.int (-1 : Int32)] [] dX11_often_12 (tX11_refused e21) (by decide) mo_X11_refused kM_X11_104 ki_X11_refused kv_X11_refused (fun h9 => (h9.2.1 0 _ rfl).2) (by decide) rfl (Nat.le_of_ble_eq_true rfl) ?_
    cases h
    exact ev_iret dX11_often_15 rfl
theorem tX11_often {a1 : Int32} {a2 : Int32} {g : am_G} {r : Int32 × am_G} (h : fX11_often a1 a2 g = some r) : am_Mt zc MX11_often 2 [.ref 0, .int a1, .int a2] g (am_ri r) := am_Mt.of rfl (Nat.le_of_ble_eq_true rfl) (eX11_often _ _ _ _ h)
def fX11_terms (a1 : Int32) (a2 : Int32) (g : am_G) : Option (Int32 × am_G) :=
  am_jn (fun (x2 : Int32) (g3 : am_G) =>
    am_bd (fX11_within a1 (0 : Int32) (1 : Int32) g3) fun v5 g6 =>
    if v5 = 0 then (
      am_bd (fX11_refused (-1 : Int32) g6) fun v9 g10 =>
      some (v9, g10))
    else (
      am_bd (fX11_within a2 (0 : Int32) x2 g6) fun v12 g13 =>
      if v12 = 0 then (
        am_bd (fX11_refused (-1 : Int32) g13) fun v35 g36 =>
        some (v35, g36))
      else (
        am_jn (fun (x17 : Int32) (g18 : am_G) =>
          if a1 = 0 then (
            am_let (am_si g18 2 5 a2) fun g28 =>
            am_bd (fX8_clear g28) fun u29 g30 =>
            am_bd (fX11_accepted x17 g30) fun v32 g33 =>
            some (v32, g33))
          else (
            am_let (am_si g18 1 19 a2) fun g21 =>
            am_bd (fX8_clear g21) fun u22 g23 =>
            am_bd (fX11_accepted x17 g23) fun v25 g26 =>
            some (v25, g26))) fun j19 =>
        if a1 = 0 then (
          j19 (am_I g13 2 5) g13)
        else (
          j19 (am_I g13 1 19) g13)))) fun j4 =>
  if a1 = 0 then (
    j4 (999 : Int32) g)
  else (
    j4 (9 : Int32) g)
set_option maxRecDepth 100000 in
set_option maxHeartbeats 4000000 in
theorem eX11_terms (a1 : Int32) (a2 : Int32) (g : am_G) (r : Int32 × am_G) (h : fX11_terms a1 a2 g = some r) : am_Ev zc MX11_terms 1 0 [(0, .ref 0), (1, .int a1), (2, .int a2)] [] g (am_ri r) := by
  unfold fX11_terms at h
  refine ev_iload_n 1 dX11_terms_0 rfl ?_
  refine am_jn_elim (fun q9 => ∀ (x2 : Int32) (g3 : am_G) (r : Int32 × am_G), q9 x2 g3 = some r → am_Ev zc MX11_terms 1 12 [(0, .ref 0), (1, .int a1), (2, .int a2)] [.int x2] g3 (am_ri r)) h ?_ (fun j4 hj4 h => ?_)
  · intro x2 g3 r h
    try dsimp only at h
    refine ev_istore_n (ls' := [(3, .int x2), (0, .ref 0), (1, .int a1), (2, .int a2)]) dX11_terms_12 rfl (by decide) rfl ?_
    refine ev_iload_n 2 dX11_terms_13 rfl ?_
    refine ev_iconst dX11_terms_14 rfl ?_
    refine ev_iconst dX11_terms_15 rfl ?_
    obtain ⟨v5, g6, e7, h⟩ := am_bd_elim h
    refine ev_callSi (v := v5) [.int a1, .int (0 : Int32), .int (1 : Int32)] [] dX11_terms_16 (tX11_within e7) (by decide) mo_X11_within kM_X11_136 ks_X11_within (Nat.le_of_ble_eq_true rfl) ?_
    refine ev_if_eq 31 dX11_terms_19 (by decide) (fun c8 => ?_) (fun c8 => ?_)
    · replace h := am_ifp c8 h
      refine ev_aload_n 1 dX11_terms_31 rfl ?_
      refine ev_iconst dX11_terms_32 rfl ?_
      obtain ⟨v9, g10, e11, h⟩ := am_bd_elim h
      refine ev_callVi (v := v9) [.int (-1 : Int32)] [] dX11_terms_33 (tX11_refused e11) (by decide) mo_X11_refused kM_X11_104 ki_X11_refused kv_X11_refused (fun h9 => (h9.2.1 0 _ rfl).2) (by decide) rfl (Nat.le_of_ble_eq_true rfl) ?_
      cases h
      exact ev_iret dX11_terms_36 rfl
    · replace h := am_ifn c8 h
      refine ev_iload_n 3 dX11_terms_22 rfl ?_
      refine ev_iconst dX11_terms_23 rfl ?_
      refine ev_iload_n 0 dX11_terms_24 rfl ?_
      obtain ⟨v12, g13, e14, h⟩ := am_bd_elim h
      refine ev_callSi (v := v12) [.int a2, .int (0 : Int32), .int x2] [] dX11_terms_25 (tX11_within e14) (by decide) mo_X11_within kM_X11_136 ks_X11_within (Nat.le_of_ble_eq_true rfl) ?_
      refine ev_if_ne 37 dX11_terms_28 (by decide) (fun c15 => ?_) (fun c15 => ?_)
      · replace h := am_ifn c15 h
        refine ev_iload_n 2 dX11_terms_37 rfl ?_
        refine am_jn_elim (fun q9 => ∀ (x17 : Int32) (g18 : am_G) (r : Int32 × am_G), q9 x17 g18 = some r → am_Ev zc MX11_terms 1 61 [(0, .ref 0), (1, .int a1), (2, .int a2)] [.int x17] g18 (am_ri r)) h ?_ (fun j19 hj19 h => ?_)
        · intro x17 g18 r h
          try dsimp only at h
          refine ev_istore (ls' := [(4, .int x17), (0, .ref 0), (1, .int a1), (2, .int a2)]) dX11_terms_61 (by decide) rfl ?_
          refine ev_iload_n 2 dX11_terms_63 rfl ?_
          refine ev_if_ne 81 dX11_terms_64 (by decide) (fun c20 => ?_) (fun c20 => ?_)
          · replace h := am_ifn c20 h
            refine ev_aload_n 1 dX11_terms_81 rfl ?_
            refine ev_gf (v := .ref 1) dX11_terms_82 (fun h9 => (h9.2.1 0 _ rfl).2) 0 (by decide) (by decide) kF_X11_14 (fun h9 => congrArg va_rf (h9.2.2 0 0 1 rfl)) ?_
            refine ev_iload_n 3 dX11_terms_85 rfl ?_
            refine ev_pfi dX11_terms_86 (fun h9 => (h9.2.1 1 _ rfl).2) 19 (by decide) (by decide) kF_X11_180 rfl rfl rfl (fun _ => rfl) ?_
            refine am_let_elim (P := fun g21 => am_Ev zc MX11_terms 1 89 [(4, .int x17), (0, .ref 0), (1, .int a1), (2, .int a2)] [] g21 (am_ri r)) h fun g21 h => ?_
            refine ev_aload_n 1 dX11_terms_89 rfl ?_
            refine ev_gf (v := .ref 26) dX11_terms_90 (fun h9 => (h9.2.1 0 _ rfl).2) 2 (by decide) (by decide) kF_X11_25 (fun h9 => congrArg va_rf (h9.2.2 0 2 26 rfl)) ?_
            obtain ⟨u22, g23, e24, h⟩ := am_bd_elim h
            refine ev_callVv [] [] dX11_terms_93 (tX8_clear e24) (by decide) mo_X8_clear kM_X11_130 ki_X8_clear kv_X8_clear (fun h9 => (h9.2.1 26 _ rfl).2) (by decide) rfl (Nat.le_of_ble_eq_true rfl) ?_
            refine ev_aload_n 1 dX11_terms_96 rfl ?_
            refine ev_iload 0 dX11_terms_97 rfl ?_
            obtain ⟨v25, g26, e27, h⟩ := am_bd_elim h
            refine ev_callVi (v := v25) [.int x17] [] dX11_terms_99 (tX11_accepted e27) (by decide) mo_X11_accepted kM_X11_133 ki_X11_accepted kv_X11_accepted (fun h9 => (h9.2.1 0 _ rfl).2) (by decide) rfl (Nat.le_of_ble_eq_true rfl) ?_
            cases h
            exact ev_iret dX11_terms_102 rfl
          · replace h := am_ifp c20 h
            refine ev_aload_n 1 dX11_terms_67 rfl ?_
            refine ev_gf (v := .ref 1) dX11_terms_68 (fun h9 => (h9.2.1 0 _ rfl).2) 0 (by decide) (by decide) kF_X11_14 (fun h9 => congrArg va_rf (h9.2.2 0 0 1 rfl)) ?_
            refine ev_gf (v := .ref 2) dX11_terms_71 (fun h9 => (h9.2.1 1 _ rfl).2) 0 (by decide) (by decide) kF_X11_112 (fun h9 => congrArg va_rf (h9.2.2 1 0 2 rfl)) ?_
            refine ev_iload_n 3 dX11_terms_74 rfl ?_
            refine ev_pfi dX11_terms_75 (fun h9 => (h9.2.1 2 _ rfl).2) 5 (by decide) (by decide) kF_X11_177 rfl rfl rfl (fun _ => rfl) ?_
            refine am_let_elim (P := fun g28 => am_Ev zc MX11_terms 1 78 [(4, .int x17), (0, .ref 0), (1, .int a1), (2, .int a2)] [] g28 (am_ri r)) h fun g28 h => ?_
            refine ev_goto 89 dX11_terms_78 (by decide) ?_
            refine ev_aload_n 1 dX11_terms_89 rfl ?_
            refine ev_gf (v := .ref 26) dX11_terms_90 (fun h9 => (h9.2.1 0 _ rfl).2) 2 (by decide) (by decide) kF_X11_25 (fun h9 => congrArg va_rf (h9.2.2 0 2 26 rfl)) ?_
            obtain ⟨u29, g30, e31, h⟩ := am_bd_elim h
            refine ev_callVv [] [] dX11_terms_93 (tX8_clear e31) (by decide) mo_X8_clear kM_X11_130 ki_X8_clear kv_X8_clear (fun h9 => (h9.2.1 26 _ rfl).2) (by decide) rfl (Nat.le_of_ble_eq_true rfl) ?_
            refine ev_aload_n 1 dX11_terms_96 rfl ?_
            refine ev_iload 0 dX11_terms_97 rfl ?_
            obtain ⟨v32, g33, e34, h⟩ := am_bd_elim h
            refine ev_callVi (v := v32) [.int x17] [] dX11_terms_99 (tX11_accepted e34) (by decide) mo_X11_accepted kM_X11_133 ki_X11_accepted kv_X11_accepted (fun h9 => (h9.2.1 0 _ rfl).2) (by decide) rfl (Nat.le_of_ble_eq_true rfl) ?_
            cases h
            exact ev_iret dX11_terms_102 rfl
        · refine ev_if_ne 54 dX11_terms_38 (by decide) (fun c16 => ?_) (fun c16 => ?_)
          · replace h := am_ifn c16 h
            refine ev_aload_n 1 dX11_terms_54 rfl ?_
            refine ev_gf (v := .ref 1) dX11_terms_55 (fun h9 => (h9.2.1 0 _ rfl).2) 0 (by decide) (by decide) kF_X11_14 (fun h9 => congrArg va_rf (h9.2.2 0 0 1 rfl)) ?_
            refine ev_gf (v := .int (am_I g13 1 19)) dX11_terms_58 (fun h9 => (h9.2.1 1 _ rfl).2) 19 (by decide) (by decide) kF_X11_180 (fun _ => rfl) ?_
            refine ev_sub [1, 2, 3] rfl ?_
            exact hj19 _ _ _ h
          · replace h := am_ifp c16 h
            refine ev_aload_n 1 dX11_terms_41 rfl ?_
            refine ev_gf (v := .ref 1) dX11_terms_42 (fun h9 => (h9.2.1 0 _ rfl).2) 0 (by decide) (by decide) kF_X11_14 (fun h9 => congrArg va_rf (h9.2.2 0 0 1 rfl)) ?_
            refine ev_gf (v := .ref 2) dX11_terms_45 (fun h9 => (h9.2.1 1 _ rfl).2) 0 (by decide) (by decide) kF_X11_112 (fun h9 => congrArg va_rf (h9.2.2 1 0 2 rfl)) ?_
            refine ev_gf (v := .int (am_I g13 2 5)) dX11_terms_48 (fun h9 => (h9.2.1 2 _ rfl).2) 5 (by decide) (by decide) kF_X11_177 (fun _ => rfl) ?_
            refine ev_goto 61 dX11_terms_51 (by decide) ?_
            refine ev_sub [1, 2, 3] rfl ?_
            exact hj19 _ _ _ h
      · replace h := am_ifp c15 h
        refine ev_aload_n 1 dX11_terms_31 rfl ?_
        refine ev_iconst dX11_terms_32 rfl ?_
        obtain ⟨v35, g36, e37, h⟩ := am_bd_elim h
        refine ev_callVi (v := v35) [.int (-1 : Int32)] [] dX11_terms_33 (tX11_refused e37) (by decide) mo_X11_refused kM_X11_104 ki_X11_refused kv_X11_refused (fun h9 => (h9.2.1 0 _ rfl).2) (by decide) rfl (Nat.le_of_ble_eq_true rfl) ?_
        cases h
        exact ev_iret dX11_terms_36 rfl
  · refine ev_if_ne 10 dX11_terms_1 (by decide) (fun c1 => ?_) (fun c1 => ?_)
    · replace h := am_ifn c1 h
      refine ev_bipush dX11_terms_10 rfl ?_
      refine ev_sub [0, 1, 2] rfl ?_
      exact hj4 _ _ _ h
    · replace h := am_ifp c1 h
      refine ev_sipush dX11_terms_4 rfl ?_
      refine ev_goto 12 dX11_terms_7 (by decide) ?_
      refine ev_sub [0, 1, 2] rfl ?_
      exact hj4 _ _ _ h
theorem tX11_terms {a1 : Int32} {a2 : Int32} {g : am_G} {r : Int32 × am_G} (h : fX11_terms a1 a2 g = some r) : am_Mt zc MX11_terms 1 [.ref 0, .int a1, .int a2] g (am_ri r) := am_Mt.of rfl (Nat.le_of_ble_eq_true rfl) (eX11_terms _ _ _ _ h)
def fX11_feed (a1 : Int32) (a2 : Int32) (a3 : Int32) (a4 : Int32) (a5 : Int32) (g : am_G) : Option (Int32 × am_G) :=
  if ((am_I g 29 4) + (20 : Int32)) ≤ (400 : Int32) then (
    am_bd (fX5_append a1 g) fun u2 g3 =>
    am_bd (fX5_append a2 g3) fun u5 g6 =>
    am_bd (fX5_append a3 g6) fun u8 g9 =>
    am_bd (fX5_append a4 g9) fun u11 g12 =>
    am_bd (fX5_append a5 g12) fun u14 g15 =>
    some (am_I g15 29 4, g15))
  else (
    some ((-1 : Int32), g))
set_option maxRecDepth 100000 in
set_option maxHeartbeats 4000000 in
theorem eX11_feed (a1 : Int32) (a2 : Int32) (a3 : Int32) (a4 : Int32) (a5 : Int32) (g : am_G) (r : Int32 × am_G) (h : fX11_feed a1 a2 a3 a4 a5 g = some r) : am_Ev zc MX11_feed 1 0 [(0, .ref 0), (1, .int a1), (2, .int a2), (3, .int a3), (4, .int a4), (5, .int a5)] [] g (am_ri r) := by
  unfold fX11_feed at h
  refine ev_aload_n 0 dX11_feed_0 rfl ?_
  refine ev_gf (v := .ref 29) dX11_feed_1 (fun h9 => (h9.2.1 0 _ rfl).2) 3 (by decide) (by decide) kF_X11_32 (fun h9 => congrArg va_rf (h9.2.2 0 3 29 rfl)) ?_
  refine ev_gf (v := .int (am_I g 29 4)) dX11_feed_4 (fun h9 => (h9.2.1 29 _ rfl).2) 4 (by decide) (by decide) kF_X11_183 (fun _ => rfl) ?_
  refine ev_bipush dX11_feed_7 rfl ?_
  refine ev_iadd dX11_feed_9 ?_
  refine ev_sipush dX11_feed_10 rfl ?_
  refine ev_icmp_le 18 dX11_feed_13 (by decide) (fun c1 => ?_) (fun c1 => ?_)
  · replace h := am_ifp c1 h
    refine ev_aload_n 0 dX11_feed_18 rfl ?_
    refine ev_gf (v := .ref 29) dX11_feed_19 (fun h9 => (h9.2.1 0 _ rfl).2) 3 (by decide) (by decide) kF_X11_32 (fun h9 => congrArg va_rf (h9.2.2 0 3 29 rfl)) ?_
    refine ev_iload_n 1 dX11_feed_22 rfl ?_
    obtain ⟨u2, g3, e4, h⟩ := am_bd_elim h
    refine ev_callVv [.int a1] [] dX11_feed_23 (tX5_append e4) (by decide) mo_X5_append kM_X11_186 ki_X5_append kv_X5_append (fun h9 => (h9.2.1 29 _ rfl).2) (by decide) rfl (Nat.le_of_ble_eq_true rfl) ?_
    refine ev_aload_n 0 dX11_feed_26 rfl ?_
    refine ev_gf (v := .ref 29) dX11_feed_27 (fun h9 => (h9.2.1 0 _ rfl).2) 3 (by decide) (by decide) kF_X11_32 (fun h9 => congrArg va_rf (h9.2.2 0 3 29 rfl)) ?_
    refine ev_iload_n 2 dX11_feed_30 rfl ?_
    obtain ⟨u5, g6, e7, h⟩ := am_bd_elim h
    refine ev_callVv [.int a2] [] dX11_feed_31 (tX5_append e7) (by decide) mo_X5_append kM_X11_186 ki_X5_append kv_X5_append (fun h9 => (h9.2.1 29 _ rfl).2) (by decide) rfl (Nat.le_of_ble_eq_true rfl) ?_
    refine ev_aload_n 0 dX11_feed_34 rfl ?_
    refine ev_gf (v := .ref 29) dX11_feed_35 (fun h9 => (h9.2.1 0 _ rfl).2) 3 (by decide) (by decide) kF_X11_32 (fun h9 => congrArg va_rf (h9.2.2 0 3 29 rfl)) ?_
    refine ev_iload_n 3 dX11_feed_38 rfl ?_
    obtain ⟨u8, g9, e10, h⟩ := am_bd_elim h
    refine ev_callVv [.int a3] [] dX11_feed_39 (tX5_append e10) (by decide) mo_X5_append kM_X11_186 ki_X5_append kv_X5_append (fun h9 => (h9.2.1 29 _ rfl).2) (by decide) rfl (Nat.le_of_ble_eq_true rfl) ?_
    refine ev_aload_n 0 dX11_feed_42 rfl ?_
    refine ev_gf (v := .ref 29) dX11_feed_43 (fun h9 => (h9.2.1 0 _ rfl).2) 3 (by decide) (by decide) kF_X11_32 (fun h9 => congrArg va_rf (h9.2.2 0 3 29 rfl)) ?_
    refine ev_iload 4 dX11_feed_46 rfl ?_
    obtain ⟨u11, g12, e13, h⟩ := am_bd_elim h
    refine ev_callVv [.int a4] [] dX11_feed_48 (tX5_append e13) (by decide) mo_X5_append kM_X11_186 ki_X5_append kv_X5_append (fun h9 => (h9.2.1 29 _ rfl).2) (by decide) rfl (Nat.le_of_ble_eq_true rfl) ?_
    refine ev_aload_n 0 dX11_feed_51 rfl ?_
    refine ev_gf (v := .ref 29) dX11_feed_52 (fun h9 => (h9.2.1 0 _ rfl).2) 3 (by decide) (by decide) kF_X11_32 (fun h9 => congrArg va_rf (h9.2.2 0 3 29 rfl)) ?_
    refine ev_iload 5 dX11_feed_55 rfl ?_
    obtain ⟨u14, g15, e16, h⟩ := am_bd_elim h
    refine ev_callVv [.int a5] [] dX11_feed_57 (tX5_append e16) (by decide) mo_X5_append kM_X11_186 ki_X5_append kv_X5_append (fun h9 => (h9.2.1 29 _ rfl).2) (by decide) rfl (Nat.le_of_ble_eq_true rfl) ?_
    refine ev_aload_n 0 dX11_feed_60 rfl ?_
    refine ev_gf (v := .ref 29) dX11_feed_61 (fun h9 => (h9.2.1 0 _ rfl).2) 3 (by decide) (by decide) kF_X11_32 (fun h9 => congrArg va_rf (h9.2.2 0 3 29 rfl)) ?_
    refine ev_gf (v := .int (am_I g15 29 4)) dX11_feed_64 (fun h9 => (h9.2.1 29 _ rfl).2) 4 (by decide) (by decide) kF_X11_183 (fun _ => rfl) ?_
    cases h
    exact ev_iret dX11_feed_67 rfl
  · replace h := am_ifn c1 h
    refine ev_iconst dX11_feed_16 rfl ?_
    cases h
    exact ev_iret dX11_feed_17 rfl
theorem tX11_feed {a1 : Int32} {a2 : Int32} {a3 : Int32} {a4 : Int32} {a5 : Int32} {g : am_G} {r : Int32 × am_G} (h : fX11_feed a1 a2 a3 a4 a5 g = some r) : am_Mt zc MX11_feed 1 [.ref 0, .int a1, .int a2, .int a3, .int a4, .int a5] g (am_ri r) := am_Mt.of rfl (Nat.le_of_ble_eq_true rfl) (eX11_feed _ _ _ _ _ _ _ h)
def fX11_end (a1 : Int32) (g : am_G) : Option (Int32 × am_G) :=
  am_bd (fX11_within a1 (0 : Int32) (am_I g 29 4) g) fun v1 g2 =>
  if v1 = 0 then (
    some ((-1 : Int32), g2))
  else (
    am_let (am_si g2 29 4 a1) fun g5 =>
    some (a1, g5))
set_option maxRecDepth 100000 in
set_option maxHeartbeats 4000000 in
theorem eX11_end (a1 : Int32) (g : am_G) (r : Int32 × am_G) (h : fX11_end a1 g = some r) : am_Ev zc MX11_end 1 0 [(0, .ref 0), (1, .int a1)] [] g (am_ri r) := by
  unfold fX11_end at h
  refine ev_iload_n 1 dX11_end_0 rfl ?_
  refine ev_iconst dX11_end_1 rfl ?_
  refine ev_aload_n 0 dX11_end_2 rfl ?_
  refine ev_gf (v := .ref 29) dX11_end_3 (fun h9 => (h9.2.1 0 _ rfl).2) 3 (by decide) (by decide) kF_X11_32 (fun h9 => congrArg va_rf (h9.2.2 0 3 29 rfl)) ?_
  refine ev_gf (v := .int (am_I g 29 4)) dX11_end_6 (fun h9 => (h9.2.1 29 _ rfl).2) 4 (by decide) (by decide) kF_X11_183 (fun _ => rfl) ?_
  obtain ⟨v1, g2, e3, h⟩ := am_bd_elim h
  refine ev_callSi (v := v1) [.int a1, .int (0 : Int32), .int (am_I g 29 4)] [] dX11_end_9 (tX11_within e3) (by decide) mo_X11_within kM_X11_136 ks_X11_within (Nat.le_of_ble_eq_true rfl) ?_
  refine ev_if_ne 17 dX11_end_12 (by decide) (fun c4 => ?_) (fun c4 => ?_)
  · replace h := am_ifn c4 h
    refine ev_aload_n 0 dX11_end_17 rfl ?_
    refine ev_gf (v := .ref 29) dX11_end_18 (fun h9 => (h9.2.1 0 _ rfl).2) 3 (by decide) (by decide) kF_X11_32 (fun h9 => congrArg va_rf (h9.2.2 0 3 29 rfl)) ?_
    refine ev_iload_n 1 dX11_end_21 rfl ?_
    refine ev_pfi dX11_end_22 (fun h9 => (h9.2.1 29 _ rfl).2) 4 (by decide) (by decide) kF_X11_183 rfl rfl rfl (fun _ => rfl) ?_
    refine am_let_elim (P := fun g5 => am_Ev zc MX11_end 1 25 [(0, .ref 0), (1, .int a1)] [] g5 (am_ri r)) h fun g5 h => ?_
    refine ev_iload_n 1 dX11_end_25 rfl ?_
    cases h
    exact ev_iret dX11_end_26 rfl
  · replace h := am_ifp c4 h
    refine ev_iconst dX11_end_15 rfl ?_
    cases h
    exact ev_iret dX11_end_16 rfl
theorem tX11_end {a1 : Int32} {g : am_G} {r : Int32 × am_G} (h : fX11_end a1 g = some r) : am_Mt zc MX11_end 1 [.ref 0, .int a1] g (am_ri r) := am_Mt.of rfl (Nat.le_of_ble_eq_true rfl) (eX11_end _ _ _ h)
def fX11_coinFromTape (a1 : Int32) (g : am_G) : Option (Int32 × am_G) :=
  if (am_I g 29 4) < (a1 + (3 : Int32)) then (
    some ((0 : Int32), g))
  else (
    am_bd (fX10_isFull g) fun v2 g3 =>
    if v2 = 0 then (
      am_bd (fX5_byteAt a1 g3) fun v6 g7 =>
      am_bd (fX5_byteAt (a1 + (1 : Int32)) g7) fun v9 g10 =>
      am_bd (fX5_byteAt (a1 + (2 : Int32)) g10) fun v12 g13 =>
      am_bd (fX10_canBe v6 v9 v12 g13) fun v15 g16 =>
      if v15 = 0 then (
        some ((0 : Int32), g16))
      else (
        am_bd (fX10_coin v6 v9 v12 g16) fun v19 g20 =>
        some ((1 : Int32), g20)))
    else (
      some ((0 : Int32), g3)))
set_option maxRecDepth 100000 in
set_option maxHeartbeats 4000000 in
theorem eX11_coinFromTape (a1 : Int32) (g : am_G) (r : Int32 × am_G) (h : fX11_coinFromTape a1 g = some r) : am_Ev zc MX11_coinFromTape 2 0 [(0, .ref 0), (1, .int a1)] [] g (am_ri r) := by
  unfold fX11_coinFromTape at h
  refine ev_iload_n 1 dX11_coinFromTape_0 rfl ?_
  refine ev_iconst dX11_coinFromTape_1 rfl ?_
  refine ev_iadd dX11_coinFromTape_2 ?_
  refine ev_aload_n 0 dX11_coinFromTape_3 rfl ?_
  refine ev_gf (v := .ref 29) dX11_coinFromTape_4 (fun h9 => (h9.2.1 0 _ rfl).2) 3 (by decide) (by decide) kF_X11_32 (fun h9 => congrArg va_rf (h9.2.2 0 3 29 rfl)) ?_
  refine ev_gf (v := .int (am_I g 29 4)) dX11_coinFromTape_7 (fun h9 => (h9.2.1 29 _ rfl).2) 4 (by decide) (by decide) kF_X11_183 (fun _ => rfl) ?_
  refine ev_icmp_gt 26 dX11_coinFromTape_10 (by decide) (fun c1 => ?_) (fun c1 => ?_)
  · replace h := am_ifp c1 h
    refine ev_iconst dX11_coinFromTape_26 rfl ?_
    cases h
    exact ev_zret dX11_coinFromTape_27 rfl rfl
  · replace h := am_ifn c1 h
    refine ev_aload_n 0 dX11_coinFromTape_13 rfl ?_
    refine ev_gf (v := .ref 1) dX11_coinFromTape_14 (fun h9 => (h9.2.1 0 _ rfl).2) 0 (by decide) (by decide) kF_X11_14 (fun h9 => congrArg va_rf (h9.2.2 0 0 1 rfl)) ?_
    refine ev_gf (v := .ref 12) dX11_coinFromTape_17 (fun h9 => (h9.2.1 1 _ rfl).2) 5 (by decide) (by decide) kF_X11_150 (fun h9 => congrArg va_rf (h9.2.2 1 5 12 rfl)) ?_
    obtain ⟨v2, g3, e4, h⟩ := am_bd_elim h
    refine ev_callVi (v := v2) [] [] dX11_coinFromTape_20 (tX10_isFull e4) (by decide) mo_X10_isFull kM_X11_154 ki_X10_isFull kv_X10_isFull (fun h9 => (h9.2.1 12 _ rfl).2) (by decide) rfl (Nat.le_of_ble_eq_true rfl) ?_
    refine ev_if_eq 28 dX11_coinFromTape_23 (by decide) (fun c5 => ?_) (fun c5 => ?_)
    · replace h := am_ifp c5 h
      refine ev_aload_n 0 dX11_coinFromTape_28 rfl ?_
      refine ev_gf (v := .ref 29) dX11_coinFromTape_29 (fun h9 => (h9.2.1 0 _ rfl).2) 3 (by decide) (by decide) kF_X11_32 (fun h9 => congrArg va_rf (h9.2.2 0 3 29 rfl)) ?_
      refine ev_iload_n 1 dX11_coinFromTape_32 rfl ?_
      obtain ⟨v6, g7, e8, h⟩ := am_bd_elim h
      refine ev_callVi (v := v6) [.int a1] [] dX11_coinFromTape_33 (tX5_byteAt e8) (by decide) mo_X5_byteAt kM_X11_196 ki_X5_byteAt kv_X5_byteAt (fun h9 => (h9.2.1 29 _ rfl).2) (by decide) rfl (Nat.le_of_ble_eq_true rfl) ?_
      refine ev_istore_n (ls' := [(2, .int v6), (0, .ref 0), (1, .int a1)]) dX11_coinFromTape_36 rfl (by decide) rfl ?_
      refine ev_aload_n 1 dX11_coinFromTape_37 rfl ?_
      refine ev_gf (v := .ref 29) dX11_coinFromTape_38 (fun h9 => (h9.2.1 0 _ rfl).2) 3 (by decide) (by decide) kF_X11_32 (fun h9 => congrArg va_rf (h9.2.2 0 3 29 rfl)) ?_
      refine ev_iload_n 2 dX11_coinFromTape_41 rfl ?_
      refine ev_iconst dX11_coinFromTape_42 rfl ?_
      refine ev_iadd dX11_coinFromTape_43 ?_
      obtain ⟨v9, g10, e11, h⟩ := am_bd_elim h
      refine ev_callVi (v := v9) [.int (a1 + (1 : Int32))] [] dX11_coinFromTape_44 (tX5_byteAt e11) (by decide) mo_X5_byteAt kM_X11_196 ki_X5_byteAt kv_X5_byteAt (fun h9 => (h9.2.1 29 _ rfl).2) (by decide) rfl (Nat.le_of_ble_eq_true rfl) ?_
      refine ev_istore_n (ls' := [(3, .int v9), (2, .int v6), (0, .ref 0), (1, .int a1)]) dX11_coinFromTape_47 rfl (by decide) rfl ?_
      refine ev_aload_n 2 dX11_coinFromTape_48 rfl ?_
      refine ev_gf (v := .ref 29) dX11_coinFromTape_49 (fun h9 => (h9.2.1 0 _ rfl).2) 3 (by decide) (by decide) kF_X11_32 (fun h9 => congrArg va_rf (h9.2.2 0 3 29 rfl)) ?_
      refine ev_iload_n 3 dX11_coinFromTape_52 rfl ?_
      refine ev_iconst dX11_coinFromTape_53 rfl ?_
      refine ev_iadd dX11_coinFromTape_54 ?_
      obtain ⟨v12, g13, e14, h⟩ := am_bd_elim h
      refine ev_callVi (v := v12) [.int (a1 + (2 : Int32))] [] dX11_coinFromTape_55 (tX5_byteAt e14) (by decide) mo_X5_byteAt kM_X11_196 ki_X5_byteAt kv_X5_byteAt (fun h9 => (h9.2.1 29 _ rfl).2) (by decide) rfl (Nat.le_of_ble_eq_true rfl) ?_
      refine ev_istore (ls' := [(4, .int v12), (3, .int v9), (2, .int v6), (0, .ref 0), (1, .int a1)]) dX11_coinFromTape_58 (by decide) rfl ?_
      refine ev_iload_n 2 dX11_coinFromTape_60 rfl ?_
      refine ev_iload_n 1 dX11_coinFromTape_61 rfl ?_
      refine ev_iload 0 dX11_coinFromTape_62 rfl ?_
      obtain ⟨v15, g16, e17, h⟩ := am_bd_elim h
      refine ev_callSi (v := v15) [.int v6, .int v9, .int v12] [] dX11_coinFromTape_64 (tX10_canBe e17) (by decide) mo_X10_canBe kM_X11_145 ks_X10_canBe (Nat.le_of_ble_eq_true rfl) ?_
      refine ev_if_ne 72 dX11_coinFromTape_67 (by decide) (fun c18 => ?_) (fun c18 => ?_)
      · replace h := am_ifn c18 h
        refine ev_aload_n 3 dX11_coinFromTape_72 rfl ?_
        refine ev_gf (v := .ref 1) dX11_coinFromTape_73 (fun h9 => (h9.2.1 0 _ rfl).2) 0 (by decide) (by decide) kF_X11_14 (fun h9 => congrArg va_rf (h9.2.2 0 0 1 rfl)) ?_
        refine ev_gf (v := .ref 12) dX11_coinFromTape_76 (fun h9 => (h9.2.1 1 _ rfl).2) 5 (by decide) (by decide) kF_X11_150 (fun h9 => congrArg va_rf (h9.2.2 1 5 12 rfl)) ?_
        refine ev_iload_n 2 dX11_coinFromTape_79 rfl ?_
        refine ev_iload_n 1 dX11_coinFromTape_80 rfl ?_
        refine ev_iload 0 dX11_coinFromTape_81 rfl ?_
        obtain ⟨v19, g20, e21, h⟩ := am_bd_elim h
        refine ev_callVi (v := v19) [.int v6, .int v9, .int v12] [] dX11_coinFromTape_83 (tX10_coin e21) (by decide) mo_X10_coin kM_X11_158 ki_X10_coin kv_X10_coin (fun h9 => (h9.2.1 12 _ rfl).2) (by decide) rfl (Nat.le_of_ble_eq_true rfl) ?_
        refine ev_pop dX11_coinFromTape_86 rfl ?_
        refine ev_iconst dX11_coinFromTape_87 rfl ?_
        cases h
        exact ev_zret dX11_coinFromTape_88 rfl rfl
      · replace h := am_ifp c18 h
        refine ev_iconst dX11_coinFromTape_70 rfl ?_
        cases h
        exact ev_zret dX11_coinFromTape_71 rfl rfl
    · replace h := am_ifn c5 h
      refine ev_iconst dX11_coinFromTape_26 rfl ?_
      cases h
      exact ev_zret dX11_coinFromTape_27 rfl rfl
theorem tX11_coinFromTape {a1 : Int32} {g : am_G} {r : Int32 × am_G} (h : fX11_coinFromTape a1 g = some r) : am_Mt zc MX11_coinFromTape 2 [.ref 0, .int a1] g (am_ri r) := am_Mt.of rfl (Nat.le_of_ble_eq_true rfl) (eX11_coinFromTape _ _ _ h)
def fX11_row_L26 : Nat → Int32 → Int32 → am_G → Option (Int32 × am_G)
  | 0, _, _, _ => none
  | n + 1, x3, x4, g5 =>
    if (am_I g5 29 4) ≤ x4 then (
      am_let (am_si g5 29 4 (0 : Int32)) fun g7 =>
      am_bd (fX11_accepted x3 g7) fun v8 g9 =>
      some (v8, g9))
    else (
      am_bd (fX11_coinFromTape x4 g5) fun v11 g12 =>
      am_jn (fun (x15 : Int32) (g16 : am_G) =>
        am_let (x4 + (3 : Int32)) fun x18 =>
        fX11_row_L26 n x15 x18 g16) fun j17 =>
      if v11 = 0 then (
        am_let (am_si g12 0 14 ((am_I g12 0 14) + (1 : Int32))) fun g19 =>
        j17 x3 g19)
      else (
        am_let (x3 + (1 : Int32)) fun x20 =>
        j17 x20 g12))
def fX11_row (g : am_G) : Option (Int32 × am_G) :=
  if (am_I g 29 4) = 0 then (
    am_bd (fX11_refused (-6 : Int32) g) fun v21 g22 =>
    some (v21, g22))
  else (
    am_let (am_si g 0 14 (0 : Int32)) fun g2 =>
    fX11_row_L26 am_fu (0 : Int32) (0 : Int32) g2)
set_option maxRecDepth 100000 in
set_option maxHeartbeats 4000000 in
theorem tfX11_row_L26  : ∀ (n : Nat) (x3 : Int32) (x4 : Int32) (g5 : am_G) (r : Int32 × am_G), fX11_row_L26 n x3 x4 g5 = some r → am_Ev zc MX11_row 3 26 [(0, .ref 0), (1, .int x3), (2, .int x4)] [] g5 (am_ri r) := by
  intro n
  induction n with
  | zero => intro x3 x4 g5 r h; exact nomatch (show (none : Option (Int32 × am_G)) = some r from h)
  | succ n ih =>
    intro x3 x4 g5 r h
    rw [fX11_row_L26] at h
    refine ev_iload_n 2 dX11_row_26 rfl ?_
    refine ev_aload_n 0 dX11_row_27 rfl ?_
    refine ev_gf (v := .ref 29) dX11_row_28 (fun h9 => (h9.2.1 0 _ rfl).2) 3 (by decide) (by decide) kF_X11_32 (fun h9 => congrArg va_rf (h9.2.2 0 3 29 rfl)) ?_
    refine ev_gf (v := .int (am_I g5 29 4)) dX11_row_31 (fun h9 => (h9.2.1 29 _ rfl).2) 4 (by decide) (by decide) kF_X11_183 (fun _ => rfl) ?_
    refine ev_icmp_ge 67 dX11_row_34 (by decide) (fun c6 => ?_) (fun c6 => ?_)
    · replace h := am_ifp c6 h
      refine ev_aload_n 0 dX11_row_67 rfl ?_
      refine ev_gf (v := .ref 29) dX11_row_68 (fun h9 => (h9.2.1 0 _ rfl).2) 3 (by decide) (by decide) kF_X11_32 (fun h9 => congrArg va_rf (h9.2.2 0 3 29 rfl)) ?_
      refine ev_iconst dX11_row_71 rfl ?_
      refine ev_pfi dX11_row_72 (fun h9 => (h9.2.1 29 _ rfl).2) 4 (by decide) (by decide) kF_X11_183 rfl rfl rfl (fun _ => rfl) ?_
      refine am_let_elim (P := fun g7 => am_Ev zc MX11_row 3 75 [(0, .ref 0), (1, .int x3), (2, .int x4)] [] g7 (am_ri r)) h fun g7 h => ?_
      refine ev_aload_n 0 dX11_row_75 rfl ?_
      refine ev_iload_n 1 dX11_row_76 rfl ?_
      obtain ⟨v8, g9, e10, h⟩ := am_bd_elim h
      refine ev_callVi (v := v8) [.int x3] [] dX11_row_77 (tX11_accepted e10) (by decide) mo_X11_accepted kM_X11_133 ki_X11_accepted kv_X11_accepted (fun h9 => (h9.2.1 0 _ rfl).2) (by decide) rfl (Nat.le_of_ble_eq_true rfl) ?_
      cases h
      exact ev_iret dX11_row_80 rfl
    · replace h := am_ifn c6 h
      refine ev_aload_n 0 dX11_row_37 rfl ?_
      refine ev_iload_n 2 dX11_row_38 rfl ?_
      obtain ⟨v11, g12, e13, h⟩ := am_bd_elim h
      refine ev_callVi (v := v11) [.int x4] [] dX11_row_39 (tX11_coinFromTape e13) (by decide) mo_X11_coinFromTape kM_X11_193 ki_X11_coinFromTape kv_X11_coinFromTape (fun h9 => (h9.2.1 0 _ rfl).2) (by decide) rfl (Nat.le_of_ble_eq_true rfl) ?_
      refine am_jn_elim (fun q9 => ∀ (x15 : Int32) (g16 : am_G) (r : Int32 × am_G), q9 x15 g16 = some r → am_Ev zc MX11_row 3 61 [(0, .ref 0), (1, .int x15), (2, .int x4)] [] g16 (am_ri r)) h ?_ (fun j17 hj17 h => ?_)
      · intro x15 g16 r h
        try dsimp only at h
        obtain ⟨x18, ex18, h⟩ := am_let_ex h
        refine ev_iinc (ls' := [(2, .int x18), (0, .ref 0), (1, .int x15)]) 2 dX11_row_61 rfl ex18 (by decide) rfl ?_
        refine ev_goto 26 dX11_row_64 (by decide) ?_
        refine ev_sub [1, 2, 0] rfl ?_
        exact ih _ _ _ _ h
      · refine ev_if_eq 51 dX11_row_42 (by decide) (fun c14 => ?_) (fun c14 => ?_)
        · replace h := am_ifp c14 h
          refine ev_aload_n 0 dX11_row_51 rfl ?_
          refine ev_dup dX11_row_52 rfl ?_
          refine ev_gf (v := .int (am_I g12 0 14)) dX11_row_53 (fun h9 => (h9.2.1 0 _ rfl).2) 14 (by decide) (by decide) kF_X11_190 (fun _ => rfl) ?_
          refine ev_iconst dX11_row_56 rfl ?_
          refine ev_iadd dX11_row_57 ?_
          refine ev_pfi dX11_row_58 (fun h9 => (h9.2.1 0 _ rfl).2) 14 (by decide) (by decide) kF_X11_190 rfl rfl rfl (fun _ => rfl) ?_
          refine am_let_elim (P := fun g19 => am_Ev zc MX11_row 3 61 [(0, .ref 0), (1, .int x3), (2, .int x4)] [] g19 (am_ri r)) h fun g19 h => ?_
          refine ev_sub [0, 1, 2] rfl ?_
          exact hj17 _ _ _ h
        · replace h := am_ifn c14 h
          obtain ⟨x20, ex20, h⟩ := am_let_ex h
          refine ev_iinc (ls' := [(1, .int x20), (0, .ref 0), (2, .int x4)]) 1 dX11_row_45 rfl ex20 (by decide) rfl ?_
          refine ev_goto 61 dX11_row_48 (by decide) ?_
          refine ev_sub [1, 0, 2] rfl ?_
          exact hj17 _ _ _ h
set_option maxRecDepth 100000 in
set_option maxHeartbeats 4000000 in
theorem eX11_row (g : am_G) (r : Int32 × am_G) (h : fX11_row g = some r) : am_Ev zc MX11_row 3 0 [(0, .ref 0)] [] g (am_ri r) := by
  unfold fX11_row at h
  refine ev_aload_n 0 dX11_row_0 rfl ?_
  refine ev_gf (v := .ref 29) dX11_row_1 (fun h9 => (h9.2.1 0 _ rfl).2) 3 (by decide) (by decide) kF_X11_32 (fun h9 => congrArg va_rf (h9.2.2 0 3 29 rfl)) ?_
  refine ev_gf (v := .int (am_I g 29 4)) dX11_row_4 (fun h9 => (h9.2.1 29 _ rfl).2) 4 (by decide) (by decide) kF_X11_183 (fun _ => rfl) ?_
  refine ev_if_ne 17 dX11_row_7 (by decide) (fun c1 => ?_) (fun c1 => ?_)
  · replace h := am_ifn c1 h
    refine ev_iconst dX11_row_17 rfl ?_
    refine ev_istore_n (ls' := [(1, .int (0 : Int32)), (0, .ref 0)]) dX11_row_18 rfl (by decide) rfl ?_
    refine ev_aload_n 1 dX11_row_19 rfl ?_
    refine ev_iconst dX11_row_20 rfl ?_
    refine ev_pfi dX11_row_21 (fun h9 => (h9.2.1 0 _ rfl).2) 14 (by decide) (by decide) kF_X11_190 rfl rfl rfl (fun _ => rfl) ?_
    refine am_let_elim (P := fun g2 => am_Ev zc MX11_row 3 24 [(1, .int (0 : Int32)), (0, .ref 0)] [] g2 (am_ri r)) h fun g2 h => ?_
    refine ev_iconst dX11_row_24 rfl ?_
    refine ev_istore_n (ls' := [(2, .int (0 : Int32)), (1, .int (0 : Int32)), (0, .ref 0)]) dX11_row_25 rfl (by decide) rfl ?_
    refine ev_sub [2, 1, 0] rfl ?_
    exact tfX11_row_L26 _ _ _ _ _ h
  · replace h := am_ifp c1 h
    refine ev_aload_n 0 dX11_row_10 rfl ?_
    refine ev_bipush dX11_row_11 rfl ?_
    obtain ⟨v21, g22, e23, h⟩ := am_bd_elim h
    refine ev_callVi (v := v21) [.int (-6 : Int32)] [] dX11_row_13 (tX11_refused e23) (by decide) mo_X11_refused kM_X11_104 ki_X11_refused kv_X11_refused (fun h9 => (h9.2.1 0 _ rfl).2) (by decide) rfl (Nat.le_of_ble_eq_true rfl) ?_
    cases h
    exact ev_iret dX11_row_16 rfl
theorem tX11_row {g : am_G} {r : Int32 × am_G} (h : fX11_row g = some r) : am_Mt zc MX11_row 3 [.ref 0] g (am_ri r) := am_Mt.of rfl (Nat.le_of_ble_eq_true rfl) (eX11_row _ _ h)
def fX11_murmur (g : am_G) : Option (Int32 × am_G) :=
  some (am_I g 0 14, g)
set_option maxRecDepth 100000 in
set_option maxHeartbeats 4000000 in
theorem eX11_murmur (g : am_G) (r : Int32 × am_G) (h : fX11_murmur g = some r) : am_Ev zc MX11_murmur 0 0 [(0, .ref 0)] [] g (am_ri r) := by
  unfold fX11_murmur at h
  refine ev_aload_n 0 dX11_murmur_0 rfl ?_
  refine ev_gf (v := .int (am_I g 0 14)) dX11_murmur_1 (fun h9 => (h9.2.1 0 _ rfl).2) 14 (by decide) (by decide) kF_X11_190 (fun _ => rfl) ?_
  cases h
  exact ev_iret dX11_murmur_4 rfl
theorem tX11_murmur {g : am_G} {r : Int32 × am_G} (h : fX11_murmur g = some r) : am_Mt zc MX11_murmur 0 [.ref 0] g (am_ri r) := am_Mt.of rfl (Nat.le_of_ble_eq_true rfl) (eX11_murmur _ _ h)
def fX11_law (g : am_G) : Option (Int32 × am_G) :=
  if (am_I g 1 17) < (6 : Int32) then (
    am_bd (fX5_read (1 : Int32) g) fun v2 g3 =>
    if v2 = 0 then (
      am_bd (fX11_refused (-6 : Int32) g3) fun v24 g25 =>
      some (v24, g25))
    else (
      am_bd (fX6_trimmed (am_I g3 29 6) g3) fun o6 g7 =>
      am_oc (o6) (fun p9 =>
        am_gd (am_in (am_I g3 1 17) 6) <|
        am_gd (decide (am_S g7 p9 = (6, 3))) <|
        am_let (am_sp g7 24 (am_I g3 1 17).toNatClampNeg (some p9)) fun g13 =>
        am_let (am_si g13 1 17 ((am_I g13 1 17) + (1 : Int32))) fun g14 =>
        am_bd (fX11_accepted ((am_I g14 1 17) - (1 : Int32)) g14) fun v15 g16 =>
        some (v15, g16))
       (
        am_gd (am_in (am_I g3 1 17) 6) <|
        am_let (am_sp g7 24 (am_I g3 1 17).toNatClampNeg none) fun g19 =>
        am_let (am_si g19 1 17 ((am_I g19 1 17) + (1 : Int32))) fun g20 =>
        am_bd (fX11_accepted ((am_I g20 1 17) - (1 : Int32)) g20) fun v21 g22 =>
        some (v21, g22))))
  else (
    am_let (am_si g 29 4 (0 : Int32)) fun g27 =>
    am_bd (fX11_refused (-5 : Int32) g27) fun v28 g29 =>
    some (v28, g29))
set_option maxRecDepth 100000 in
set_option maxHeartbeats 4000000 in
theorem eX11_law (g : am_G) (r : Int32 × am_G) (h : fX11_law g = some r) : am_Ev zc MX11_law 69 0 [(0, .ref 0)] [] g (am_ri r) := by
  unfold fX11_law at h
  refine ev_aload_n 0 dX11_law_0 rfl ?_
  refine ev_gf (v := .ref 1) dX11_law_1 (fun h9 => (h9.2.1 0 _ rfl).2) 0 (by decide) (by decide) kF_X11_14 (fun h9 => congrArg va_rf (h9.2.2 0 0 1 rfl)) ?_
  refine ev_gf (v := .int (am_I g 1 17)) dX11_law_4 (fun h9 => (h9.2.1 1 _ rfl).2) 17 (by decide) (by decide) kF_X11_199 (fun _ => rfl) ?_
  refine ev_bipush dX11_law_7 rfl ?_
  refine ev_icmp_lt 27 dX11_law_9 (by decide) (fun c1 => ?_) (fun c1 => ?_)
  · replace h := am_ifp c1 h
    refine ev_aload_n 0 dX11_law_27 rfl ?_
    refine ev_gf (v := .ref 29) dX11_law_28 (fun h9 => (h9.2.1 0 _ rfl).2) 3 (by decide) (by decide) kF_X11_32 (fun h9 => congrArg va_rf (h9.2.2 0 3 29 rfl)) ?_
    refine ev_iconst dX11_law_31 rfl ?_
    obtain ⟨v2, g3, e4, h⟩ := am_bd_elim h
    refine ev_callVi (v := v2) [.int (1 : Int32)] [] dX11_law_32 (tX5_read e4) (by decide) mo_X5_read kM_X11_202 ki_X5_read kv_X5_read (fun h9 => (h9.2.1 29 _ rfl).2) (by decide) rfl (Nat.le_of_ble_eq_true rfl) ?_
    refine ev_if_ne 45 dX11_law_35 (by decide) (fun c5 => ?_) (fun c5 => ?_)
    · replace h := am_ifn c5 h
      refine ev_aload_n 0 dX11_law_45 rfl ?_
      refine ev_gf (v := .ref 1) dX11_law_46 (fun h9 => (h9.2.1 0 _ rfl).2) 0 (by decide) (by decide) kF_X11_14 (fun h9 => congrArg va_rf (h9.2.2 0 0 1 rfl)) ?_
      refine ev_gf (v := .ref 24) dX11_law_49 (fun h9 => (h9.2.1 1 _ rfl).2) 13 (by decide) (by decide) kF_X11_206 (fun h9 => congrArg va_rf (h9.2.2 1 13 24 rfl)) ?_
      refine ev_aload_n 0 dX11_law_52 rfl ?_
      refine ev_gf (v := .ref 1) dX11_law_53 (fun h9 => (h9.2.1 0 _ rfl).2) 0 (by decide) (by decide) kF_X11_14 (fun h9 => congrArg va_rf (h9.2.2 0 0 1 rfl)) ?_
      refine ev_gf (v := .int (am_I g3 1 17)) dX11_law_56 (fun h9 => (h9.2.1 1 _ rfl).2) 17 (by decide) (by decide) kF_X11_199 (fun _ => rfl) ?_
      refine ev_aload_n 0 dX11_law_59 rfl ?_
      refine ev_gf (v := .ref 29) dX11_law_60 (fun h9 => (h9.2.1 0 _ rfl).2) 3 (by decide) (by decide) kF_X11_32 (fun h9 => congrArg va_rf (h9.2.2 0 3 29 rfl)) ?_
      refine ev_gf (v := .ref 33) dX11_law_63 (fun h9 => (h9.2.1 29 _ rfl).2) 3 (by decide) (by decide) kF_X11_210 (fun h9 => congrArg va_rf (h9.2.2 29 3 33 rfl)) ?_
      refine ev_aload_n 0 dX11_law_66 rfl ?_
      refine ev_gf (v := .ref 29) dX11_law_67 (fun h9 => (h9.2.1 0 _ rfl).2) 3 (by decide) (by decide) kF_X11_32 (fun h9 => congrArg va_rf (h9.2.2 0 3 29 rfl)) ?_
      refine ev_gf (v := .int (am_I g3 29 6)) dX11_law_70 (fun h9 => (h9.2.1 29 _ rfl).2) 6 (by decide) (by decide) kF_X11_214 (fun _ => rfl) ?_
      obtain ⟨o6, g7, e8, h⟩ := am_bd_elim h
      refine am_oc_elim h (fun p9 e10 h => ?_) (fun e10 h => ?_)
      · refine ev_callVq (v := p9) [.int (am_I g3 29 6)] [.int (am_I g3 1 17), .ref 24] dX11_law_73 (am_rq_s (tX6_trimmed e8) e10) (by decide) mo_X6_trimmed kM_X11_217 ki_X6_trimmed kv_X6_trimmed (fun h9 => (h9.2.1 33 _ rfl).2) (by decide) rfl (Nat.le_of_ble_eq_true rfl) ?_
        obtain ⟨c11, h⟩ := am_gd_elim h
        obtain ⟨c12, h⟩ := am_gd_elim h
        refine ev_aast dX11_law_76 (fun h9 => (h9.2.1 24 _ rfl).2) (by decide) (by decide) (fun _ => am_sh c12) (am_in_vp c11) (fun _ => rfl) ?_
        refine am_let_elim (P := fun g13 => am_Ev zc MX11_law 69 77 [(0, .ref 0)] [] g13 (am_ri r)) h fun g13 h => ?_
        refine ev_aload_n 0 dX11_law_77 rfl ?_
        refine ev_gf (v := .ref 1) dX11_law_78 (fun h9 => (h9.2.1 0 _ rfl).2) 0 (by decide) (by decide) kF_X11_14 (fun h9 => congrArg va_rf (h9.2.2 0 0 1 rfl)) ?_
        refine ev_dup dX11_law_81 rfl ?_
        refine ev_gf (v := .int (am_I g13 1 17)) dX11_law_82 (fun h9 => (h9.2.1 1 _ rfl).2) 17 (by decide) (by decide) kF_X11_199 (fun _ => rfl) ?_
        refine ev_iconst dX11_law_85 rfl ?_
        refine ev_iadd dX11_law_86 ?_
        refine ev_pfi dX11_law_87 (fun h9 => (h9.2.1 1 _ rfl).2) 17 (by decide) (by decide) kF_X11_199 rfl rfl rfl (fun _ => rfl) ?_
        refine am_let_elim (P := fun g14 => am_Ev zc MX11_law 69 90 [(0, .ref 0)] [] g14 (am_ri r)) h fun g14 h => ?_
        refine ev_aload_n 0 dX11_law_90 rfl ?_
        refine ev_aload_n 0 dX11_law_91 rfl ?_
        refine ev_gf (v := .ref 1) dX11_law_92 (fun h9 => (h9.2.1 0 _ rfl).2) 0 (by decide) (by decide) kF_X11_14 (fun h9 => congrArg va_rf (h9.2.2 0 0 1 rfl)) ?_
        refine ev_gf (v := .int (am_I g14 1 17)) dX11_law_95 (fun h9 => (h9.2.1 1 _ rfl).2) 17 (by decide) (by decide) kF_X11_199 (fun _ => rfl) ?_
        refine ev_iconst dX11_law_98 rfl ?_
        refine ev_isub dX11_law_99 ?_
        obtain ⟨v15, g16, e17, h⟩ := am_bd_elim h
        refine ev_callVi (v := v15) [.int ((am_I g14 1 17) - (1 : Int32))] [] dX11_law_100 (tX11_accepted e17) (by decide) mo_X11_accepted kM_X11_133 ki_X11_accepted kv_X11_accepted (fun h9 => (h9.2.1 0 _ rfl).2) (by decide) rfl (Nat.le_of_ble_eq_true rfl) ?_
        cases h
        exact ev_iret dX11_law_103 rfl
      · refine ev_callVz [.int (am_I g3 29 6)] [.int (am_I g3 1 17), .ref 24] dX11_law_73 (am_rq_n (tX6_trimmed e8) e10) (by decide) mo_X6_trimmed kM_X11_217 ki_X6_trimmed kv_X6_trimmed (fun h9 => (h9.2.1 33 _ rfl).2) (by decide) rfl (Nat.le_of_ble_eq_true rfl) ?_
        obtain ⟨c18, h⟩ := am_gd_elim h
        refine ev_aastN dX11_law_76 (fun h9 => (h9.2.1 24 _ rfl).2) (by decide) (by decide) (am_in_vp c18) (fun _ => rfl) ?_
        refine am_let_elim (P := fun g19 => am_Ev zc MX11_law 69 77 [(0, .ref 0)] [] g19 (am_ri r)) h fun g19 h => ?_
        refine ev_aload_n 0 dX11_law_77 rfl ?_
        refine ev_gf (v := .ref 1) dX11_law_78 (fun h9 => (h9.2.1 0 _ rfl).2) 0 (by decide) (by decide) kF_X11_14 (fun h9 => congrArg va_rf (h9.2.2 0 0 1 rfl)) ?_
        refine ev_dup dX11_law_81 rfl ?_
        refine ev_gf (v := .int (am_I g19 1 17)) dX11_law_82 (fun h9 => (h9.2.1 1 _ rfl).2) 17 (by decide) (by decide) kF_X11_199 (fun _ => rfl) ?_
        refine ev_iconst dX11_law_85 rfl ?_
        refine ev_iadd dX11_law_86 ?_
        refine ev_pfi dX11_law_87 (fun h9 => (h9.2.1 1 _ rfl).2) 17 (by decide) (by decide) kF_X11_199 rfl rfl rfl (fun _ => rfl) ?_
        refine am_let_elim (P := fun g20 => am_Ev zc MX11_law 69 90 [(0, .ref 0)] [] g20 (am_ri r)) h fun g20 h => ?_
        refine ev_aload_n 0 dX11_law_90 rfl ?_
        refine ev_aload_n 0 dX11_law_91 rfl ?_
        refine ev_gf (v := .ref 1) dX11_law_92 (fun h9 => (h9.2.1 0 _ rfl).2) 0 (by decide) (by decide) kF_X11_14 (fun h9 => congrArg va_rf (h9.2.2 0 0 1 rfl)) ?_
        refine ev_gf (v := .int (am_I g20 1 17)) dX11_law_95 (fun h9 => (h9.2.1 1 _ rfl).2) 17 (by decide) (by decide) kF_X11_199 (fun _ => rfl) ?_
        refine ev_iconst dX11_law_98 rfl ?_
        refine ev_isub dX11_law_99 ?_
        obtain ⟨v21, g22, e23, h⟩ := am_bd_elim h
        refine ev_callVi (v := v21) [.int ((am_I g20 1 17) - (1 : Int32))] [] dX11_law_100 (tX11_accepted e23) (by decide) mo_X11_accepted kM_X11_133 ki_X11_accepted kv_X11_accepted (fun h9 => (h9.2.1 0 _ rfl).2) (by decide) rfl (Nat.le_of_ble_eq_true rfl) ?_
        cases h
        exact ev_iret dX11_law_103 rfl
    · replace h := am_ifp c5 h
      refine ev_aload_n 0 dX11_law_38 rfl ?_
      refine ev_bipush dX11_law_39 rfl ?_
      obtain ⟨v24, g25, e26, h⟩ := am_bd_elim h
      refine ev_callVi (v := v24) [.int (-6 : Int32)] [] dX11_law_41 (tX11_refused e26) (by decide) mo_X11_refused kM_X11_104 ki_X11_refused kv_X11_refused (fun h9 => (h9.2.1 0 _ rfl).2) (by decide) rfl (Nat.le_of_ble_eq_true rfl) ?_
      cases h
      exact ev_iret dX11_law_44 rfl
  · replace h := am_ifn c1 h
    refine ev_aload_n 0 dX11_law_12 rfl ?_
    refine ev_gf (v := .ref 29) dX11_law_13 (fun h9 => (h9.2.1 0 _ rfl).2) 3 (by decide) (by decide) kF_X11_32 (fun h9 => congrArg va_rf (h9.2.2 0 3 29 rfl)) ?_
    refine ev_iconst dX11_law_16 rfl ?_
    refine ev_pfi dX11_law_17 (fun h9 => (h9.2.1 29 _ rfl).2) 4 (by decide) (by decide) kF_X11_183 rfl rfl rfl (fun _ => rfl) ?_
    refine am_let_elim (P := fun g27 => am_Ev zc MX11_law 69 20 [(0, .ref 0)] [] g27 (am_ri r)) h fun g27 h => ?_
    refine ev_aload_n 0 dX11_law_20 rfl ?_
    refine ev_bipush dX11_law_21 rfl ?_
    obtain ⟨v28, g29, e30, h⟩ := am_bd_elim h
    refine ev_callVi (v := v28) [.int (-5 : Int32)] [] dX11_law_23 (tX11_refused e30) (by decide) mo_X11_refused kM_X11_104 ki_X11_refused kv_X11_refused (fun h9 => (h9.2.1 0 _ rfl).2) (by decide) rfl (Nat.le_of_ble_eq_true rfl) ?_
    cases h
    exact ev_iret dX11_law_26 rfl
theorem tX11_law {g : am_G} {r : Int32 × am_G} (h : fX11_law g = some r) : am_Mt zc MX11_law 69 [.ref 0] g (am_ri r) := am_Mt.of rfl (Nat.le_of_ble_eq_true rfl) (eX11_law _ _ h)
def fX11_passNight_L23 (a1 : Nat) : Nat → Int32 → am_G → Option (Int32 × am_G)
  | 0, _, _ => none
  | n + 1, x8, g9 =>
    if (6 : Int32) ≤ x8 then (
      am_gd (decide (am_S g9 a1 = (2, 8))) <|
      am_bd (fX2_ease a1 g9) fun u11 g12 =>
      am_gd (decide (am_S g12 a1 = (2, 8))) <|
      am_bd (fX2_slideAll a1 g12) fun v15 g16 =>
      some (v15, g16))
    else (
      am_gd (decide (am_S g9 a1 = (2, 8))) <|
      am_oc (am_P g9 a1 0) (fun p20 =>
      am_gd (decide ((am_S g9 p20).1 = 20)) <|
      am_gd (am_in x8 ((am_S g9 p20).2)) <|
      am_bd (fX0_ofWeather x8 (am_I g9 p20 x8.toNatClampNeg) g9) fun u24 g25 =>
      am_gd (decide (am_S g25 a1 = (2, 8))) <|
      am_oc (am_P g25 a1 0) (fun p28 =>
      am_gd (decide ((am_S g25 p28).1 = 20)) <|
      am_gd (am_in x8 ((am_S g25 p28).2)) <|
      am_bd (fX0_falls g25) fun v32 g33 =>
      am_bd (fX0_thaws g33) fun v35 g36 =>
      am_let (((am_I g25 p28 x8.toNatClampNeg) + v32) - v35) fun x38 =>
      am_gd (decide (am_S g36 a1 = (2, 8))) <|
      am_oc (am_P g36 a1 0) (fun p40 =>
      am_bd (fX11_nearest x38 (0 : Int32) (9999 : Int32) g36) fun v42 g43 =>
      am_gd (decide ((am_S g43 p40).1 = 20)) <|
      am_gd (am_in x8 ((am_S g43 p40).2)) <|
      am_let (am_si g43 p40 x8.toNatClampNeg v42) fun g47 =>
      am_let (x8 + (1 : Int32)) fun x48 =>
      fX11_passNight_L23 a1 n x48 g47) none) none) none)
def fX11_passNight (a1 : Nat) (g : am_G) : Option (Int32 × am_G) :=
  am_gd (decide (am_S g a1 = (2, 8))) <|
  am_gd (decide (am_S g a1 = (2, 8))) <|
  am_let (am_si g a1 5 ((am_I g a1 5) + (1 : Int32))) fun g3 =>
  am_gd (decide (am_S g3 a1 = (2, 8))) <|
  am_bd (fX0_onDay (am_I g3 a1 5) g3) fun u5 g6 =>
  fX11_passNight_L23 a1 am_fu (0 : Int32) g6
set_option maxRecDepth 100000 in
set_option maxHeartbeats 4000000 in
theorem tfX11_passNight_L23  (a1 : Nat) : ∀ (n : Nat) (x8 : Int32) (g9 : am_G) (r : Int32 × am_G), fX11_passNight_L23 a1 n x8 g9 = some r → am_Ev zc MX11_passNight 4 23 [(0, .ref 0), (1, .ref a1), (2, .int x8)] [] g9 (am_ri r) := by
  intro n
  induction n with
  | zero => intro x8 g9 r h; exact nomatch (show (none : Option (Int32 × am_G)) = some r from h)
  | succ n ih =>
    intro x8 g9 r h
    rw [fX11_passNight_L23] at h
    refine ev_iload_n 2 dX11_passNight_23 rfl ?_
    refine ev_bipush dX11_passNight_24 rfl ?_
    refine ev_icmp_ge 86 dX11_passNight_26 (by decide) (fun c10 => ?_) (fun c10 => ?_)
    · replace h := am_ifp c10 h
      refine ev_aload_n 1 dX11_passNight_86 rfl ?_
      obtain ⟨c14, h⟩ := am_gd_elim h
      obtain ⟨u11, g12, e13, h⟩ := am_bd_elim h
      refine ev_callVv [] [] dX11_passNight_87 (tX2_ease e13) (by decide) mo_X2_ease kM_X11_328 ki_X2_ease kv_X2_ease (fun _ => am_sh c14) (by decide) rfl (Nat.le_of_ble_eq_true rfl) ?_
      refine ev_aload_n 1 dX11_passNight_90 rfl ?_
      refine ev_aload_n 0 dX11_passNight_91 rfl ?_
      refine ev_gf (v := .ref 1) dX11_passNight_92 (fun h9 => (h9.2.1 0 _ rfl).2) 0 (by decide) (by decide) kF_X11_14 (fun h9 => congrArg va_rf (h9.2.2 0 0 1 rfl)) ?_
      obtain ⟨c18, h⟩ := am_gd_elim h
      obtain ⟨v15, g16, e17, h⟩ := am_bd_elim h
      refine ev_callVi (v := v15) [.ref 1] [] dX11_passNight_95 (tX2_slideAll e17) (by decide) mo_X2_slideAll kM_X11_321 ki_X2_slideAll kv_X2_slideAll (fun _ => am_sh c18) (by decide) rfl (Nat.le_of_ble_eq_true rfl) ?_
      cases h
      exact ev_iret dX11_passNight_98 rfl
    · replace h := am_ifn c10 h
      refine ev_aload_n 0 dX11_passNight_29 rfl ?_
      refine ev_gf (v := .ref 36) dX11_passNight_30 (fun h9 => (h9.2.1 0 _ rfl).2) 4 (by decide) (by decide) kF_X11_41 (fun h9 => congrArg va_rf (h9.2.2 0 4 36 rfl)) ?_
      refine ev_iload_n 2 dX11_passNight_33 rfl ?_
      refine ev_aload_n 1 dX11_passNight_34 rfl ?_
      obtain ⟨c19, h⟩ := am_gd_elim h
      refine am_oc_elim h (fun p20 e21 h => ?_) (fun _ h => nomatch h)
      refine ev_gf (v := .ref p20) dX11_passNight_35 (fun _ => am_sh c19) 0 (by decide) (by decide) kF_X11_115 (fun _ => congrArg va_rf e21) ?_
      refine ev_iload_n 2 dX11_passNight_38 rfl ?_
      obtain ⟨c22, h⟩ := am_gd_elim h
      obtain ⟨c23, h⟩ := am_gd_elim h
      refine ev_iald dX11_passNight_39 (fun _ => am_shk c22) (am_in_vp c23) ?_
      obtain ⟨u24, g25, e26, h⟩ := am_bd_elim h
      refine ev_callVv [.int x8, .int (am_I g9 p20 x8.toNatClampNeg)] [] dX11_passNight_40 (tX0_ofWeather e26) (by decide) mo_X0_ofWeather kM_X11_304 ki_X0_ofWeather kv_X0_ofWeather (fun h9 => (h9.2.1 36 _ rfl).2) (by decide) rfl (Nat.le_of_ble_eq_true rfl) ?_
      refine ev_aload_n 1 dX11_passNight_43 rfl ?_
      obtain ⟨c27, h⟩ := am_gd_elim h
      refine am_oc_elim h (fun p28 e29 h => ?_) (fun _ h => nomatch h)
      refine ev_gf (v := .ref p28) dX11_passNight_44 (fun _ => am_sh c27) 0 (by decide) (by decide) kF_X11_115 (fun _ => congrArg va_rf e29) ?_
      refine ev_iload_n 2 dX11_passNight_47 rfl ?_
      obtain ⟨c30, h⟩ := am_gd_elim h
      obtain ⟨c31, h⟩ := am_gd_elim h
      refine ev_iald dX11_passNight_48 (fun _ => am_shk c30) (am_in_vp c31) ?_
      refine ev_aload_n 0 dX11_passNight_49 rfl ?_
      refine ev_gf (v := .ref 36) dX11_passNight_50 (fun h9 => (h9.2.1 0 _ rfl).2) 4 (by decide) (by decide) kF_X11_41 (fun h9 => congrArg va_rf (h9.2.2 0 4 36 rfl)) ?_
      obtain ⟨v32, g33, e34, h⟩ := am_bd_elim h
      refine ev_callVi (v := v32) [] [.int (am_I g25 p28 x8.toNatClampNeg)] dX11_passNight_53 (tX0_falls e34) (by decide) mo_X0_falls kM_X11_308 ki_X0_falls kv_X0_falls (fun h9 => (h9.2.1 36 _ rfl).2) (by decide) rfl (Nat.le_of_ble_eq_true rfl) ?_
      refine ev_iadd dX11_passNight_56 ?_
      refine ev_aload_n 0 dX11_passNight_57 rfl ?_
      refine ev_gf (v := .ref 36) dX11_passNight_58 (fun h9 => (h9.2.1 0 _ rfl).2) 4 (by decide) (by decide) kF_X11_41 (fun h9 => congrArg va_rf (h9.2.2 0 4 36 rfl)) ?_
      obtain ⟨v35, g36, e37, h⟩ := am_bd_elim h
      refine ev_callVi (v := v35) [] [.int ((am_I g25 p28 x8.toNatClampNeg) + v32)] dX11_passNight_61 (tX0_thaws e37) (by decide) mo_X0_thaws kM_X11_312 ki_X0_thaws kv_X0_thaws (fun h9 => (h9.2.1 36 _ rfl).2) (by decide) rfl (Nat.le_of_ble_eq_true rfl) ?_
      refine ev_isub dX11_passNight_64 ?_
      refine am_let_elim (P := fun x38 => am_Ev zc MX11_passNight 4 65 [(0, .ref 0), (1, .ref a1), (2, .int x8)] [.int x38] g36 (am_ri r)) h fun x38 h => ?_
      refine ev_istore_n (ls' := [(3, .int x38), (0, .ref 0), (1, .ref a1), (2, .int x8)]) dX11_passNight_65 rfl (by decide) rfl ?_
      refine ev_aload_n 2 dX11_passNight_66 rfl ?_
      obtain ⟨c39, h⟩ := am_gd_elim h
      refine am_oc_elim h (fun p40 e41 h => ?_) (fun _ h => nomatch h)
      refine ev_gf (v := .ref p40) dX11_passNight_67 (fun _ => am_sh c39) 0 (by decide) (by decide) kF_X11_115 (fun _ => congrArg va_rf e41) ?_
      refine ev_iload_n 3 dX11_passNight_70 rfl ?_
      refine ev_iload_n 0 dX11_passNight_71 rfl ?_
      refine ev_iconst dX11_passNight_72 rfl ?_
      refine ev_sipush dX11_passNight_73 rfl ?_
      obtain ⟨v42, g43, e44, h⟩ := am_bd_elim h
      refine ev_callSi (v := v42) [.int x38, .int (0 : Int32), .int (9999 : Int32)] [.int x8, .ref p40] dX11_passNight_76 (tX11_nearest e44) (by decide) mo_X11_nearest kM_X11_325 ks_X11_nearest (Nat.le_of_ble_eq_true rfl) ?_
      obtain ⟨c45, h⟩ := am_gd_elim h
      obtain ⟨c46, h⟩ := am_gd_elim h
      refine ev_iast dX11_passNight_79 (fun _ => am_shk c45) (am_in_vp c46) ?_
      refine am_let_elim (P := fun g47 => am_Ev zc MX11_passNight 4 80 [(3, .int x38), (0, .ref 0), (1, .ref a1), (2, .int x8)] [] g47 (am_ri r)) h fun g47 h => ?_
      obtain ⟨x48, ex48, h⟩ := am_let_ex h
      refine ev_iinc (ls' := [(2, .int x48), (3, .int x38), (0, .ref 0), (1, .ref a1)]) 3 dX11_passNight_80 rfl ex48 (by decide) rfl ?_
      refine ev_goto 23 dX11_passNight_83 (by decide) ?_
      refine ev_sub [2, 3, 0] rfl ?_
      exact ih _ _ _ h
set_option maxRecDepth 100000 in
set_option maxHeartbeats 4000000 in
theorem eX11_passNight (a1 : Nat) (g : am_G) (r : Int32 × am_G) (h : fX11_passNight a1 g = some r) : am_Ev zc MX11_passNight 4 0 [(0, .ref 0), (1, .ref a1)] [] g (am_ri r) := by
  unfold fX11_passNight at h
  refine ev_aload_n 1 dX11_passNight_0 rfl ?_
  refine ev_dup dX11_passNight_1 rfl ?_
  obtain ⟨c1, h⟩ := am_gd_elim h
  refine ev_gf (v := .int (am_I g a1 5)) dX11_passNight_2 (fun _ => am_sh c1) 5 (by decide) (by decide) kF_X11_177 (fun _ => rfl) ?_
  refine ev_iconst dX11_passNight_5 rfl ?_
  refine ev_iadd dX11_passNight_6 ?_
  obtain ⟨c2, h⟩ := am_gd_elim h
  refine ev_pfi dX11_passNight_7 (fun _ => am_sh c2) 5 (by decide) (by decide) kF_X11_177 rfl rfl rfl (fun _ => rfl) ?_
  refine am_let_elim (P := fun g3 => am_Ev zc MX11_passNight 4 10 [(0, .ref 0), (1, .ref a1)] [] g3 (am_ri r)) h fun g3 h => ?_
  refine ev_aload_n 0 dX11_passNight_10 rfl ?_
  refine ev_gf (v := .ref 36) dX11_passNight_11 (fun h9 => (h9.2.1 0 _ rfl).2) 4 (by decide) (by decide) kF_X11_41 (fun h9 => congrArg va_rf (h9.2.2 0 4 36 rfl)) ?_
  refine ev_aload_n 1 dX11_passNight_14 rfl ?_
  obtain ⟨c4, h⟩ := am_gd_elim h
  refine ev_gf (v := .int (am_I g3 a1 5)) dX11_passNight_15 (fun _ => am_sh c4) 5 (by decide) (by decide) kF_X11_177 (fun _ => rfl) ?_
  obtain ⟨u5, g6, e7, h⟩ := am_bd_elim h
  refine ev_callVv [.int (am_I g3 a1 5)] [] dX11_passNight_18 (tX0_onDay e7) (by decide) mo_X0_onDay kM_X11_294 ki_X0_onDay kv_X0_onDay (fun h9 => (h9.2.1 36 _ rfl).2) (by decide) rfl (Nat.le_of_ble_eq_true rfl) ?_
  refine ev_iconst dX11_passNight_21 rfl ?_
  refine ev_istore_n (ls' := [(2, .int (0 : Int32)), (0, .ref 0), (1, .ref a1)]) dX11_passNight_22 rfl (by decide) rfl ?_
  refine ev_sub [1, 2, 0] rfl ?_
  exact tfX11_passNight_L23 a1 _ _ _ _ h
theorem tX11_passNight {a1 : Nat} {g : am_G} {r : Int32 × am_G} (h : fX11_passNight a1 g = some r) : am_Mt zc MX11_passNight 4 [.ref 0, .ref a1] g (am_ri r) := am_Mt.of rfl (Nat.le_of_ble_eq_true rfl) (eX11_passNight _ _ _ h)
def fX11_isPlace (a0 : Int32) (g : am_G) : Option (Int32 × am_G) :=
  am_bd (fX11_within a0 (0 : Int32) (3 : Int32) g) fun v1 g2 =>
  am_gd (am_zb v1) <|
  some (v1, g2)
set_option maxRecDepth 100000 in
set_option maxHeartbeats 4000000 in
theorem eX11_isPlace (a0 : Int32) (g : am_G) (r : Int32 × am_G) (h : fX11_isPlace a0 g = some r) : am_Ev zc MX11_isPlace 1 0 [(0, .int a0)] [] g (am_ri r) := by
  unfold fX11_isPlace at h
  refine ev_iload_n 0 dX11_isPlace_0 rfl ?_
  refine ev_iconst dX11_isPlace_1 rfl ?_
  refine ev_iconst dX11_isPlace_2 rfl ?_
  obtain ⟨v1, g2, e3, h⟩ := am_bd_elim h
  refine ev_callSi (v := v1) [.int a0, .int (0 : Int32), .int (3 : Int32)] [] dX11_isPlace_3 (tX11_within e3) (by decide) mo_X11_within kM_X11_136 ks_X11_within (Nat.le_of_ble_eq_true rfl) ?_
  obtain ⟨c4, h⟩ := am_gd_elim h
  cases h
  exact ev_zret dX11_isPlace_6 rfl (am_zb_n c4)
theorem tX11_isPlace {a0 : Int32} {g : am_G} {r : Int32 × am_G} (h : fX11_isPlace a0 g = some r) : am_Mt zc MX11_isPlace 1 [.int a0] g (am_ri r) := am_Mt.of rfl (Nat.le_of_ble_eq_true rfl) (eX11_isPlace _ _ _ h)
def fX11_isLoud (a0 : Int32) (g : am_G) : Option (Int32 × am_G) :=
  am_bd (fX11_within a0 (1 : Int32) (3 : Int32) g) fun v1 g2 =>
  am_gd (am_zb v1) <|
  some (v1, g2)
set_option maxRecDepth 100000 in
set_option maxHeartbeats 4000000 in
theorem eX11_isLoud (a0 : Int32) (g : am_G) (r : Int32 × am_G) (h : fX11_isLoud a0 g = some r) : am_Ev zc MX11_isLoud 1 0 [(0, .int a0)] [] g (am_ri r) := by
  unfold fX11_isLoud at h
  refine ev_iload_n 0 dX11_isLoud_0 rfl ?_
  refine ev_iconst dX11_isLoud_1 rfl ?_
  refine ev_iconst dX11_isLoud_2 rfl ?_
  obtain ⟨v1, g2, e3, h⟩ := am_bd_elim h
  refine ev_callSi (v := v1) [.int a0, .int (1 : Int32), .int (3 : Int32)] [] dX11_isLoud_3 (tX11_within e3) (by decide) mo_X11_within kM_X11_136 ks_X11_within (Nat.le_of_ble_eq_true rfl) ?_
  obtain ⟨c4, h⟩ := am_gd_elim h
  cases h
  exact ev_zret dX11_isLoud_6 rfl (am_zb_n c4)
theorem tX11_isLoud {a0 : Int32} {g : am_G} {r : Int32 × am_G} (h : fX11_isLoud a0 g = some r) : am_Mt zc MX11_isLoud 1 [.int a0] g (am_ri r) := am_Mt.of rfl (Nat.le_of_ble_eq_true rfl) (eX11_isLoud _ _ _ h)
def fX11_isBarred (a1 : Nat) (a2 : Int32) (a3 : Int32) (a4 : Int32) (g : am_G) : Option (Int32 × am_G) :=
  am_gd (decide (am_S g a1 = (2, 8))) <|
  am_bd (fX0_onDay (am_I g a1 5) g) fun u2 g3 =>
  am_bd (fX0_ofSaid a2 a3 a4 g3) fun u5 g6 =>
  am_bd (fX0_bars g6) fun v8 g9 =>
  am_gd (am_zb v8) <|
  some (v8, g9)
set_option maxRecDepth 100000 in
set_option maxHeartbeats 4000000 in
theorem eX11_isBarred (a1 : Nat) (a2 : Int32) (a3 : Int32) (a4 : Int32) (g : am_G) (r : Int32 × am_G) (h : fX11_isBarred a1 a2 a3 a4 g = some r) : am_Ev zc MX11_isBarred 4 0 [(0, .ref 0), (1, .ref a1), (2, .int a2), (3, .int a3), (4, .int a4)] [] g (am_ri r) := by
  unfold fX11_isBarred at h
  refine ev_aload_n 0 dX11_isBarred_0 rfl ?_
  refine ev_gf (v := .ref 36) dX11_isBarred_1 (fun h9 => (h9.2.1 0 _ rfl).2) 4 (by decide) (by decide) kF_X11_41 (fun h9 => congrArg va_rf (h9.2.2 0 4 36 rfl)) ?_
  refine ev_aload_n 1 dX11_isBarred_4 rfl ?_
  obtain ⟨c1, h⟩ := am_gd_elim h
  refine ev_gf (v := .int (am_I g a1 5)) dX11_isBarred_5 (fun _ => am_sh c1) 5 (by decide) (by decide) kF_X11_177 (fun _ => rfl) ?_
  obtain ⟨u2, g3, e4, h⟩ := am_bd_elim h
  refine ev_callVv [.int (am_I g a1 5)] [] dX11_isBarred_8 (tX0_onDay e4) (by decide) mo_X0_onDay kM_X11_294 ki_X0_onDay kv_X0_onDay (fun h9 => (h9.2.1 36 _ rfl).2) (by decide) rfl (Nat.le_of_ble_eq_true rfl) ?_
  refine ev_aload_n 0 dX11_isBarred_11 rfl ?_
  refine ev_gf (v := .ref 36) dX11_isBarred_12 (fun h9 => (h9.2.1 0 _ rfl).2) 4 (by decide) (by decide) kF_X11_41 (fun h9 => congrArg va_rf (h9.2.2 0 4 36 rfl)) ?_
  refine ev_iload_n 2 dX11_isBarred_15 rfl ?_
  refine ev_iload_n 3 dX11_isBarred_16 rfl ?_
  refine ev_iload 4 dX11_isBarred_17 rfl ?_
  obtain ⟨u5, g6, e7, h⟩ := am_bd_elim h
  refine ev_callVv [.int a2, .int a3, .int a4] [] dX11_isBarred_19 (tX0_ofSaid e7) (by decide) mo_X0_ofSaid kM_X11_297 ki_X0_ofSaid kv_X0_ofSaid (fun h9 => (h9.2.1 36 _ rfl).2) (by decide) rfl (Nat.le_of_ble_eq_true rfl) ?_
  refine ev_aload_n 0 dX11_isBarred_22 rfl ?_
  refine ev_gf (v := .ref 36) dX11_isBarred_23 (fun h9 => (h9.2.1 0 _ rfl).2) 4 (by decide) (by decide) kF_X11_41 (fun h9 => congrArg va_rf (h9.2.2 0 4 36 rfl)) ?_
  obtain ⟨v8, g9, e10, h⟩ := am_bd_elim h
  refine ev_callVi (v := v8) [] [] dX11_isBarred_26 (tX0_bars e10) (by decide) mo_X0_bars kM_X11_315 ki_X0_bars kv_X0_bars (fun h9 => (h9.2.1 36 _ rfl).2) (by decide) rfl (Nat.le_of_ble_eq_true rfl) ?_
  obtain ⟨c11, h⟩ := am_gd_elim h
  cases h
  exact ev_zret dX11_isBarred_29 rfl (am_zb_n c11)
theorem tX11_isBarred {a1 : Nat} {a2 : Int32} {a3 : Int32} {a4 : Int32} {g : am_G} {r : Int32 × am_G} (h : fX11_isBarred a1 a2 a3 a4 g = some r) : am_Mt zc MX11_isBarred 4 [.ref 0, .ref a1, .int a2, .int a3, .int a4] g (am_ri r) := am_Mt.of rfl (Nat.le_of_ble_eq_true rfl) (eX11_isBarred _ _ _ _ _ _ h)
