def fX5_pass (a1 : Int32) (g : am_G) : Option (Int32 × am_G) :=
  am_gd (am_in (am_I g 29 7) 401) <|
  if (am_I g 31 (am_I g 29 7).toNatClampNeg) = a1 then (
    am_let (am_si g 29 7 ((am_I g 29 7) + (1 : Int32))) fun g3 =>
    some ((1 : Int32), g3))
  else (
    some ((0 : Int32), g))
set_option maxRecDepth 100000 in
set_option maxHeartbeats 4000000 in
theorem eX5_pass (a1 : Int32) (g : am_G) (r : Int32 × am_G) (h : fX5_pass a1 g = some r) : am_Ev zc MX5_pass 0 0 [(0, .ref 29), (1, .int a1)] [] g (am_ri r) := by
  unfold fX5_pass at h
  refine ev_aload_n 0 dX5_pass_0 rfl ?_
  refine ev_gf (v := .ref 31) dX5_pass_1 (fun h9 => (h9.2.1 29 _ rfl).2) 1 (by decide) (by decide) kF_X5_15 (fun h9 => congrArg va_rf (h9.2.2 29 1 31 rfl)) ?_
  refine ev_aload_n 0 dX5_pass_4 rfl ?_
  refine ev_gf (v := .int (am_I g 29 7)) dX5_pass_5 (fun h9 => (h9.2.1 29 _ rfl).2) 7 (by decide) (by decide) kF_X5_45 (fun _ => rfl) ?_
  obtain ⟨c1, h⟩ := am_gd_elim h
  refine ev_iald dX5_pass_8 (fun h9 => (h9.2.1 31 _ rfl).2) (am_in_vp c1) ?_
  refine ev_iload_n 1 dX5_pass_9 rfl ?_
  refine ev_icmp_eq 15 dX5_pass_10 (by decide) (fun c2 => ?_) (fun c2 => ?_)
  · replace h := am_ifp c2 h
    refine ev_aload_n 0 dX5_pass_15 rfl ?_
    refine ev_dup dX5_pass_16 rfl ?_
    refine ev_gf (v := .int (am_I g 29 7)) dX5_pass_17 (fun h9 => (h9.2.1 29 _ rfl).2) 7 (by decide) (by decide) kF_X5_45 (fun _ => rfl) ?_
    refine ev_iconst dX5_pass_20 rfl ?_
    refine ev_iadd dX5_pass_21 ?_
    refine ev_pfi dX5_pass_22 (fun h9 => (h9.2.1 29 _ rfl).2) 7 (by decide) (by decide) kF_X5_45 rfl rfl rfl (fun _ => rfl) ?_
    refine am_let_elim (P := fun g3 => am_Ev zc MX5_pass 0 25 [(0, .ref 29), (1, .int a1)] [] g3 (am_ri r)) h fun g3 h => ?_
    refine ev_iconst dX5_pass_25 rfl ?_
    cases h
    exact ev_zret dX5_pass_26 rfl rfl
  · replace h := am_ifn c2 h
    refine ev_iconst dX5_pass_13 rfl ?_
    cases h
    exact ev_zret dX5_pass_14 rfl rfl
theorem tX5_pass {a1 : Int32} {g : am_G} {r : Int32 × am_G} (h : fX5_pass a1 g = some r) : am_Mt zc MX5_pass 0 [.ref 29, .int a1] g (am_ri r) := am_Mt.of rfl (Nat.le_of_ble_eq_true rfl) (eX5_pass _ _ _ h)
def fX5_joinOf (a0 : Int32) (g : am_G) : Option (Int32 × am_G) :=
  if a0 = (165 : Int32) then (
    some ((10 : Int32), g))
  else
  if a0 = (170 : Int32) then (
    some ((8 : Int32), g))
  else
  if a0 = (171 : Int32) then (
    some ((6 : Int32), g))
  else
  if a0 = (173 : Int32) then (
    some ((7 : Int32), g))
  else
  if a0 = (175 : Int32) then (
    some ((9 : Int32), g))
  else
  if a0 = (188 : Int32) then (
    some ((11 : Int32), g))
  else
  if a0 = (189 : Int32) then (
    some ((13 : Int32), g))
  else
  if a0 = (190 : Int32) then (
    some ((12 : Int32), g))
  else (
    some ((0 : Int32), g))
set_option maxRecDepth 100000 in
set_option maxHeartbeats 4000000 in
theorem eX5_joinOf (a0 : Int32) (g : am_G) (r : Int32 × am_G) (h : fX5_joinOf a0 g = some r) : am_Ev zc MX5_joinOf 0 0 [(0, .int a0)] [] g (am_ri r) := by
  unfold fX5_joinOf at h
  refine ev_iload_n 0 dX5_joinOf_0 rfl ?_
  by_cases c1 : a0 = (165 : Int32)
  · replace h := am_ifp c1 h
    refine ev_tableIn 132 dX5_joinOf_1 (by rw [c1]; decide) (by rw [c1]; decide) (by rw [c1]; rfl) (by decide) ?_
    refine ev_bipush dX5_joinOf_132 rfl ?_
    cases h
    exact ev_iret dX5_joinOf_134 rfl
  replace h := am_ifn c1 h
  by_cases c2 : a0 = (170 : Int32)
  · replace h := am_ifp c2 h
    refine ev_tableIn 126 dX5_joinOf_1 (by rw [c2]; decide) (by rw [c2]; decide) (by rw [c2]; rfl) (by decide) ?_
    refine ev_bipush dX5_joinOf_126 rfl ?_
    cases h
    exact ev_iret dX5_joinOf_128 rfl
  replace h := am_ifn c2 h
  by_cases c3 : a0 = (171 : Int32)
  · replace h := am_ifp c3 h
    refine ev_tableIn 120 dX5_joinOf_1 (by rw [c3]; decide) (by rw [c3]; decide) (by rw [c3]; rfl) (by decide) ?_
    refine ev_bipush dX5_joinOf_120 rfl ?_
    cases h
    exact ev_iret dX5_joinOf_122 rfl
  replace h := am_ifn c3 h
  by_cases c4 : a0 = (173 : Int32)
  · replace h := am_ifp c4 h
    refine ev_tableIn 123 dX5_joinOf_1 (by rw [c4]; decide) (by rw [c4]; decide) (by rw [c4]; rfl) (by decide) ?_
    refine ev_bipush dX5_joinOf_123 rfl ?_
    cases h
    exact ev_iret dX5_joinOf_125 rfl
  replace h := am_ifn c4 h
  by_cases c5 : a0 = (175 : Int32)
  · replace h := am_ifp c5 h
    refine ev_tableIn 129 dX5_joinOf_1 (by rw [c5]; decide) (by rw [c5]; decide) (by rw [c5]; rfl) (by decide) ?_
    refine ev_bipush dX5_joinOf_129 rfl ?_
    cases h
    exact ev_iret dX5_joinOf_131 rfl
  replace h := am_ifn c5 h
  by_cases c6 : a0 = (188 : Int32)
  · replace h := am_ifp c6 h
    refine ev_tableIn 135 dX5_joinOf_1 (by rw [c6]; decide) (by rw [c6]; decide) (by rw [c6]; rfl) (by decide) ?_
    refine ev_bipush dX5_joinOf_135 rfl ?_
    cases h
    exact ev_iret dX5_joinOf_137 rfl
  replace h := am_ifn c6 h
  by_cases c7 : a0 = (189 : Int32)
  · replace h := am_ifp c7 h
    refine ev_tableIn 141 dX5_joinOf_1 (by rw [c7]; decide) (by rw [c7]; decide) (by rw [c7]; rfl) (by decide) ?_
    refine ev_bipush dX5_joinOf_141 rfl ?_
    cases h
    exact ev_iret dX5_joinOf_143 rfl
  replace h := am_ifn c7 h
  by_cases c8 : a0 = (190 : Int32)
  · replace h := am_ifp c8 h
    refine ev_tableIn 138 dX5_joinOf_1 (by rw [c8]; decide) (by rw [c8]; decide) (by rw [c8]; rfl) (by decide) ?_
    refine ev_bipush dX5_joinOf_138 rfl ?_
    cases h
    exact ev_iret dX5_joinOf_140 rfl
  replace h := am_ifn c8 h
  by_cases c9 : a0 = (166 : Int32)
  · refine ev_tableIn 144 dX5_joinOf_1 (by rw [c9]; decide) (by rw [c9]; decide) (by rw [c9]; rfl) (by decide) ?_
    refine ev_iconst dX5_joinOf_144 rfl ?_
    cases h
    exact ev_iret dX5_joinOf_145 rfl
  by_cases c10 : a0 = (167 : Int32)
  · refine ev_tableIn 144 dX5_joinOf_1 (by rw [c10]; decide) (by rw [c10]; decide) (by rw [c10]; rfl) (by decide) ?_
    refine ev_iconst dX5_joinOf_144 rfl ?_
    cases h
    exact ev_iret dX5_joinOf_145 rfl
  by_cases c11 : a0 = (168 : Int32)
  · refine ev_tableIn 144 dX5_joinOf_1 (by rw [c11]; decide) (by rw [c11]; decide) (by rw [c11]; rfl) (by decide) ?_
    refine ev_iconst dX5_joinOf_144 rfl ?_
    cases h
    exact ev_iret dX5_joinOf_145 rfl
  by_cases c12 : a0 = (169 : Int32)
  · refine ev_tableIn 144 dX5_joinOf_1 (by rw [c12]; decide) (by rw [c12]; decide) (by rw [c12]; rfl) (by decide) ?_
    refine ev_iconst dX5_joinOf_144 rfl ?_
    cases h
    exact ev_iret dX5_joinOf_145 rfl
  by_cases c13 : a0 = (172 : Int32)
  · refine ev_tableIn 144 dX5_joinOf_1 (by rw [c13]; decide) (by rw [c13]; decide) (by rw [c13]; rfl) (by decide) ?_
    refine ev_iconst dX5_joinOf_144 rfl ?_
    cases h
    exact ev_iret dX5_joinOf_145 rfl
  by_cases c14 : a0 = (174 : Int32)
  · refine ev_tableIn 144 dX5_joinOf_1 (by rw [c14]; decide) (by rw [c14]; decide) (by rw [c14]; rfl) (by decide) ?_
    refine ev_iconst dX5_joinOf_144 rfl ?_
    cases h
    exact ev_iret dX5_joinOf_145 rfl
  by_cases c15 : a0 = (176 : Int32)
  · refine ev_tableIn 144 dX5_joinOf_1 (by rw [c15]; decide) (by rw [c15]; decide) (by rw [c15]; rfl) (by decide) ?_
    refine ev_iconst dX5_joinOf_144 rfl ?_
    cases h
    exact ev_iret dX5_joinOf_145 rfl
  by_cases c16 : a0 = (177 : Int32)
  · refine ev_tableIn 144 dX5_joinOf_1 (by rw [c16]; decide) (by rw [c16]; decide) (by rw [c16]; rfl) (by decide) ?_
    refine ev_iconst dX5_joinOf_144 rfl ?_
    cases h
    exact ev_iret dX5_joinOf_145 rfl
  by_cases c17 : a0 = (178 : Int32)
  · refine ev_tableIn 144 dX5_joinOf_1 (by rw [c17]; decide) (by rw [c17]; decide) (by rw [c17]; rfl) (by decide) ?_
    refine ev_iconst dX5_joinOf_144 rfl ?_
    cases h
    exact ev_iret dX5_joinOf_145 rfl
  by_cases c18 : a0 = (179 : Int32)
  · refine ev_tableIn 144 dX5_joinOf_1 (by rw [c18]; decide) (by rw [c18]; decide) (by rw [c18]; rfl) (by decide) ?_
    refine ev_iconst dX5_joinOf_144 rfl ?_
    cases h
    exact ev_iret dX5_joinOf_145 rfl
  by_cases c19 : a0 = (180 : Int32)
  · refine ev_tableIn 144 dX5_joinOf_1 (by rw [c19]; decide) (by rw [c19]; decide) (by rw [c19]; rfl) (by decide) ?_
    refine ev_iconst dX5_joinOf_144 rfl ?_
    cases h
    exact ev_iret dX5_joinOf_145 rfl
  by_cases c20 : a0 = (181 : Int32)
  · refine ev_tableIn 144 dX5_joinOf_1 (by rw [c20]; decide) (by rw [c20]; decide) (by rw [c20]; rfl) (by decide) ?_
    refine ev_iconst dX5_joinOf_144 rfl ?_
    cases h
    exact ev_iret dX5_joinOf_145 rfl
  by_cases c21 : a0 = (182 : Int32)
  · refine ev_tableIn 144 dX5_joinOf_1 (by rw [c21]; decide) (by rw [c21]; decide) (by rw [c21]; rfl) (by decide) ?_
    refine ev_iconst dX5_joinOf_144 rfl ?_
    cases h
    exact ev_iret dX5_joinOf_145 rfl
  by_cases c22 : a0 = (183 : Int32)
  · refine ev_tableIn 144 dX5_joinOf_1 (by rw [c22]; decide) (by rw [c22]; decide) (by rw [c22]; rfl) (by decide) ?_
    refine ev_iconst dX5_joinOf_144 rfl ?_
    cases h
    exact ev_iret dX5_joinOf_145 rfl
  by_cases c23 : a0 = (184 : Int32)
  · refine ev_tableIn 144 dX5_joinOf_1 (by rw [c23]; decide) (by rw [c23]; decide) (by rw [c23]; rfl) (by decide) ?_
    refine ev_iconst dX5_joinOf_144 rfl ?_
    cases h
    exact ev_iret dX5_joinOf_145 rfl
  by_cases c24 : a0 = (185 : Int32)
  · refine ev_tableIn 144 dX5_joinOf_1 (by rw [c24]; decide) (by rw [c24]; decide) (by rw [c24]; rfl) (by decide) ?_
    refine ev_iconst dX5_joinOf_144 rfl ?_
    cases h
    exact ev_iret dX5_joinOf_145 rfl
  by_cases c25 : a0 = (186 : Int32)
  · refine ev_tableIn 144 dX5_joinOf_1 (by rw [c25]; decide) (by rw [c25]; decide) (by rw [c25]; rfl) (by decide) ?_
    refine ev_iconst dX5_joinOf_144 rfl ?_
    cases h
    exact ev_iret dX5_joinOf_145 rfl
  by_cases c26 : a0 = (187 : Int32)
  · refine ev_tableIn 144 dX5_joinOf_1 (by rw [c26]; decide) (by rw [c26]; decide) (by rw [c26]; rfl) (by decide) ?_
    refine ev_iconst dX5_joinOf_144 rfl ?_
    cases h
    exact ev_iret dX5_joinOf_145 rfl
  refine ev_tableOut 144 dX5_joinOf_1 (by have z0 := am_ti c1 (k := 165) (by decide); have z1 := am_ti c2 (k := 170) (by decide); have z2 := am_ti c3 (k := 171) (by decide); have z3 := am_ti c4 (k := 173) (by decide); have z4 := am_ti c5 (k := 175) (by decide); have z5 := am_ti c6 (k := 188) (by decide); have z6 := am_ti c7 (k := 189) (by decide); have z7 := am_ti c8 (k := 190) (by decide); have z8 := am_ti c9 (k := 166) (by decide); have z9 := am_ti c10 (k := 167) (by decide); have z10 := am_ti c11 (k := 168) (by decide); have z11 := am_ti c12 (k := 169) (by decide); have z12 := am_ti c13 (k := 172) (by decide); have z13 := am_ti c14 (k := 174) (by decide); have z14 := am_ti c15 (k := 176) (by decide); have z15 := am_ti c16 (k := 177) (by decide); have z16 := am_ti c17 (k := 178) (by decide); have z17 := am_ti c18 (k := 179) (by decide); have z18 := am_ti c19 (k := 180) (by decide); have z19 := am_ti c20 (k := 181) (by decide); have z20 := am_ti c21 (k := 182) (by decide); have z21 := am_ti c22 (k := 183) (by decide); have z22 := am_ti c23 (k := 184) (by decide); have z23 := am_ti c24 (k := 185) (by decide); have z24 := am_ti c25 (k := 186) (by decide); have z25 := am_ti c26 (k := 187) (by decide); omega) (by decide) ?_
  refine ev_iconst dX5_joinOf_144 rfl ?_
  cases h
  exact ev_iret dX5_joinOf_145 rfl
theorem tX5_joinOf {a0 : Int32} {g : am_G} {r : Int32 × am_G} (h : fX5_joinOf a0 g = some r) : am_Mt zc MX5_joinOf 0 [.int a0] g (am_ri r) := am_Mt.of rfl (Nat.le_of_ble_eq_true rfl) (eX5_joinOf _ _ _ h)
def fX5_addStep (a1 : Int32) (a2 : Int32) (g : am_G) : Option (Unit × am_G) :=
  if (512 : Int32) ≤ (am_I g 29 6) then (
    some ((), g))
  else (
    am_gd (am_in (am_I g 29 6) 512) <|
    am_let (am_si g 35 (am_I g 29 6).toNatClampNeg ((a1 <<< ((10 : Int32) &&& 31)) ||| a2)) fun g3 =>
    am_let (am_si g3 29 6 ((am_I g3 29 6) + (1 : Int32))) fun g4 =>
    some ((), g4))
set_option maxRecDepth 100000 in
set_option maxHeartbeats 4000000 in
theorem eX5_addStep (a1 : Int32) (a2 : Int32) (g : am_G) (r : Unit × am_G) (h : fX5_addStep a1 a2 g = some r) : am_Ev zc MX5_addStep 0 0 [(0, .ref 29), (1, .int a1), (2, .int a2)] [] g (am_rv r) := by
  unfold fX5_addStep at h
  refine ev_aload_n 0 dX5_addStep_0 rfl ?_
  refine ev_gf (v := .int (am_I g 29 6)) dX5_addStep_1 (fun h9 => (h9.2.1 29 _ rfl).2) 6 (by decide) (by decide) kF_X5_48 (fun _ => rfl) ?_
  refine ev_sipush dX5_addStep_4 rfl ?_
  refine ev_icmp_ge 38 dX5_addStep_7 (by decide) (fun c1 => ?_) (fun c1 => ?_)
  · replace h := am_ifp c1 h
    cases h
    exact ev_ret dX5_addStep_38 rfl
  · replace h := am_ifn c1 h
    refine ev_aload_n 0 dX5_addStep_10 rfl ?_
    refine ev_gf (v := .ref 33) dX5_addStep_11 (fun h9 => (h9.2.1 29 _ rfl).2) 3 (by decide) (by decide) kF_X5_27 (fun h9 => congrArg va_rf (h9.2.2 29 3 33 rfl)) ?_
    refine ev_gf (v := .ref 35) dX5_addStep_14 (fun h9 => (h9.2.1 33 _ rfl).2) 1 (by decide) (by decide) kF_X5_134 (fun h9 => congrArg va_rf (h9.2.2 33 1 35 rfl)) ?_
    refine ev_aload_n 0 dX5_addStep_17 rfl ?_
    refine ev_gf (v := .int (am_I g 29 6)) dX5_addStep_18 (fun h9 => (h9.2.1 29 _ rfl).2) 6 (by decide) (by decide) kF_X5_48 (fun _ => rfl) ?_
    refine ev_iload_n 1 dX5_addStep_21 rfl ?_
    refine ev_bipush dX5_addStep_22 rfl ?_
    refine ev_ishl dX5_addStep_24 ?_
    refine ev_iload_n 2 dX5_addStep_25 rfl ?_
    refine ev_ior dX5_addStep_26 ?_
    obtain ⟨c2, h⟩ := am_gd_elim h
    refine ev_iast dX5_addStep_27 (fun h9 => (h9.2.1 35 _ rfl).2) (am_in_vp c2) ?_
    refine am_let_elim (P := fun g3 => am_Ev zc MX5_addStep 0 28 [(0, .ref 29), (1, .int a1), (2, .int a2)] [] g3 (am_rv r)) h fun g3 h => ?_
    refine ev_aload_n 0 dX5_addStep_28 rfl ?_
    refine ev_dup dX5_addStep_29 rfl ?_
    refine ev_gf (v := .int (am_I g3 29 6)) dX5_addStep_30 (fun h9 => (h9.2.1 29 _ rfl).2) 6 (by decide) (by decide) kF_X5_48 (fun _ => rfl) ?_
    refine ev_iconst dX5_addStep_33 rfl ?_
    refine ev_iadd dX5_addStep_34 ?_
    refine ev_pfi dX5_addStep_35 (fun h9 => (h9.2.1 29 _ rfl).2) 6 (by decide) (by decide) kF_X5_48 rfl rfl rfl (fun _ => rfl) ?_
    refine am_let_elim (P := fun g4 => am_Ev zc MX5_addStep 0 38 [(0, .ref 29), (1, .int a1), (2, .int a2)] [] g4 (am_rv r)) h fun g4 h => ?_
    cases h
    exact ev_ret dX5_addStep_38 rfl
theorem tX5_addStep {a1 : Int32} {a2 : Int32} {g : am_G} {r : Unit × am_G} (h : fX5_addStep a1 a2 g = some r) : am_Mt zc MX5_addStep 0 [.ref 29, .int a1, .int a2] g (am_rv r) := am_Mt.of rfl (Nat.le_of_ble_eq_true rfl) (eX5_addStep _ _ _ _ h)
def fX5_aim (a1 : Int32) (a2 : Int32) (g : am_G) : Option (Unit × am_G) :=
  if (512 : Int32) ≤ a1 then (
    some ((), g))
  else (
    am_gd (am_in a1 512) <|
    am_let (am_si g 35 a1.toNatClampNeg ((a2 <<< ((10 : Int32) &&& 31)) ||| (am_I g 29 6))) fun g3 =>
    some ((), g3))
set_option maxRecDepth 100000 in
set_option maxHeartbeats 4000000 in
theorem eX5_aim (a1 : Int32) (a2 : Int32) (g : am_G) (r : Unit × am_G) (h : fX5_aim a1 a2 g = some r) : am_Ev zc MX5_aim 0 0 [(0, .ref 29), (1, .int a1), (2, .int a2)] [] g (am_rv r) := by
  unfold fX5_aim at h
  refine ev_iload_n 1 dX5_aim_0 rfl ?_
  refine ev_sipush dX5_aim_1 rfl ?_
  refine ev_icmp_ge 25 dX5_aim_4 (by decide) (fun c1 => ?_) (fun c1 => ?_)
  · replace h := am_ifp c1 h
    cases h
    exact ev_ret dX5_aim_25 rfl
  · replace h := am_ifn c1 h
    refine ev_aload_n 0 dX5_aim_7 rfl ?_
    refine ev_gf (v := .ref 33) dX5_aim_8 (fun h9 => (h9.2.1 29 _ rfl).2) 3 (by decide) (by decide) kF_X5_27 (fun h9 => congrArg va_rf (h9.2.2 29 3 33 rfl)) ?_
    refine ev_gf (v := .ref 35) dX5_aim_11 (fun h9 => (h9.2.1 33 _ rfl).2) 1 (by decide) (by decide) kF_X5_134 (fun h9 => congrArg va_rf (h9.2.2 33 1 35 rfl)) ?_
    refine ev_iload_n 1 dX5_aim_14 rfl ?_
    refine ev_iload_n 2 dX5_aim_15 rfl ?_
    refine ev_bipush dX5_aim_16 rfl ?_
    refine ev_ishl dX5_aim_18 ?_
    refine ev_aload_n 0 dX5_aim_19 rfl ?_
    refine ev_gf (v := .int (am_I g 29 6)) dX5_aim_20 (fun h9 => (h9.2.1 29 _ rfl).2) 6 (by decide) (by decide) kF_X5_48 (fun _ => rfl) ?_
    refine ev_ior dX5_aim_23 ?_
    obtain ⟨c2, h⟩ := am_gd_elim h
    refine ev_iast dX5_aim_24 (fun h9 => (h9.2.1 35 _ rfl).2) (am_in_vp c2) ?_
    refine am_let_elim (P := fun g3 => am_Ev zc MX5_aim 0 25 [(0, .ref 29), (1, .int a1), (2, .int a2)] [] g3 (am_rv r)) h fun g3 h => ?_
    cases h
    exact ev_ret dX5_aim_25 rfl
theorem tX5_aim {a1 : Int32} {a2 : Int32} {g : am_G} {r : Unit × am_G} (h : fX5_aim a1 a2 g = some r) : am_Mt zc MX5_aim 0 [.ref 29, .int a1, .int a2] g (am_rv r) := am_Mt.of rfl (Nat.le_of_ble_eq_true rfl) (eX5_aim _ _ _ _ h)
def rdM (i : Nat) : am_M := match i with
  | 0 => MX5_readTest
  | 1 => MX5_readBoth
  | 2 => MX5_readPlain
  | 3 => MX5_readBracket
  | 4 => MX5_readCompared
  | 5 => MX5_readSum
  | 6 => MX5_readTerm
  | _ => MX5_readPart
def rdA (i : Nat) (a : Int32) : List Value := match i with
  | 3 => [.ref 29, .int a]
  | _ => [.ref 29]
def fX5_readTest_L7 (rec : Nat → Int32 → am_G → Option (Int32 × am_G)) : Nat → Int32 → Int32 → am_G → Option (Int32 × am_G)
  | 0, _, _, _ => none
  | n + 1, x4, x5, g6 =>
    if (400 : Int32) ≤ x5 then (
      am_gd (am_zb x4) <|
      some (x4, g6))
    else (
      if x4 = 0 then (
        am_gd (am_zb x4) <|
        some (x4, g6))
      else (
        am_bd (fX5_pass (8 : Int32) g6) fun v11 g12 =>
        if v11 = 0 then (
          am_gd (am_zb x4) <|
          some (x4, g12))
        else (
          am_let (am_I g12 29 6) fun x16 =>
          am_bd (fX5_addStep (5 : Int32) (0 : Int32) g12) fun u17 g18 =>
          am_bd (rec 1 0 g18) fun v20 g21 =>
          am_bd (fX5_aim x16 (5 : Int32) g21) fun u23 g24 =>
          am_let (x5 + (1 : Int32)) fun x26 =>
          fX5_readTest_L7 rec n v20 x26 g24)))
def bX5_readTest (rec : Nat → Int32 → am_G → Option (Int32 × am_G)) (g : am_G) : Option (Int32 × am_G) :=
  am_bd (rec 1 0 g) fun v1 g2 =>
  fX5_readTest_L7 rec am_fu v1 (0 : Int32) g2
def fX5_readBoth_L7 (rec : Nat → Int32 → am_G → Option (Int32 × am_G)) : Nat → Int32 → Int32 → am_G → Option (Int32 × am_G)
  | 0, _, _, _ => none
  | n + 1, x4, x5, g6 =>
    if (400 : Int32) ≤ x5 then (
      am_gd (am_zb x4) <|
      some (x4, g6))
    else (
      if x4 = 0 then (
        am_gd (am_zb x4) <|
        some (x4, g6))
      else (
        am_bd (fX5_pass (9 : Int32) g6) fun v11 g12 =>
        if v11 = 0 then (
          am_gd (am_zb x4) <|
          some (x4, g12))
        else (
          am_let (am_I g12 29 6) fun x16 =>
          am_bd (fX5_addStep (4 : Int32) (0 : Int32) g12) fun u17 g18 =>
          am_bd (rec 2 0 g18) fun v20 g21 =>
          am_bd (fX5_aim x16 (4 : Int32) g21) fun u23 g24 =>
          am_let (x5 + (1 : Int32)) fun x26 =>
          fX5_readBoth_L7 rec n v20 x26 g24)))
def bX5_readBoth (rec : Nat → Int32 → am_G → Option (Int32 × am_G)) (g : am_G) : Option (Int32 × am_G) :=
  am_bd (rec 2 0 g) fun v1 g2 =>
  fX5_readBoth_L7 rec am_fu v1 (0 : Int32) g2
def fX5_readPlain_L4 (rec : Nat → Int32 → am_G → Option (Int32 × am_G)) (k : Int32 → am_G → Option (Int32 × am_G)) : Nat → Int32 → Int32 → am_G → Option (Int32 × am_G)
  | 0, _, _, _ => none
  | n + 1, x1, x2, g3 =>
    if (400 : Int32) ≤ x2 then (
      k x1 g3)
    else (
      am_bd (fX5_pass (10 : Int32) g3) fun v7 g8 =>
      if v7 = 0 then (
        k x1 g8)
      else (
        am_jn (fun (x12 : Int32) (g13 : am_G) =>
          am_let (x2 + (1 : Int32)) fun x15 =>
          fX5_readPlain_L4 rec k n x12 x15 g13) fun j14 =>
        if x1 = 0 then (
          j14 (1 : Int32) g8)
        else (
          j14 (0 : Int32) g8)))
def bX5_readPlain (rec : Nat → Int32 → am_G → Option (Int32 × am_G)) (g : am_G) : Option (Int32 × am_G) :=
  fX5_readPlain_L4 rec (fun (x16 : Int32) (g17 : am_G) =>
    am_gd (am_in (am_I g17 29 7) 401) <|
    am_jn (fun (x20 : Int32) (g21 : am_G) =>
      if x16 = 0 then (
        am_gd (am_zb x20) <|
        some (x20, g21))
      else (
        am_bd (fX5_addStep (3 : Int32) (0 : Int32) g21) fun u25 g26 =>
        am_gd (am_zb x20) <|
        some (x20, g26))) fun j22 =>
    if (am_I g17 31 (am_I g17 29 7).toNatClampNeg) = (168 : Int32) then (
      am_bd (rec 3 (41 : Int32) g17) fun v32 g33 =>
      j22 v32 g33)
    else (
      am_bd (rec 4 0 g17) fun v29 g30 =>
      j22 v29 g30)) am_fu (0 : Int32) (0 : Int32) g
def bX5_readBracket (rec : Nat → Int32 → am_G → Option (Int32 × am_G)) (a1 : Int32) (g : am_G) : Option (Int32 × am_G) :=
  if (am_I g 29 9) < (8 : Int32) then (
    am_let (am_si g 29 9 ((am_I g 29 9) + (1 : Int32))) fun g2 =>
    am_let (am_si g2 29 7 ((am_I g2 29 7) + (1 : Int32))) fun g3 =>
    am_jn (fun  (g5 : am_G) =>
      am_bd (fX5_pass ((128 : Int32) + a1) g5) fun v7 g8 =>
      if v7 = 0 then (
        some ((0 : Int32), g8))
      else (
        am_let (am_si g8 29 9 ((am_I g8 29 9) - (1 : Int32))) fun g11 =>
        some ((1 : Int32), g11))) fun j6 =>
    if a1 = (41 : Int32) then (
      am_bd (rec 0 0 g3) fun v16 g17 =>
      if v16 = 0 then (
        some ((0 : Int32), g17))
      else (
        j6 g17))
    else (
      am_bd (rec 5 0 g3) fun v12 g13 =>
      if v12 = 0 then (
        some ((0 : Int32), g13))
      else (
        j6 g13)))
  else (
    some ((0 : Int32), g))
def bX5_readCompared (rec : Nat → Int32 → am_G → Option (Int32 × am_G)) (g : am_G) : Option (Int32 × am_G) :=
  am_bd (rec 5 0 g) fun v1 g2 =>
  if v1 = 0 then (
    some ((0 : Int32), g2))
  else (
    am_gd (am_in (am_I g2 29 7) 401) <|
    am_bd (fX5_joinOf (am_I g2 31 (am_I g2 29 7).toNatClampNeg) g2) fun v6 g7 =>
    if (11 : Int32) ≤ v6 then (
      am_let (am_si g7 29 7 ((am_I g7 29 7) + (1 : Int32))) fun g10 =>
      am_bd (rec 5 0 g10) fun v11 g12 =>
      am_bd (fX5_addStep v6 (0 : Int32) g12) fun u14 g15 =>
      am_gd (am_zb v11) <|
      some (v11, g15))
    else (
      some ((0 : Int32), g7)))
def fX5_readSum_L7 (rec : Nat → Int32 → am_G → Option (Int32 × am_G)) : Nat → Int32 → Int32 → am_G → Option (Int32 × am_G)
  | 0, _, _, _ => none
  | n + 1, x4, x5, g6 =>
    if (400 : Int32) ≤ x5 then (
      am_gd (am_zb x4) <|
      some (x4, g6))
    else (
      if x4 = 0 then (
        am_gd (am_zb x4) <|
        some (x4, g6))
      else (
        am_gd (am_in (am_I g6 29 7) 401) <|
        am_bd (fX5_joinOf (am_I g6 31 (am_I g6 29 7).toNatClampNeg) g6) fun v12 g13 =>
        am_bd (fX11_within v12 (6 : Int32) (7 : Int32) g13) fun v15 g16 =>
        if v15 = 0 then (
          am_gd (am_zb x4) <|
          some (x4, g16))
        else (
          am_let (am_si g16 29 7 ((am_I g16 29 7) + (1 : Int32))) fun g19 =>
          am_bd (rec 6 0 g19) fun v20 g21 =>
          am_bd (fX5_addStep v12 (0 : Int32) g21) fun u23 g24 =>
          am_let (x5 + (1 : Int32)) fun x26 =>
          fX5_readSum_L7 rec n v20 x26 g24)))
def bX5_readSum (rec : Nat → Int32 → am_G → Option (Int32 × am_G)) (g : am_G) : Option (Int32 × am_G) :=
  am_bd (rec 6 0 g) fun v1 g2 =>
  fX5_readSum_L7 rec am_fu v1 (0 : Int32) g2
def fX5_readTerm_L7 (rec : Nat → Int32 → am_G → Option (Int32 × am_G)) : Nat → Int32 → Int32 → am_G → Option (Int32 × am_G)
  | 0, _, _, _ => none
  | n + 1, x4, x5, g6 =>
    if (400 : Int32) ≤ x5 then (
      am_gd (am_zb x4) <|
      some (x4, g6))
    else (
      if x4 = 0 then (
        am_gd (am_zb x4) <|
        some (x4, g6))
      else (
        am_gd (am_in (am_I g6 29 7) 401) <|
        am_bd (fX5_joinOf (am_I g6 31 (am_I g6 29 7).toNatClampNeg) g6) fun v12 g13 =>
        am_bd (fX11_within v12 (8 : Int32) (10 : Int32) g13) fun v15 g16 =>
        if v15 = 0 then (
          am_gd (am_zb x4) <|
          some (x4, g16))
        else (
          am_let (am_si g16 29 7 ((am_I g16 29 7) + (1 : Int32))) fun g19 =>
          am_bd (rec 7 0 g19) fun v20 g21 =>
          am_bd (fX5_addStep v12 (0 : Int32) g21) fun u23 g24 =>
          am_let (x5 + (1 : Int32)) fun x26 =>
          fX5_readTerm_L7 rec n v20 x26 g24)))
def bX5_readTerm (rec : Nat → Int32 → am_G → Option (Int32 × am_G)) (g : am_G) : Option (Int32 × am_G) :=
  am_bd (rec 7 0 g) fun v1 g2 =>
  fX5_readTerm_L7 rec am_fu v1 (0 : Int32) g2
def bX5_readPart (rec : Nat → Int32 → am_G → Option (Int32 × am_G)) (g : am_G) : Option (Int32 × am_G) :=
  am_gd (am_in (am_I g 29 7) 401) <|
  am_let (am_I g 31 (am_I g 29 7).toNatClampNeg) fun x2 =>
  if x2 = (219 : Int32) then (
    am_bd (rec 3 (93 : Int32) g) fun v53 g54 =>
    am_gd (am_zb v53) <|
    some (v53, g54))
  else (
    if (am_I g 29 8) < (50 : Int32) then (
      am_let (am_si g 29 8 ((am_I g 29 8) + (1 : Int32))) fun g5 =>
      am_bd (fX11_within x2 (1000 : Int32) (2000 : Int32) g5) fun v6 g7 =>
      if v6 = 0 then (
        am_jn (fun  (g11 : am_G) =>
          if (am_I g11 29 10) = 0 then (
            am_jn (fun  (g15 : am_G) =>
              am_let (am_si g15 29 7 ((am_I g15 29 7) + (1 : Int32))) fun g17 =>
              am_gd (am_in (am_I g17 29 7) 401) <|
              am_bd (fX11_within (am_I g17 31 (am_I g17 29 7).toNatClampNeg) (1000 : Int32) (1005 : Int32) g17) fun v19 g20 =>
              if v19 = 0 then (
                some ((0 : Int32), g20))
              else (
                am_jn (fun (x24 : Int32) (g25 : am_G) =>
                  am_gd (am_in (am_I g25 29 7) 401) <|
                  am_bd (fX5_addStep (2 : Int32) ((x24 + (am_I g25 31 (am_I g25 29 7).toNatClampNeg)) - (1000 : Int32)) g25) fun u28 g29 =>
                  am_let (am_si g29 29 7 ((am_I g29 29 7) + (1 : Int32))) fun g31 =>
                  some ((1 : Int32), g31)) fun j26 =>
                if x2 = (21 : Int32) then (
                  j26 (28 : Int32) g20)
                else (
                  j26 (34 : Int32) g20))) fun j16 =>
            if x2 = (21 : Int32) then (
              j16 g11)
            else (
              if x2 = (27 : Int32) then (
                j16 g11)
              else (
                some ((0 : Int32), g11))))
          else (
            some ((0 : Int32), g11))) fun j12 =>
        if (am_I g7 29 10) = 0 then (
          am_bd (fX11_within x2 (22 : Int32) (26 : Int32) g7) fun v33 g34 =>
          if v33 = 0 then (
            j12 g34)
          else (
            am_bd (fX5_addStep (2 : Int32) x2 g34) fun u37 g38 =>
            am_let (am_si g38 29 7 ((am_I g38 29 7) + (1 : Int32))) fun g40 =>
            some ((1 : Int32), g40)))
        else (
          am_bd (fX11_within x2 (13 : Int32) (22 : Int32) g7) fun v41 g42 =>
          if v41 = 0 then (
            j12 g42)
          else (
            am_bd (fX5_addStep (2 : Int32) x2 g42) fun u45 g46 =>
            am_let (am_si g46 29 7 ((am_I g46 29 7) + (1 : Int32))) fun g48 =>
            some ((1 : Int32), g48))))
      else (
        am_bd (fX5_addStep (1 : Int32) (x2 - (1000 : Int32)) g7) fun u49 g50 =>
        am_let (am_si g50 29 7 ((am_I g50 29 7) + (1 : Int32))) fun g52 =>
        some ((1 : Int32), g52)))
    else (
      some ((0 : Int32), g)))
set_option maxRecDepth 100000 in
set_option maxHeartbeats 4000000 in
theorem tfX5_readTest_L7 {rec : Nat → Int32 → am_G → Option (Int32 × am_G)} {dd : Nat} (hdd : 0 ≤ dd) (hrec : ∀ (i : Nat) (a : Int32) (g : am_G) (r : Int32 × am_G), rec i a g = some r → am_Mt zc (rdM i) dd (rdA i a) g (am_ri r))  : ∀ (n : Nat) (x4 : Int32) (x5 : Int32) (g6 : am_G) (r : Int32 × am_G), fX5_readTest_L7 rec n x4 x5 g6 = some r → am_Ev zc MX5_readTest (dd + 1) 7 [(0, .ref 29), (1, .int x4), (2, .int x5)] [] g6 (am_ri r) := by
  intro n
  induction n with
  | zero => intro x4 x5 g6 r h; exact nomatch (show (none : Option (Int32 × am_G)) = some r from h)
  | succ n ih =>
    intro x4 x5 g6 r h
    rw [fX5_readTest_L7] at h
    refine ev_iload_n 2 dX5_readTest_7 rfl ?_
    refine ev_sipush dX5_readTest_8 rfl ?_
    refine ev_icmp_ge 55 dX5_readTest_11 (by decide) (fun c7 => ?_) (fun c7 => ?_)
    · replace h := am_ifp c7 h
      refine ev_iload_n 1 dX5_readTest_55 rfl ?_
      obtain ⟨c8, h⟩ := am_gd_elim h
      cases h
      exact ev_zret dX5_readTest_56 rfl (am_zb_n c8)
    · replace h := am_ifn c7 h
      refine ev_iload_n 1 dX5_readTest_14 rfl ?_
      refine ev_if_eq 55 dX5_readTest_15 (by decide) (fun c9 => ?_) (fun c9 => ?_)
      · replace h := am_ifp c9 h
        refine ev_iload_n 1 dX5_readTest_55 rfl ?_
        obtain ⟨c10, h⟩ := am_gd_elim h
        cases h
        exact ev_zret dX5_readTest_56 rfl (am_zb_n c10)
      · replace h := am_ifn c9 h
        refine ev_aload_n 0 dX5_readTest_18 rfl ?_
        refine ev_bipush dX5_readTest_19 rfl ?_
        obtain ⟨v11, g12, e13, h⟩ := am_bd_elim h
        refine ev_callVi (v := v11) [.int (8 : Int32)] [] dX5_readTest_21 (tX5_pass e13) (by omega) mo_X5_pass kM_X5_108 ki_X5_pass kv_X5_pass (fun h9 => (h9.2.1 29 _ rfl).2) (by decide) rfl (Nat.le_of_ble_eq_true rfl) ?_
        refine ev_if_eq 55 dX5_readTest_24 (by decide) (fun c14 => ?_) (fun c14 => ?_)
        · replace h := am_ifp c14 h
          refine ev_iload_n 1 dX5_readTest_55 rfl ?_
          obtain ⟨c15, h⟩ := am_gd_elim h
          cases h
          exact ev_zret dX5_readTest_56 rfl (am_zb_n c15)
        · replace h := am_ifn c14 h
          refine ev_aload_n 0 dX5_readTest_27 rfl ?_
          refine ev_gf (v := .int (am_I g12 29 6)) dX5_readTest_28 (fun h9 => (h9.2.1 29 _ rfl).2) 6 (by decide) (by decide) kF_X5_48 (fun _ => rfl) ?_
          refine am_let_elim (P := fun x16 => am_Ev zc MX5_readTest (dd + 1) 31 [(0, .ref 29), (1, .int x4), (2, .int x5)] [.int x16] g12 (am_ri r)) h fun x16 h => ?_
          refine ev_istore_n (ls' := [(3, .int x16), (0, .ref 29), (1, .int x4), (2, .int x5)]) dX5_readTest_31 rfl (by decide) rfl ?_
          refine ev_aload_n 1 dX5_readTest_32 rfl ?_
          refine ev_iconst dX5_readTest_33 rfl ?_
          refine ev_iconst dX5_readTest_34 rfl ?_
          obtain ⟨u17, g18, e19, h⟩ := am_bd_elim h
          refine ev_callVv [.int (5 : Int32), .int (0 : Int32)] [] dX5_readTest_35 (tX5_addStep e19) (by omega) mo_X5_addStep kM_X5_127 ki_X5_addStep kv_X5_addStep (fun h9 => (h9.2.1 29 _ rfl).2) (by decide) rfl (Nat.le_of_ble_eq_true rfl) ?_
          refine ev_aload_n 1 dX5_readTest_38 rfl ?_
          obtain ⟨v20, g21, e22, h⟩ := am_bd_elim h
          refine ev_callVi (v := v20) [] [] dX5_readTest_39 (show am_Mt zc MX5_readBoth dd [.ref 29] g18 (am_ri (v20, g21)) from hrec 1 0 g18 _ e22) (Nat.lt_succ_self _) mo_X5_readBoth kM_X5_137 ki_X5_readBoth kv_X5_readBoth (fun h9 => (h9.2.1 29 _ rfl).2) (by decide) rfl (Nat.le_of_ble_eq_true rfl) ?_
          refine ev_istore_n (ls' := [(1, .int v20), (3, .int x16), (0, .ref 29), (2, .int x5)]) dX5_readTest_42 rfl (by decide) rfl ?_
          refine ev_aload_n 2 dX5_readTest_43 rfl ?_
          refine ev_iload_n 1 dX5_readTest_44 rfl ?_
          refine ev_iconst dX5_readTest_45 rfl ?_
          obtain ⟨u23, g24, e25, h⟩ := am_bd_elim h
          refine ev_callVv [.int x16, .int (5 : Int32)] [] dX5_readTest_46 (tX5_aim e25) (by omega) mo_X5_aim kM_X5_140 ki_X5_aim kv_X5_aim (fun h9 => (h9.2.1 29 _ rfl).2) (by decide) rfl (Nat.le_of_ble_eq_true rfl) ?_
          obtain ⟨x26, ex26, h⟩ := am_let_ex h
          refine ev_iinc (ls' := [(2, .int x26), (1, .int v20), (3, .int x16), (0, .ref 29)]) 3 dX5_readTest_49 rfl ex26 (by decide) rfl ?_
          refine ev_goto 7 dX5_readTest_52 (by decide) ?_
          refine ev_sub [3, 1, 0] rfl ?_
          exact ih _ _ _ _ h
set_option maxRecDepth 100000 in
set_option maxHeartbeats 4000000 in
theorem eX5_readTest {rec : Nat → Int32 → am_G → Option (Int32 × am_G)} {dd : Nat} (hdd : 0 ≤ dd) (hrec : ∀ (i : Nat) (a : Int32) (g : am_G) (r : Int32 × am_G), rec i a g = some r → am_Mt zc (rdM i) dd (rdA i a) g (am_ri r)) (g : am_G) (r : Int32 × am_G) (h : bX5_readTest rec g = some r) : am_Ev zc MX5_readTest (dd + 1) 0 [(0, .ref 29)] [] g (am_ri r) := by
  unfold bX5_readTest at h
  refine ev_aload_n 0 dX5_readTest_0 rfl ?_
  obtain ⟨v1, g2, e3, h⟩ := am_bd_elim h
  refine ev_callVi (v := v1) [] [] dX5_readTest_1 (show am_Mt zc MX5_readBoth dd [.ref 29] g (am_ri (v1, g2)) from hrec 1 0 g _ e3) (Nat.lt_succ_self _) mo_X5_readBoth kM_X5_137 ki_X5_readBoth kv_X5_readBoth (fun h9 => (h9.2.1 29 _ rfl).2) (by decide) rfl (Nat.le_of_ble_eq_true rfl) ?_
  refine ev_istore_n (ls' := [(1, .int v1), (0, .ref 29)]) dX5_readTest_4 rfl (by decide) rfl ?_
  refine ev_iconst dX5_readTest_5 rfl ?_
  refine ev_istore_n (ls' := [(2, .int (0 : Int32)), (1, .int v1), (0, .ref 29)]) dX5_readTest_6 rfl (by decide) rfl ?_
  refine ev_sub [2, 1, 0] rfl ?_
  exact tfX5_readTest_L7 hdd hrec _ _ _ _ _ h
set_option maxRecDepth 100000 in
set_option maxHeartbeats 4000000 in
theorem tfX5_readBoth_L7 {rec : Nat → Int32 → am_G → Option (Int32 × am_G)} {dd : Nat} (hdd : 0 ≤ dd) (hrec : ∀ (i : Nat) (a : Int32) (g : am_G) (r : Int32 × am_G), rec i a g = some r → am_Mt zc (rdM i) dd (rdA i a) g (am_ri r))  : ∀ (n : Nat) (x4 : Int32) (x5 : Int32) (g6 : am_G) (r : Int32 × am_G), fX5_readBoth_L7 rec n x4 x5 g6 = some r → am_Ev zc MX5_readBoth (dd + 1) 7 [(0, .ref 29), (1, .int x4), (2, .int x5)] [] g6 (am_ri r) := by
  intro n
  induction n with
  | zero => intro x4 x5 g6 r h; exact nomatch (show (none : Option (Int32 × am_G)) = some r from h)
  | succ n ih =>
    intro x4 x5 g6 r h
    rw [fX5_readBoth_L7] at h
    refine ev_iload_n 2 dX5_readBoth_7 rfl ?_
    refine ev_sipush dX5_readBoth_8 rfl ?_
    refine ev_icmp_ge 55 dX5_readBoth_11 (by decide) (fun c7 => ?_) (fun c7 => ?_)
    · replace h := am_ifp c7 h
      refine ev_iload_n 1 dX5_readBoth_55 rfl ?_
      obtain ⟨c8, h⟩ := am_gd_elim h
      cases h
      exact ev_zret dX5_readBoth_56 rfl (am_zb_n c8)
    · replace h := am_ifn c7 h
      refine ev_iload_n 1 dX5_readBoth_14 rfl ?_
      refine ev_if_eq 55 dX5_readBoth_15 (by decide) (fun c9 => ?_) (fun c9 => ?_)
      · replace h := am_ifp c9 h
        refine ev_iload_n 1 dX5_readBoth_55 rfl ?_
        obtain ⟨c10, h⟩ := am_gd_elim h
        cases h
        exact ev_zret dX5_readBoth_56 rfl (am_zb_n c10)
      · replace h := am_ifn c9 h
        refine ev_aload_n 0 dX5_readBoth_18 rfl ?_
        refine ev_bipush dX5_readBoth_19 rfl ?_
        obtain ⟨v11, g12, e13, h⟩ := am_bd_elim h
        refine ev_callVi (v := v11) [.int (9 : Int32)] [] dX5_readBoth_21 (tX5_pass e13) (by omega) mo_X5_pass kM_X5_108 ki_X5_pass kv_X5_pass (fun h9 => (h9.2.1 29 _ rfl).2) (by decide) rfl (Nat.le_of_ble_eq_true rfl) ?_
        refine ev_if_eq 55 dX5_readBoth_24 (by decide) (fun c14 => ?_) (fun c14 => ?_)
        · replace h := am_ifp c14 h
          refine ev_iload_n 1 dX5_readBoth_55 rfl ?_
          obtain ⟨c15, h⟩ := am_gd_elim h
          cases h
          exact ev_zret dX5_readBoth_56 rfl (am_zb_n c15)
        · replace h := am_ifn c14 h
          refine ev_aload_n 0 dX5_readBoth_27 rfl ?_
          refine ev_gf (v := .int (am_I g12 29 6)) dX5_readBoth_28 (fun h9 => (h9.2.1 29 _ rfl).2) 6 (by decide) (by decide) kF_X5_48 (fun _ => rfl) ?_
          refine am_let_elim (P := fun x16 => am_Ev zc MX5_readBoth (dd + 1) 31 [(0, .ref 29), (1, .int x4), (2, .int x5)] [.int x16] g12 (am_ri r)) h fun x16 h => ?_
          refine ev_istore_n (ls' := [(3, .int x16), (0, .ref 29), (1, .int x4), (2, .int x5)]) dX5_readBoth_31 rfl (by decide) rfl ?_
          refine ev_aload_n 1 dX5_readBoth_32 rfl ?_
          refine ev_iconst dX5_readBoth_33 rfl ?_
          refine ev_iconst dX5_readBoth_34 rfl ?_
          obtain ⟨u17, g18, e19, h⟩ := am_bd_elim h
          refine ev_callVv [.int (4 : Int32), .int (0 : Int32)] [] dX5_readBoth_35 (tX5_addStep e19) (by omega) mo_X5_addStep kM_X5_127 ki_X5_addStep kv_X5_addStep (fun h9 => (h9.2.1 29 _ rfl).2) (by decide) rfl (Nat.le_of_ble_eq_true rfl) ?_
          refine ev_aload_n 1 dX5_readBoth_38 rfl ?_
          obtain ⟨v20, g21, e22, h⟩ := am_bd_elim h
          refine ev_callVi (v := v20) [] [] dX5_readBoth_39 (show am_Mt zc MX5_readPlain dd [.ref 29] g18 (am_ri (v20, g21)) from hrec 2 0 g18 _ e22) (Nat.lt_succ_self _) mo_X5_readPlain kM_X5_143 ki_X5_readPlain kv_X5_readPlain (fun h9 => (h9.2.1 29 _ rfl).2) (by decide) rfl (Nat.le_of_ble_eq_true rfl) ?_
          refine ev_istore_n (ls' := [(1, .int v20), (3, .int x16), (0, .ref 29), (2, .int x5)]) dX5_readBoth_42 rfl (by decide) rfl ?_
          refine ev_aload_n 2 dX5_readBoth_43 rfl ?_
          refine ev_iload_n 1 dX5_readBoth_44 rfl ?_
          refine ev_iconst dX5_readBoth_45 rfl ?_
          obtain ⟨u23, g24, e25, h⟩ := am_bd_elim h
          refine ev_callVv [.int x16, .int (4 : Int32)] [] dX5_readBoth_46 (tX5_aim e25) (by omega) mo_X5_aim kM_X5_140 ki_X5_aim kv_X5_aim (fun h9 => (h9.2.1 29 _ rfl).2) (by decide) rfl (Nat.le_of_ble_eq_true rfl) ?_
          obtain ⟨x26, ex26, h⟩ := am_let_ex h
          refine ev_iinc (ls' := [(2, .int x26), (1, .int v20), (3, .int x16), (0, .ref 29)]) 3 dX5_readBoth_49 rfl ex26 (by decide) rfl ?_
          refine ev_goto 7 dX5_readBoth_52 (by decide) ?_
          refine ev_sub [3, 1, 0] rfl ?_
          exact ih _ _ _ _ h
set_option maxRecDepth 100000 in
set_option maxHeartbeats 4000000 in
theorem eX5_readBoth {rec : Nat → Int32 → am_G → Option (Int32 × am_G)} {dd : Nat} (hdd : 0 ≤ dd) (hrec : ∀ (i : Nat) (a : Int32) (g : am_G) (r : Int32 × am_G), rec i a g = some r → am_Mt zc (rdM i) dd (rdA i a) g (am_ri r)) (g : am_G) (r : Int32 × am_G) (h : bX5_readBoth rec g = some r) : am_Ev zc MX5_readBoth (dd + 1) 0 [(0, .ref 29)] [] g (am_ri r) := by
  unfold bX5_readBoth at h
  refine ev_aload_n 0 dX5_readBoth_0 rfl ?_
  obtain ⟨v1, g2, e3, h⟩ := am_bd_elim h
  refine ev_callVi (v := v1) [] [] dX5_readBoth_1 (show am_Mt zc MX5_readPlain dd [.ref 29] g (am_ri (v1, g2)) from hrec 2 0 g _ e3) (Nat.lt_succ_self _) mo_X5_readPlain kM_X5_143 ki_X5_readPlain kv_X5_readPlain (fun h9 => (h9.2.1 29 _ rfl).2) (by decide) rfl (Nat.le_of_ble_eq_true rfl) ?_
  refine ev_istore_n (ls' := [(1, .int v1), (0, .ref 29)]) dX5_readBoth_4 rfl (by decide) rfl ?_
  refine ev_iconst dX5_readBoth_5 rfl ?_
  refine ev_istore_n (ls' := [(2, .int (0 : Int32)), (1, .int v1), (0, .ref 29)]) dX5_readBoth_6 rfl (by decide) rfl ?_
  refine ev_sub [2, 1, 0] rfl ?_
  exact tfX5_readBoth_L7 hdd hrec _ _ _ _ _ h
set_option maxRecDepth 100000 in
set_option maxHeartbeats 4000000 in
theorem tfX5_readPlain_L4 {rec : Nat → Int32 → am_G → Option (Int32 × am_G)} {dd : Nat} (hdd : 0 ≤ dd) (hrec : ∀ (i : Nat) (a : Int32) (g : am_G) (r : Int32 × am_G), rec i a g = some r → am_Mt zc (rdM i) dd (rdA i a) g (am_ri r))  {k : Int32 → am_G → Option (Int32 × am_G)} (hk : ∀ (x4 : Int32) (g5 : am_G) (r : Int32 × am_G), k x4 g5 = some r → am_Ev zc MX5_readPlain (dd + 1) 36 [(0, .ref 29), (1, .int x4)] [] g5 (am_ri r)) : ∀ (n : Nat) (x1 : Int32) (x2 : Int32) (g3 : am_G) (r : Int32 × am_G), fX5_readPlain_L4 rec k n x1 x2 g3 = some r → am_Ev zc MX5_readPlain (dd + 1) 4 [(0, .ref 29), (1, .int x1), (2, .int x2)] [] g3 (am_ri r) := by
  intro n
  induction n with
  | zero => intro x1 x2 g3 r h; exact nomatch (show (none : Option (Int32 × am_G)) = some r from h)
  | succ n ih =>
    intro x1 x2 g3 r h
    rw [fX5_readPlain_L4] at h
    refine ev_iload_n 2 dX5_readPlain_4 rfl ?_
    refine ev_sipush dX5_readPlain_5 rfl ?_
    refine ev_icmp_ge 36 dX5_readPlain_8 (by decide) (fun c6 => ?_) (fun c6 => ?_)
    · replace h := am_ifp c6 h
      refine ev_sub [0, 1] rfl ?_
      exact hk _ _ _ h
    · replace h := am_ifn c6 h
      refine ev_aload_n 0 dX5_readPlain_11 rfl ?_
      refine ev_bipush dX5_readPlain_12 rfl ?_
      obtain ⟨v7, g8, e9, h⟩ := am_bd_elim h
      refine ev_callVi (v := v7) [.int (10 : Int32)] [] dX5_readPlain_14 (tX5_pass e9) (by omega) mo_X5_pass kM_X5_108 ki_X5_pass kv_X5_pass (fun h9 => (h9.2.1 29 _ rfl).2) (by decide) rfl (Nat.le_of_ble_eq_true rfl) ?_
      refine ev_if_eq 36 dX5_readPlain_17 (by decide) (fun c10 => ?_) (fun c10 => ?_)
      · replace h := am_ifp c10 h
        refine ev_sub [0, 1] rfl ?_
        exact hk _ _ _ h
      · replace h := am_ifn c10 h
        refine ev_iload_n 1 dX5_readPlain_20 rfl ?_
        refine am_jn_elim (fun q9 => ∀ (x12 : Int32) (g13 : am_G) (r : Int32 × am_G), q9 x12 g13 = some r → am_Ev zc MX5_readPlain (dd + 1) 29 [(0, .ref 29), (2, .int x2)] [.int x12] g13 (am_ri r)) h ?_ (fun j14 hj14 h => ?_)
        · intro x12 g13 r h
          try dsimp only at h
          refine ev_istore_n (ls' := [(1, .int x12), (0, .ref 29), (2, .int x2)]) dX5_readPlain_29 rfl (by decide) rfl ?_
          obtain ⟨x15, ex15, h⟩ := am_let_ex h
          refine ev_iinc (ls' := [(2, .int x15), (1, .int x12), (0, .ref 29)]) 2 dX5_readPlain_30 rfl ex15 (by decide) rfl ?_
          refine ev_goto 4 dX5_readPlain_33 (by decide) ?_
          refine ev_sub [2, 1, 0] rfl ?_
          exact ih _ _ _ _ h
        · refine ev_if_ne 28 dX5_readPlain_21 (by decide) (fun c11 => ?_) (fun c11 => ?_)
          · replace h := am_ifn c11 h
            refine ev_iconst dX5_readPlain_28 rfl ?_
            refine ev_sub [0, 2] rfl ?_
            exact hj14 _ _ _ h
          · replace h := am_ifp c11 h
            refine ev_iconst dX5_readPlain_24 rfl ?_
            refine ev_goto 29 dX5_readPlain_25 (by decide) ?_
            refine ev_sub [0, 2] rfl ?_
            exact hj14 _ _ _ h
set_option maxRecDepth 100000 in
set_option maxHeartbeats 4000000 in
theorem eX5_readPlain {rec : Nat → Int32 → am_G → Option (Int32 × am_G)} {dd : Nat} (hdd : 0 ≤ dd) (hrec : ∀ (i : Nat) (a : Int32) (g : am_G) (r : Int32 × am_G), rec i a g = some r → am_Mt zc (rdM i) dd (rdA i a) g (am_ri r)) (g : am_G) (r : Int32 × am_G) (h : bX5_readPlain rec g = some r) : am_Ev zc MX5_readPlain (dd + 1) 0 [(0, .ref 29)] [] g (am_ri r) := by
  unfold bX5_readPlain at h
  refine ev_iconst dX5_readPlain_0 rfl ?_
  refine ev_istore_n (ls' := [(1, .int (0 : Int32)), (0, .ref 29)]) dX5_readPlain_1 rfl (by decide) rfl ?_
  refine ev_iconst dX5_readPlain_2 rfl ?_
  refine ev_istore_n (ls' := [(2, .int (0 : Int32)), (1, .int (0 : Int32)), (0, .ref 29)]) dX5_readPlain_3 rfl (by decide) rfl ?_
  refine ev_sub [2, 1, 0] rfl ?_
  refine tfX5_readPlain_L4 hdd hrec ?_ _ _ _ _ _ h
  intro x16 g17 r h
  try dsimp only at h
  refine ev_aload_n 0 dX5_readPlain_36 rfl ?_
  refine ev_gf (v := .ref 31) dX5_readPlain_37 (fun h9 => (h9.2.1 29 _ rfl).2) 1 (by decide) (by decide) kF_X5_15 (fun h9 => congrArg va_rf (h9.2.2 29 1 31 rfl)) ?_
  refine ev_aload_n 0 dX5_readPlain_40 rfl ?_
  refine ev_gf (v := .int (am_I g17 29 7)) dX5_readPlain_41 (fun h9 => (h9.2.1 29 _ rfl).2) 7 (by decide) (by decide) kF_X5_45 (fun _ => rfl) ?_
  obtain ⟨c18, h⟩ := am_gd_elim h
  refine ev_iald dX5_readPlain_44 (fun h9 => (h9.2.1 31 _ rfl).2) (am_in_vp c18) ?_
  refine ev_sipush dX5_readPlain_45 rfl ?_
  refine am_jn_elim (fun q9 => ∀ (x20 : Int32) (g21 : am_G) (r : Int32 × am_G), q9 x20 g21 = some r → am_Ev zc MX5_readPlain (dd + 1) 64 [(0, .ref 29), (1, .int x16)] [.int x20] g21 (am_ri r)) h ?_ (fun j22 hj22 h => ?_)
  · intro x20 g21 r h
    try dsimp only at h
    refine ev_istore_n (ls' := [(2, .int x20), (0, .ref 29), (1, .int x16)]) dX5_readPlain_64 rfl (by decide) rfl ?_
    refine ev_iload_n 2 dX5_readPlain_65 rfl ?_
    refine ev_if_eq 75 dX5_readPlain_66 (by decide) (fun c23 => ?_) (fun c23 => ?_)
    · replace h := am_ifp c23 h
      refine ev_iload_n 0 dX5_readPlain_75 rfl ?_
      obtain ⟨c24, h⟩ := am_gd_elim h
      cases h
      exact ev_zret dX5_readPlain_76 rfl (am_zb_n c24)
    · replace h := am_ifn c23 h
      refine ev_aload_n 1 dX5_readPlain_69 rfl ?_
      refine ev_iconst dX5_readPlain_70 rfl ?_
      refine ev_iconst dX5_readPlain_71 rfl ?_
      obtain ⟨u25, g26, e27, h⟩ := am_bd_elim h
      refine ev_callVv [.int (3 : Int32), .int (0 : Int32)] [] dX5_readPlain_72 (tX5_addStep e27) (by omega) mo_X5_addStep kM_X5_127 ki_X5_addStep kv_X5_addStep (fun h9 => (h9.2.1 29 _ rfl).2) (by decide) rfl (Nat.le_of_ble_eq_true rfl) ?_
      refine ev_iload_n 0 dX5_readPlain_75 rfl ?_
      obtain ⟨c28, h⟩ := am_gd_elim h
      cases h
      exact ev_zret dX5_readPlain_76 rfl (am_zb_n c28)
  · refine ev_icmp_ne 60 dX5_readPlain_48 (by decide) (fun c19 => ?_) (fun c19 => ?_)
    · replace h := am_ifn c19 h
      refine ev_aload_n 0 dX5_readPlain_60 rfl ?_
      obtain ⟨v29, g30, e31, h⟩ := am_bd_elim h
      refine ev_callVi (v := v29) [] [] dX5_readPlain_61 (show am_Mt zc MX5_readCompared dd [.ref 29] g17 (am_ri (v29, g30)) from hrec 4 0 g17 _ e31) (Nat.lt_succ_self _) mo_X5_readCompared kM_X5_150 ki_X5_readCompared kv_X5_readCompared (fun h9 => (h9.2.1 29 _ rfl).2) (by decide) rfl (Nat.le_of_ble_eq_true rfl) ?_
      refine ev_sub [0, 1] rfl ?_
      exact hj22 _ _ _ h
    · replace h := am_ifp c19 h
      refine ev_aload_n 0 dX5_readPlain_51 rfl ?_
      refine ev_bipush dX5_readPlain_52 rfl ?_
      obtain ⟨v32, g33, e34, h⟩ := am_bd_elim h
      refine ev_callVi (v := v32) [.int (41 : Int32)] [] dX5_readPlain_54 (show am_Mt zc MX5_readBracket dd [.ref 29, .int (41 : Int32)] g17 (am_ri (v32, g33)) from hrec 3 (41 : Int32) g17 _ e34) (Nat.lt_succ_self _) mo_X5_readBracket kM_X5_146 ki_X5_readBracket kv_X5_readBracket (fun h9 => (h9.2.1 29 _ rfl).2) (by decide) rfl (Nat.le_of_ble_eq_true rfl) ?_
      refine ev_goto 64 dX5_readPlain_57 (by decide) ?_
      refine ev_sub [0, 1] rfl ?_
      exact hj22 _ _ _ h
set_option maxRecDepth 100000 in
set_option maxHeartbeats 4000000 in
theorem eX5_readBracket {rec : Nat → Int32 → am_G → Option (Int32 × am_G)} {dd : Nat} (hdd : 0 ≤ dd) (hrec : ∀ (i : Nat) (a : Int32) (g : am_G) (r : Int32 × am_G), rec i a g = some r → am_Mt zc (rdM i) dd (rdA i a) g (am_ri r)) (a1 : Int32) (g : am_G) (r : Int32 × am_G) (h : bX5_readBracket rec a1 g = some r) : am_Ev zc MX5_readBracket (dd + 1) 0 [(0, .ref 29), (1, .int a1)] [] g (am_ri r) := by
  unfold bX5_readBracket at h
  refine ev_aload_n 0 dX5_readBracket_0 rfl ?_
  refine ev_gf (v := .int (am_I g 29 9)) dX5_readBracket_1 (fun h9 => (h9.2.1 29 _ rfl).2) 9 (by decide) (by decide) kF_X5_54 (fun _ => rfl) ?_
  refine ev_bipush dX5_readBracket_4 rfl ?_
  refine ev_icmp_lt 11 dX5_readBracket_6 (by decide) (fun c1 => ?_) (fun c1 => ?_)
  · replace h := am_ifp c1 h
    refine ev_aload_n 0 dX5_readBracket_11 rfl ?_
    refine ev_dup dX5_readBracket_12 rfl ?_
    refine ev_gf (v := .int (am_I g 29 9)) dX5_readBracket_13 (fun h9 => (h9.2.1 29 _ rfl).2) 9 (by decide) (by decide) kF_X5_54 (fun _ => rfl) ?_
    refine ev_iconst dX5_readBracket_16 rfl ?_
    refine ev_iadd dX5_readBracket_17 ?_
    refine ev_pfi dX5_readBracket_18 (fun h9 => (h9.2.1 29 _ rfl).2) 9 (by decide) (by decide) kF_X5_54 rfl rfl rfl (fun _ => rfl) ?_
    refine am_let_elim (P := fun g2 => am_Ev zc MX5_readBracket (dd + 1) 21 [(0, .ref 29), (1, .int a1)] [] g2 (am_ri r)) h fun g2 h => ?_
    refine ev_aload_n 0 dX5_readBracket_21 rfl ?_
    refine ev_dup dX5_readBracket_22 rfl ?_
    refine ev_gf (v := .int (am_I g2 29 7)) dX5_readBracket_23 (fun h9 => (h9.2.1 29 _ rfl).2) 7 (by decide) (by decide) kF_X5_45 (fun _ => rfl) ?_
    refine ev_iconst dX5_readBracket_26 rfl ?_
    refine ev_iadd dX5_readBracket_27 ?_
    refine ev_pfi dX5_readBracket_28 (fun h9 => (h9.2.1 29 _ rfl).2) 7 (by decide) (by decide) kF_X5_45 rfl rfl rfl (fun _ => rfl) ?_
    refine am_let_elim (P := fun g3 => am_Ev zc MX5_readBracket (dd + 1) 31 [(0, .ref 29), (1, .int a1)] [] g3 (am_ri r)) h fun g3 h => ?_
    refine ev_iload_n 1 dX5_readBracket_31 rfl ?_
    refine ev_bipush dX5_readBracket_32 rfl ?_
    refine am_jn_elim (fun q9 => ∀  (g5 : am_G) (r : Int32 × am_G), q9  g5 = some r → am_Ev zc MX5_readBracket (dd + 1) 54 [(0, .ref 29), (1, .int a1)] [] g5 (am_ri r)) h ?_ (fun j6 hj6 h => ?_)
    · intro  g5 r h
      try dsimp only at h
      refine ev_aload_n 0 dX5_readBracket_54 rfl ?_
      refine ev_sipush dX5_readBracket_55 rfl ?_
      refine ev_iload_n 1 dX5_readBracket_58 rfl ?_
      refine ev_iadd dX5_readBracket_59 ?_
      obtain ⟨v7, g8, e9, h⟩ := am_bd_elim h
      refine ev_callVi (v := v7) [.int ((128 : Int32) + a1)] [] dX5_readBracket_60 (tX5_pass e9) (by omega) mo_X5_pass kM_X5_108 ki_X5_pass kv_X5_pass (fun h9 => (h9.2.1 29 _ rfl).2) (by decide) rfl (Nat.le_of_ble_eq_true rfl) ?_
      refine ev_if_ne 68 dX5_readBracket_63 (by decide) (fun c10 => ?_) (fun c10 => ?_)
      · replace h := am_ifn c10 h
        refine ev_aload_n 0 dX5_readBracket_68 rfl ?_
        refine ev_dup dX5_readBracket_69 rfl ?_
        refine ev_gf (v := .int (am_I g8 29 9)) dX5_readBracket_70 (fun h9 => (h9.2.1 29 _ rfl).2) 9 (by decide) (by decide) kF_X5_54 (fun _ => rfl) ?_
        refine ev_iconst dX5_readBracket_73 rfl ?_
        refine ev_isub dX5_readBracket_74 ?_
        refine ev_pfi dX5_readBracket_75 (fun h9 => (h9.2.1 29 _ rfl).2) 9 (by decide) (by decide) kF_X5_54 rfl rfl rfl (fun _ => rfl) ?_
        refine am_let_elim (P := fun g11 => am_Ev zc MX5_readBracket (dd + 1) 78 [(0, .ref 29), (1, .int a1)] [] g11 (am_ri r)) h fun g11 h => ?_
        refine ev_iconst dX5_readBracket_78 rfl ?_
        cases h
        exact ev_zret dX5_readBracket_79 rfl rfl
      · replace h := am_ifp c10 h
        refine ev_iconst dX5_readBracket_66 rfl ?_
        cases h
        exact ev_zret dX5_readBracket_67 rfl rfl
    · refine ev_icmp_ne 47 dX5_readBracket_34 (by decide) (fun c4 => ?_) (fun c4 => ?_)
      · replace h := am_ifn c4 h
        refine ev_aload_n 0 dX5_readBracket_47 rfl ?_
        obtain ⟨v12, g13, e14, h⟩ := am_bd_elim h
        refine ev_callVi (v := v12) [] [] dX5_readBracket_48 (show am_Mt zc MX5_readSum dd [.ref 29] g3 (am_ri (v12, g13)) from hrec 5 0 g3 _ e14) (Nat.lt_succ_self _) mo_X5_readSum kM_X5_124 ki_X5_readSum kv_X5_readSum (fun h9 => (h9.2.1 29 _ rfl).2) (by decide) rfl (Nat.le_of_ble_eq_true rfl) ?_
        refine ev_if_eq 66 dX5_readBracket_51 (by decide) (fun c15 => ?_) (fun c15 => ?_)
        · replace h := am_ifp c15 h
          refine ev_iconst dX5_readBracket_66 rfl ?_
          cases h
          exact ev_zret dX5_readBracket_67 rfl rfl
        · replace h := am_ifn c15 h
          refine ev_sub [0, 1] rfl ?_
          exact hj6  _ _ h
      · replace h := am_ifp c4 h
        refine ev_aload_n 0 dX5_readBracket_37 rfl ?_
        obtain ⟨v16, g17, e18, h⟩ := am_bd_elim h
        refine ev_callVi (v := v16) [] [] dX5_readBracket_38 (show am_Mt zc MX5_readTest dd [.ref 29] g3 (am_ri (v16, g17)) from hrec 0 0 g3 _ e18) (Nat.lt_succ_self _) mo_X5_readTest kM_X5_131 ki_X5_readTest kv_X5_readTest (fun h9 => (h9.2.1 29 _ rfl).2) (by decide) rfl (Nat.le_of_ble_eq_true rfl) ?_
        refine ev_if_eq 66 dX5_readBracket_41 (by decide) (fun c19 => ?_) (fun c19 => ?_)
        · replace h := am_ifp c19 h
          refine ev_iconst dX5_readBracket_66 rfl ?_
          cases h
          exact ev_zret dX5_readBracket_67 rfl rfl
        · replace h := am_ifn c19 h
          refine ev_goto 54 dX5_readBracket_44 (by decide) ?_
          refine ev_sub [0, 1] rfl ?_
          exact hj6  _ _ h
  · replace h := am_ifn c1 h
    refine ev_iconst dX5_readBracket_9 rfl ?_
    cases h
    exact ev_zret dX5_readBracket_10 rfl rfl
set_option maxRecDepth 100000 in
set_option maxHeartbeats 4000000 in
theorem eX5_readCompared {rec : Nat → Int32 → am_G → Option (Int32 × am_G)} {dd : Nat} (hdd : 0 ≤ dd) (hrec : ∀ (i : Nat) (a : Int32) (g : am_G) (r : Int32 × am_G), rec i a g = some r → am_Mt zc (rdM i) dd (rdA i a) g (am_ri r)) (g : am_G) (r : Int32 × am_G) (h : bX5_readCompared rec g = some r) : am_Ev zc MX5_readCompared (dd + 1) 0 [(0, .ref 29)] [] g (am_ri r) := by
  unfold bX5_readCompared at h
  refine ev_aload_n 0 dX5_readCompared_0 rfl ?_
  obtain ⟨v1, g2, e3, h⟩ := am_bd_elim h
  refine ev_callVi (v := v1) [] [] dX5_readCompared_1 (show am_Mt zc MX5_readSum dd [.ref 29] g (am_ri (v1, g2)) from hrec 5 0 g _ e3) (Nat.lt_succ_self _) mo_X5_readSum kM_X5_124 ki_X5_readSum kv_X5_readSum (fun h9 => (h9.2.1 29 _ rfl).2) (by decide) rfl (Nat.le_of_ble_eq_true rfl) ?_
  refine ev_if_ne 9 dX5_readCompared_4 (by decide) (fun c4 => ?_) (fun c4 => ?_)
  · replace h := am_ifn c4 h
    refine ev_aload_n 0 dX5_readCompared_9 rfl ?_
    refine ev_gf (v := .ref 31) dX5_readCompared_10 (fun h9 => (h9.2.1 29 _ rfl).2) 1 (by decide) (by decide) kF_X5_15 (fun h9 => congrArg va_rf (h9.2.2 29 1 31 rfl)) ?_
    refine ev_aload_n 0 dX5_readCompared_13 rfl ?_
    refine ev_gf (v := .int (am_I g2 29 7)) dX5_readCompared_14 (fun h9 => (h9.2.1 29 _ rfl).2) 7 (by decide) (by decide) kF_X5_45 (fun _ => rfl) ?_
    obtain ⟨c5, h⟩ := am_gd_elim h
    refine ev_iald dX5_readCompared_17 (fun h9 => (h9.2.1 31 _ rfl).2) (am_in_vp c5) ?_
    obtain ⟨v6, g7, e8, h⟩ := am_bd_elim h
    refine ev_callSi (v := v6) [.int (am_I g2 31 (am_I g2 29 7).toNatClampNeg)] [] dX5_readCompared_18 (tX5_joinOf e8) (by omega) mo_X5_joinOf kM_X5_153 ks_X5_joinOf (Nat.le_of_ble_eq_true rfl) ?_
    refine ev_istore_n (ls' := [(1, .int v6), (0, .ref 29)]) dX5_readCompared_21 rfl (by decide) rfl ?_
    refine ev_iload_n 0 dX5_readCompared_22 rfl ?_
    refine ev_bipush dX5_readCompared_23 rfl ?_
    refine ev_icmp_ge 30 dX5_readCompared_25 (by decide) (fun c9 => ?_) (fun c9 => ?_)
    · replace h := am_ifp c9 h
      refine ev_aload_n 1 dX5_readCompared_30 rfl ?_
      refine ev_dup dX5_readCompared_31 rfl ?_
      refine ev_gf (v := .int (am_I g7 29 7)) dX5_readCompared_32 (fun h9 => (h9.2.1 29 _ rfl).2) 7 (by decide) (by decide) kF_X5_45 (fun _ => rfl) ?_
      refine ev_iconst dX5_readCompared_35 rfl ?_
      refine ev_iadd dX5_readCompared_36 ?_
      refine ev_pfi dX5_readCompared_37 (fun h9 => (h9.2.1 29 _ rfl).2) 7 (by decide) (by decide) kF_X5_45 rfl rfl rfl (fun _ => rfl) ?_
      refine am_let_elim (P := fun g10 => am_Ev zc MX5_readCompared (dd + 1) 40 [(1, .int v6), (0, .ref 29)] [] g10 (am_ri r)) h fun g10 h => ?_
      refine ev_aload_n 1 dX5_readCompared_40 rfl ?_
      obtain ⟨v11, g12, e13, h⟩ := am_bd_elim h
      refine ev_callVi (v := v11) [] [] dX5_readCompared_41 (show am_Mt zc MX5_readSum dd [.ref 29] g10 (am_ri (v11, g12)) from hrec 5 0 g10 _ e13) (Nat.lt_succ_self _) mo_X5_readSum kM_X5_124 ki_X5_readSum kv_X5_readSum (fun h9 => (h9.2.1 29 _ rfl).2) (by decide) rfl (Nat.le_of_ble_eq_true rfl) ?_
      refine ev_istore_n (ls' := [(2, .int v11), (1, .int v6), (0, .ref 29)]) dX5_readCompared_44 rfl (by decide) rfl ?_
      refine ev_aload_n 2 dX5_readCompared_45 rfl ?_
      refine ev_iload_n 1 dX5_readCompared_46 rfl ?_
      refine ev_iconst dX5_readCompared_47 rfl ?_
      obtain ⟨u14, g15, e16, h⟩ := am_bd_elim h
      refine ev_callVv [.int v6, .int (0 : Int32)] [] dX5_readCompared_48 (tX5_addStep e16) (by omega) mo_X5_addStep kM_X5_127 ki_X5_addStep kv_X5_addStep (fun h9 => (h9.2.1 29 _ rfl).2) (by decide) rfl (Nat.le_of_ble_eq_true rfl) ?_
      refine ev_iload_n 0 dX5_readCompared_51 rfl ?_
      obtain ⟨c17, h⟩ := am_gd_elim h
      cases h
      exact ev_zret dX5_readCompared_52 rfl (am_zb_n c17)
    · replace h := am_ifn c9 h
      refine ev_iconst dX5_readCompared_28 rfl ?_
      cases h
      exact ev_zret dX5_readCompared_29 rfl rfl
  · replace h := am_ifp c4 h
    refine ev_iconst dX5_readCompared_7 rfl ?_
    cases h
    exact ev_zret dX5_readCompared_8 rfl rfl
set_option maxRecDepth 100000 in
set_option maxHeartbeats 4000000 in
theorem tfX5_readSum_L7 {rec : Nat → Int32 → am_G → Option (Int32 × am_G)} {dd : Nat} (hdd : 0 ≤ dd) (hrec : ∀ (i : Nat) (a : Int32) (g : am_G) (r : Int32 × am_G), rec i a g = some r → am_Mt zc (rdM i) dd (rdA i a) g (am_ri r))  : ∀ (n : Nat) (x4 : Int32) (x5 : Int32) (g6 : am_G) (r : Int32 × am_G), fX5_readSum_L7 rec n x4 x5 g6 = some r → am_Ev zc MX5_readSum (dd + 1) 7 [(0, .ref 29), (1, .int x4), (2, .int x5)] [] g6 (am_ri r) := by
  intro n
  induction n with
  | zero => intro x4 x5 g6 r h; exact nomatch (show (none : Option (Int32 × am_G)) = some r from h)
  | succ n ih =>
    intro x4 x5 g6 r h
    rw [fX5_readSum_L7] at h
    refine ev_iload_n 2 dX5_readSum_7 rfl ?_
    refine ev_sipush dX5_readSum_8 rfl ?_
    refine ev_icmp_ge 72 dX5_readSum_11 (by decide) (fun c7 => ?_) (fun c7 => ?_)
    · replace h := am_ifp c7 h
      refine ev_iload_n 1 dX5_readSum_72 rfl ?_
      obtain ⟨c8, h⟩ := am_gd_elim h
      cases h
      exact ev_zret dX5_readSum_73 rfl (am_zb_n c8)
    · replace h := am_ifn c7 h
      refine ev_iload_n 1 dX5_readSum_14 rfl ?_
      refine ev_if_eq 72 dX5_readSum_15 (by decide) (fun c9 => ?_) (fun c9 => ?_)
      · replace h := am_ifp c9 h
        refine ev_iload_n 1 dX5_readSum_72 rfl ?_
        obtain ⟨c10, h⟩ := am_gd_elim h
        cases h
        exact ev_zret dX5_readSum_73 rfl (am_zb_n c10)
      · replace h := am_ifn c9 h
        refine ev_aload_n 0 dX5_readSum_18 rfl ?_
        refine ev_gf (v := .ref 31) dX5_readSum_19 (fun h9 => (h9.2.1 29 _ rfl).2) 1 (by decide) (by decide) kF_X5_15 (fun h9 => congrArg va_rf (h9.2.2 29 1 31 rfl)) ?_
        refine ev_aload_n 0 dX5_readSum_22 rfl ?_
        refine ev_gf (v := .int (am_I g6 29 7)) dX5_readSum_23 (fun h9 => (h9.2.1 29 _ rfl).2) 7 (by decide) (by decide) kF_X5_45 (fun _ => rfl) ?_
        obtain ⟨c11, h⟩ := am_gd_elim h
        refine ev_iald dX5_readSum_26 (fun h9 => (h9.2.1 31 _ rfl).2) (am_in_vp c11) ?_
        obtain ⟨v12, g13, e14, h⟩ := am_bd_elim h
        refine ev_callSi (v := v12) [.int (am_I g6 31 (am_I g6 29 7).toNatClampNeg)] [] dX5_readSum_27 (tX5_joinOf e14) (by omega) mo_X5_joinOf kM_X5_153 ks_X5_joinOf (Nat.le_of_ble_eq_true rfl) ?_
        refine ev_istore_n (ls' := [(3, .int v12), (0, .ref 29), (1, .int x4), (2, .int x5)]) dX5_readSum_30 rfl (by decide) rfl ?_
        refine ev_iload_n 0 dX5_readSum_31 rfl ?_
        refine ev_bipush dX5_readSum_32 rfl ?_
        refine ev_bipush dX5_readSum_34 rfl ?_
        obtain ⟨v15, g16, e17, h⟩ := am_bd_elim h
        refine ev_callSNi (v := v15) [.int v12, .int (6 : Int32), .int (7 : Int32)] [] dX5_readSum_36 (tX11_within e17) (by omega) mo_X11_within kN_X5_72 ks_X11_within (Nat.le_of_ble_eq_true rfl) ?_
        refine ev_if_ne 45 dX5_readSum_39 (by decide) (fun c18 => ?_) (fun c18 => ?_)
        · replace h := am_ifn c18 h
          refine ev_aload_n 1 dX5_readSum_45 rfl ?_
          refine ev_dup dX5_readSum_46 rfl ?_
          refine ev_gf (v := .int (am_I g16 29 7)) dX5_readSum_47 (fun h9 => (h9.2.1 29 _ rfl).2) 7 (by decide) (by decide) kF_X5_45 (fun _ => rfl) ?_
          refine ev_iconst dX5_readSum_50 rfl ?_
          refine ev_iadd dX5_readSum_51 ?_
          refine ev_pfi dX5_readSum_52 (fun h9 => (h9.2.1 29 _ rfl).2) 7 (by decide) (by decide) kF_X5_45 rfl rfl rfl (fun _ => rfl) ?_
          refine am_let_elim (P := fun g19 => am_Ev zc MX5_readSum (dd + 1) 55 [(3, .int v12), (0, .ref 29), (1, .int x4), (2, .int x5)] [] g19 (am_ri r)) h fun g19 h => ?_
          refine ev_aload_n 1 dX5_readSum_55 rfl ?_
          obtain ⟨v20, g21, e22, h⟩ := am_bd_elim h
          refine ev_callVi (v := v20) [] [] dX5_readSum_56 (show am_Mt zc MX5_readTerm dd [.ref 29] g19 (am_ri (v20, g21)) from hrec 6 0 g19 _ e22) (Nat.lt_succ_self _) mo_X5_readTerm kM_X5_156 ki_X5_readTerm kv_X5_readTerm (fun h9 => (h9.2.1 29 _ rfl).2) (by decide) rfl (Nat.le_of_ble_eq_true rfl) ?_
          refine ev_istore_n (ls' := [(1, .int v20), (3, .int v12), (0, .ref 29), (2, .int x5)]) dX5_readSum_59 rfl (by decide) rfl ?_
          refine ev_aload_n 2 dX5_readSum_60 rfl ?_
          refine ev_iload_n 1 dX5_readSum_61 rfl ?_
          refine ev_iconst dX5_readSum_62 rfl ?_
          obtain ⟨u23, g24, e25, h⟩ := am_bd_elim h
          refine ev_callVv [.int v12, .int (0 : Int32)] [] dX5_readSum_63 (tX5_addStep e25) (by omega) mo_X5_addStep kM_X5_127 ki_X5_addStep kv_X5_addStep (fun h9 => (h9.2.1 29 _ rfl).2) (by decide) rfl (Nat.le_of_ble_eq_true rfl) ?_
          obtain ⟨x26, ex26, h⟩ := am_let_ex h
          refine ev_iinc (ls' := [(2, .int x26), (1, .int v20), (3, .int v12), (0, .ref 29)]) 3 dX5_readSum_66 rfl ex26 (by decide) rfl ?_
          refine ev_goto 7 dX5_readSum_69 (by decide) ?_
          refine ev_sub [3, 1, 0] rfl ?_
          exact ih _ _ _ _ h
        · replace h := am_ifp c18 h
          refine ev_goto 72 dX5_readSum_42 (by decide) ?_
          refine ev_iload_n 2 dX5_readSum_72 rfl ?_
          obtain ⟨c27, h⟩ := am_gd_elim h
          cases h
          exact ev_zret dX5_readSum_73 rfl (am_zb_n c27)
set_option maxRecDepth 100000 in
set_option maxHeartbeats 4000000 in
theorem eX5_readSum {rec : Nat → Int32 → am_G → Option (Int32 × am_G)} {dd : Nat} (hdd : 0 ≤ dd) (hrec : ∀ (i : Nat) (a : Int32) (g : am_G) (r : Int32 × am_G), rec i a g = some r → am_Mt zc (rdM i) dd (rdA i a) g (am_ri r)) (g : am_G) (r : Int32 × am_G) (h : bX5_readSum rec g = some r) : am_Ev zc MX5_readSum (dd + 1) 0 [(0, .ref 29)] [] g (am_ri r) := by
  unfold bX5_readSum at h
  refine ev_aload_n 0 dX5_readSum_0 rfl ?_
  obtain ⟨v1, g2, e3, h⟩ := am_bd_elim h
  refine ev_callVi (v := v1) [] [] dX5_readSum_1 (show am_Mt zc MX5_readTerm dd [.ref 29] g (am_ri (v1, g2)) from hrec 6 0 g _ e3) (Nat.lt_succ_self _) mo_X5_readTerm kM_X5_156 ki_X5_readTerm kv_X5_readTerm (fun h9 => (h9.2.1 29 _ rfl).2) (by decide) rfl (Nat.le_of_ble_eq_true rfl) ?_
  refine ev_istore_n (ls' := [(1, .int v1), (0, .ref 29)]) dX5_readSum_4 rfl (by decide) rfl ?_
  refine ev_iconst dX5_readSum_5 rfl ?_
  refine ev_istore_n (ls' := [(2, .int (0 : Int32)), (1, .int v1), (0, .ref 29)]) dX5_readSum_6 rfl (by decide) rfl ?_
  refine ev_sub [2, 1, 0] rfl ?_
  exact tfX5_readSum_L7 hdd hrec _ _ _ _ _ h
set_option maxRecDepth 100000 in
set_option maxHeartbeats 4000000 in
theorem tfX5_readTerm_L7 {rec : Nat → Int32 → am_G → Option (Int32 × am_G)} {dd : Nat} (hdd : 0 ≤ dd) (hrec : ∀ (i : Nat) (a : Int32) (g : am_G) (r : Int32 × am_G), rec i a g = some r → am_Mt zc (rdM i) dd (rdA i a) g (am_ri r))  : ∀ (n : Nat) (x4 : Int32) (x5 : Int32) (g6 : am_G) (r : Int32 × am_G), fX5_readTerm_L7 rec n x4 x5 g6 = some r → am_Ev zc MX5_readTerm (dd + 1) 7 [(0, .ref 29), (1, .int x4), (2, .int x5)] [] g6 (am_ri r) := by
  intro n
  induction n with
  | zero => intro x4 x5 g6 r h; exact nomatch (show (none : Option (Int32 × am_G)) = some r from h)
  | succ n ih =>
    intro x4 x5 g6 r h
    rw [fX5_readTerm_L7] at h
    refine ev_iload_n 2 dX5_readTerm_7 rfl ?_
    refine ev_sipush dX5_readTerm_8 rfl ?_
    refine ev_icmp_ge 72 dX5_readTerm_11 (by decide) (fun c7 => ?_) (fun c7 => ?_)
    · replace h := am_ifp c7 h
      refine ev_iload_n 1 dX5_readTerm_72 rfl ?_
      obtain ⟨c8, h⟩ := am_gd_elim h
      cases h
      exact ev_zret dX5_readTerm_73 rfl (am_zb_n c8)
    · replace h := am_ifn c7 h
      refine ev_iload_n 1 dX5_readTerm_14 rfl ?_
      refine ev_if_eq 72 dX5_readTerm_15 (by decide) (fun c9 => ?_) (fun c9 => ?_)
      · replace h := am_ifp c9 h
        refine ev_iload_n 1 dX5_readTerm_72 rfl ?_
        obtain ⟨c10, h⟩ := am_gd_elim h
        cases h
        exact ev_zret dX5_readTerm_73 rfl (am_zb_n c10)
      · replace h := am_ifn c9 h
        refine ev_aload_n 0 dX5_readTerm_18 rfl ?_
        refine ev_gf (v := .ref 31) dX5_readTerm_19 (fun h9 => (h9.2.1 29 _ rfl).2) 1 (by decide) (by decide) kF_X5_15 (fun h9 => congrArg va_rf (h9.2.2 29 1 31 rfl)) ?_
        refine ev_aload_n 0 dX5_readTerm_22 rfl ?_
        refine ev_gf (v := .int (am_I g6 29 7)) dX5_readTerm_23 (fun h9 => (h9.2.1 29 _ rfl).2) 7 (by decide) (by decide) kF_X5_45 (fun _ => rfl) ?_
        obtain ⟨c11, h⟩ := am_gd_elim h
        refine ev_iald dX5_readTerm_26 (fun h9 => (h9.2.1 31 _ rfl).2) (am_in_vp c11) ?_
        obtain ⟨v12, g13, e14, h⟩ := am_bd_elim h
        refine ev_callSi (v := v12) [.int (am_I g6 31 (am_I g6 29 7).toNatClampNeg)] [] dX5_readTerm_27 (tX5_joinOf e14) (by omega) mo_X5_joinOf kM_X5_153 ks_X5_joinOf (Nat.le_of_ble_eq_true rfl) ?_
        refine ev_istore_n (ls' := [(3, .int v12), (0, .ref 29), (1, .int x4), (2, .int x5)]) dX5_readTerm_30 rfl (by decide) rfl ?_
        refine ev_iload_n 0 dX5_readTerm_31 rfl ?_
        refine ev_bipush dX5_readTerm_32 rfl ?_
        refine ev_bipush dX5_readTerm_34 rfl ?_
        obtain ⟨v15, g16, e17, h⟩ := am_bd_elim h
        refine ev_callSNi (v := v15) [.int v12, .int (8 : Int32), .int (10 : Int32)] [] dX5_readTerm_36 (tX11_within e17) (by omega) mo_X11_within kN_X5_72 ks_X11_within (Nat.le_of_ble_eq_true rfl) ?_
        refine ev_if_ne 45 dX5_readTerm_39 (by decide) (fun c18 => ?_) (fun c18 => ?_)
        · replace h := am_ifn c18 h
          refine ev_aload_n 1 dX5_readTerm_45 rfl ?_
          refine ev_dup dX5_readTerm_46 rfl ?_
          refine ev_gf (v := .int (am_I g16 29 7)) dX5_readTerm_47 (fun h9 => (h9.2.1 29 _ rfl).2) 7 (by decide) (by decide) kF_X5_45 (fun _ => rfl) ?_
          refine ev_iconst dX5_readTerm_50 rfl ?_
          refine ev_iadd dX5_readTerm_51 ?_
          refine ev_pfi dX5_readTerm_52 (fun h9 => (h9.2.1 29 _ rfl).2) 7 (by decide) (by decide) kF_X5_45 rfl rfl rfl (fun _ => rfl) ?_
          refine am_let_elim (P := fun g19 => am_Ev zc MX5_readTerm (dd + 1) 55 [(3, .int v12), (0, .ref 29), (1, .int x4), (2, .int x5)] [] g19 (am_ri r)) h fun g19 h => ?_
          refine ev_aload_n 1 dX5_readTerm_55 rfl ?_
          obtain ⟨v20, g21, e22, h⟩ := am_bd_elim h
          refine ev_callVi (v := v20) [] [] dX5_readTerm_56 (show am_Mt zc MX5_readPart dd [.ref 29] g19 (am_ri (v20, g21)) from hrec 7 0 g19 _ e22) (Nat.lt_succ_self _) mo_X5_readPart kM_X5_159 ki_X5_readPart kv_X5_readPart (fun h9 => (h9.2.1 29 _ rfl).2) (by decide) rfl (Nat.le_of_ble_eq_true rfl) ?_
          refine ev_istore_n (ls' := [(1, .int v20), (3, .int v12), (0, .ref 29), (2, .int x5)]) dX5_readTerm_59 rfl (by decide) rfl ?_
          refine ev_aload_n 2 dX5_readTerm_60 rfl ?_
          refine ev_iload_n 1 dX5_readTerm_61 rfl ?_
          refine ev_iconst dX5_readTerm_62 rfl ?_
          obtain ⟨u23, g24, e25, h⟩ := am_bd_elim h
          refine ev_callVv [.int v12, .int (0 : Int32)] [] dX5_readTerm_63 (tX5_addStep e25) (by omega) mo_X5_addStep kM_X5_127 ki_X5_addStep kv_X5_addStep (fun h9 => (h9.2.1 29 _ rfl).2) (by decide) rfl (Nat.le_of_ble_eq_true rfl) ?_
          obtain ⟨x26, ex26, h⟩ := am_let_ex h
          refine ev_iinc (ls' := [(2, .int x26), (1, .int v20), (3, .int v12), (0, .ref 29)]) 3 dX5_readTerm_66 rfl ex26 (by decide) rfl ?_
          refine ev_goto 7 dX5_readTerm_69 (by decide) ?_
          refine ev_sub [3, 1, 0] rfl ?_
          exact ih _ _ _ _ h
        · replace h := am_ifp c18 h
          refine ev_goto 72 dX5_readTerm_42 (by decide) ?_
          refine ev_iload_n 2 dX5_readTerm_72 rfl ?_
          obtain ⟨c27, h⟩ := am_gd_elim h
          cases h
          exact ev_zret dX5_readTerm_73 rfl (am_zb_n c27)
set_option maxRecDepth 100000 in
set_option maxHeartbeats 4000000 in
theorem eX5_readTerm {rec : Nat → Int32 → am_G → Option (Int32 × am_G)} {dd : Nat} (hdd : 0 ≤ dd) (hrec : ∀ (i : Nat) (a : Int32) (g : am_G) (r : Int32 × am_G), rec i a g = some r → am_Mt zc (rdM i) dd (rdA i a) g (am_ri r)) (g : am_G) (r : Int32 × am_G) (h : bX5_readTerm rec g = some r) : am_Ev zc MX5_readTerm (dd + 1) 0 [(0, .ref 29)] [] g (am_ri r) := by
  unfold bX5_readTerm at h
  refine ev_aload_n 0 dX5_readTerm_0 rfl ?_
  obtain ⟨v1, g2, e3, h⟩ := am_bd_elim h
  refine ev_callVi (v := v1) [] [] dX5_readTerm_1 (show am_Mt zc MX5_readPart dd [.ref 29] g (am_ri (v1, g2)) from hrec 7 0 g _ e3) (Nat.lt_succ_self _) mo_X5_readPart kM_X5_159 ki_X5_readPart kv_X5_readPart (fun h9 => (h9.2.1 29 _ rfl).2) (by decide) rfl (Nat.le_of_ble_eq_true rfl) ?_
  refine ev_istore_n (ls' := [(1, .int v1), (0, .ref 29)]) dX5_readTerm_4 rfl (by decide) rfl ?_
  refine ev_iconst dX5_readTerm_5 rfl ?_
  refine ev_istore_n (ls' := [(2, .int (0 : Int32)), (1, .int v1), (0, .ref 29)]) dX5_readTerm_6 rfl (by decide) rfl ?_
  refine ev_sub [2, 1, 0] rfl ?_
  exact tfX5_readTerm_L7 hdd hrec _ _ _ _ _ h
set_option maxRecDepth 100000 in
set_option maxHeartbeats 4000000 in
theorem eX5_readPart {rec : Nat → Int32 → am_G → Option (Int32 × am_G)} {dd : Nat} (hdd : 0 ≤ dd) (hrec : ∀ (i : Nat) (a : Int32) (g : am_G) (r : Int32 × am_G), rec i a g = some r → am_Mt zc (rdM i) dd (rdA i a) g (am_ri r)) (g : am_G) (r : Int32 × am_G) (h : bX5_readPart rec g = some r) : am_Ev zc MX5_readPart (dd + 1) 0 [(0, .ref 29)] [] g (am_ri r) := by
  unfold bX5_readPart at h
  refine ev_aload_n 0 dX5_readPart_0 rfl ?_
  refine ev_gf (v := .ref 31) dX5_readPart_1 (fun h9 => (h9.2.1 29 _ rfl).2) 1 (by decide) (by decide) kF_X5_15 (fun h9 => congrArg va_rf (h9.2.2 29 1 31 rfl)) ?_
  refine ev_aload_n 0 dX5_readPart_4 rfl ?_
  refine ev_gf (v := .int (am_I g 29 7)) dX5_readPart_5 (fun h9 => (h9.2.1 29 _ rfl).2) 7 (by decide) (by decide) kF_X5_45 (fun _ => rfl) ?_
  obtain ⟨c1, h⟩ := am_gd_elim h
  refine ev_iald dX5_readPart_8 (fun h9 => (h9.2.1 31 _ rfl).2) (am_in_vp c1) ?_
  refine am_let_elim (P := fun x2 => am_Ev zc MX5_readPart (dd + 1) 9 [(0, .ref 29)] [.int x2] g (am_ri r)) h fun x2 h => ?_
  refine ev_istore_n (ls' := [(1, .int x2), (0, .ref 29)]) dX5_readPart_9 rfl (by decide) rfl ?_
  refine ev_iload_n 0 dX5_readPart_10 rfl ?_
  refine ev_sipush dX5_readPart_11 rfl ?_
  refine ev_icmp_ne 24 dX5_readPart_14 (by decide) (fun c3 => ?_) (fun c3 => ?_)
  · replace h := am_ifn c3 h
    refine ev_aload_n 1 dX5_readPart_24 rfl ?_
    refine ev_gf (v := .int (am_I g 29 8)) dX5_readPart_25 (fun h9 => (h9.2.1 29 _ rfl).2) 8 (by decide) (by decide) kF_X5_51 (fun _ => rfl) ?_
    refine ev_bipush dX5_readPart_28 rfl ?_
    refine ev_icmp_lt 35 dX5_readPart_30 (by decide) (fun c4 => ?_) (fun c4 => ?_)
    · replace h := am_ifp c4 h
      refine ev_aload_n 1 dX5_readPart_35 rfl ?_
      refine ev_dup dX5_readPart_36 rfl ?_
      refine ev_gf (v := .int (am_I g 29 8)) dX5_readPart_37 (fun h9 => (h9.2.1 29 _ rfl).2) 8 (by decide) (by decide) kF_X5_51 (fun _ => rfl) ?_
      refine ev_iconst dX5_readPart_40 rfl ?_
      refine ev_iadd dX5_readPart_41 ?_
      refine ev_pfi dX5_readPart_42 (fun h9 => (h9.2.1 29 _ rfl).2) 8 (by decide) (by decide) kF_X5_51 rfl rfl rfl (fun _ => rfl) ?_
      refine am_let_elim (P := fun g5 => am_Ev zc MX5_readPart (dd + 1) 45 [(1, .int x2), (0, .ref 29)] [] g5 (am_ri r)) h fun g5 h => ?_
      refine ev_iload_n 0 dX5_readPart_45 rfl ?_
      refine ev_sipush dX5_readPart_46 rfl ?_
      refine ev_sipush dX5_readPart_49 rfl ?_
      obtain ⟨v6, g7, e8, h⟩ := am_bd_elim h
      refine ev_callSNi (v := v6) [.int x2, .int (1000 : Int32), .int (2000 : Int32)] [] dX5_readPart_52 (tX11_within e8) (by omega) mo_X11_within kN_X5_72 ks_X11_within (Nat.le_of_ble_eq_true rfl) ?_
      refine ev_if_eq 71 dX5_readPart_55 (by decide) (fun c9 => ?_) (fun c9 => ?_)
      · replace h := am_ifp c9 h
        refine ev_aload_n 1 dX5_readPart_71 rfl ?_
        refine ev_gf (v := .int (am_I g7 29 10)) dX5_readPart_72 (fun h9 => (h9.2.1 29 _ rfl).2) 10 (by decide) (by decide) kF_X5_41 (fun _ => rfl) ?_
        refine am_jn_elim (fun q9 => ∀  (g11 : am_G) (r : Int32 × am_G), q9  g11 = some r → am_Ev zc MX5_readPart (dd + 1) 112 [(0, .ref 29), (1, .int x2)] [] g11 (am_ri r)) h ?_ (fun j12 hj12 h => ?_)
        · intro  g11 r h
          try dsimp only at h
          refine ev_aload_n 0 dX5_readPart_112 rfl ?_
          refine ev_gf (v := .int (am_I g11 29 10)) dX5_readPart_113 (fun h9 => (h9.2.1 29 _ rfl).2) 10 (by decide) (by decide) kF_X5_41 (fun _ => rfl) ?_
          refine ev_if_ne 199 dX5_readPart_116 (by decide) (fun c13 => ?_) (fun c13 => ?_)
          · replace h := am_ifn c13 h
            refine ev_iconst dX5_readPart_199 rfl ?_
            cases h
            exact ev_zret dX5_readPart_200 rfl rfl
          · replace h := am_ifp c13 h
            refine ev_iload_n 1 dX5_readPart_119 rfl ?_
            refine ev_bipush dX5_readPart_120 rfl ?_
            refine am_jn_elim (fun q9 => ∀  (g15 : am_G) (r : Int32 × am_G), q9  g15 = some r → am_Ev zc MX5_readPart (dd + 1) 131 [(0, .ref 29), (1, .int x2)] [] g15 (am_ri r)) h ?_ (fun j16 hj16 h => ?_)
            · intro  g15 r h
              try dsimp only at h
              refine ev_aload_n 0 dX5_readPart_131 rfl ?_
              refine ev_dup dX5_readPart_132 rfl ?_
              refine ev_gf (v := .int (am_I g15 29 7)) dX5_readPart_133 (fun h9 => (h9.2.1 29 _ rfl).2) 7 (by decide) (by decide) kF_X5_45 (fun _ => rfl) ?_
              refine ev_iconst dX5_readPart_136 rfl ?_
              refine ev_iadd dX5_readPart_137 ?_
              refine ev_pfi dX5_readPart_138 (fun h9 => (h9.2.1 29 _ rfl).2) 7 (by decide) (by decide) kF_X5_45 rfl rfl rfl (fun _ => rfl) ?_
              refine am_let_elim (P := fun g17 => am_Ev zc MX5_readPart (dd + 1) 141 [(0, .ref 29), (1, .int x2)] [] g17 (am_ri r)) h fun g17 h => ?_
              refine ev_aload_n 0 dX5_readPart_141 rfl ?_
              refine ev_gf (v := .ref 31) dX5_readPart_142 (fun h9 => (h9.2.1 29 _ rfl).2) 1 (by decide) (by decide) kF_X5_15 (fun h9 => congrArg va_rf (h9.2.2 29 1 31 rfl)) ?_
              refine ev_aload_n 0 dX5_readPart_145 rfl ?_
              refine ev_gf (v := .int (am_I g17 29 7)) dX5_readPart_146 (fun h9 => (h9.2.1 29 _ rfl).2) 7 (by decide) (by decide) kF_X5_45 (fun _ => rfl) ?_
              obtain ⟨c18, h⟩ := am_gd_elim h
              refine ev_iald dX5_readPart_149 (fun h9 => (h9.2.1 31 _ rfl).2) (am_in_vp c18) ?_
              refine ev_sipush dX5_readPart_150 rfl ?_
              refine ev_sipush dX5_readPart_153 rfl ?_
              obtain ⟨v19, g20, e21, h⟩ := am_bd_elim h
              refine ev_callSNi (v := v19) [.int (am_I g17 31 (am_I g17 29 7).toNatClampNeg), .int (1000 : Int32), .int (1005 : Int32)] [] dX5_readPart_156 (tX11_within e21) (by omega) mo_X11_within kN_X5_72 ks_X11_within (Nat.le_of_ble_eq_true rfl) ?_
              refine ev_if_ne 164 dX5_readPart_159 (by decide) (fun c22 => ?_) (fun c22 => ?_)
              · replace h := am_ifn c22 h
                refine ev_aload_n 0 dX5_readPart_164 rfl ?_
                refine ev_iconst dX5_readPart_165 rfl ?_
                refine ev_iload_n 1 dX5_readPart_166 rfl ?_
                refine ev_bipush dX5_readPart_167 rfl ?_
                refine am_jn_elim (fun q9 => ∀ (x24 : Int32) (g25 : am_G) (r : Int32 × am_G), q9 x24 g25 = some r → am_Ev zc MX5_readPart (dd + 1) 179 [(0, .ref 29)] [.int x24, .int (2 : Int32), .ref 29] g25 (am_ri r)) h ?_ (fun j26 hj26 h => ?_)
                · intro x24 g25 r h
                  try dsimp only at h
                  refine ev_aload_n 0 dX5_readPart_179 rfl ?_
                  refine ev_gf (v := .ref 31) dX5_readPart_180 (fun h9 => (h9.2.1 29 _ rfl).2) 1 (by decide) (by decide) kF_X5_15 (fun h9 => congrArg va_rf (h9.2.2 29 1 31 rfl)) ?_
                  refine ev_aload_n 0 dX5_readPart_183 rfl ?_
                  refine ev_gf (v := .int (am_I g25 29 7)) dX5_readPart_184 (fun h9 => (h9.2.1 29 _ rfl).2) 7 (by decide) (by decide) kF_X5_45 (fun _ => rfl) ?_
                  obtain ⟨c27, h⟩ := am_gd_elim h
                  refine ev_iald dX5_readPart_187 (fun h9 => (h9.2.1 31 _ rfl).2) (am_in_vp c27) ?_
                  refine ev_iadd dX5_readPart_188 ?_
                  refine ev_sipush dX5_readPart_189 rfl ?_
                  refine ev_isub dX5_readPart_192 ?_
                  obtain ⟨u28, g29, e30, h⟩ := am_bd_elim h
                  refine ev_callVv [.int (2 : Int32), .int ((x24 + (am_I g25 31 (am_I g25 29 7).toNatClampNeg)) - (1000 : Int32))] [] dX5_readPart_193 (tX5_addStep e30) (by omega) mo_X5_addStep kM_X5_127 ki_X5_addStep kv_X5_addStep (fun h9 => (h9.2.1 29 _ rfl).2) (by decide) rfl (Nat.le_of_ble_eq_true rfl) ?_
                  refine ev_goto 201 dX5_readPart_196 (by decide) ?_
                  refine ev_aload_n 0 dX5_readPart_201 rfl ?_
                  refine ev_dup dX5_readPart_202 rfl ?_
                  refine ev_gf (v := .int (am_I g29 29 7)) dX5_readPart_203 (fun h9 => (h9.2.1 29 _ rfl).2) 7 (by decide) (by decide) kF_X5_45 (fun _ => rfl) ?_
                  refine ev_iconst dX5_readPart_206 rfl ?_
                  refine ev_iadd dX5_readPart_207 ?_
                  refine ev_pfi dX5_readPart_208 (fun h9 => (h9.2.1 29 _ rfl).2) 7 (by decide) (by decide) kF_X5_45 rfl rfl rfl (fun _ => rfl) ?_
                  refine am_let_elim (P := fun g31 => am_Ev zc MX5_readPart (dd + 1) 211 [(0, .ref 29)] [] g31 (am_ri r)) h fun g31 h => ?_
                  refine ev_iconst dX5_readPart_211 rfl ?_
                  cases h
                  exact ev_zret dX5_readPart_212 rfl rfl
                · refine ev_icmp_ne 177 dX5_readPart_169 (by decide) (fun c23 => ?_) (fun c23 => ?_)
                  · replace h := am_ifn c23 h
                    refine ev_bipush dX5_readPart_177 rfl ?_
                    refine ev_sub [0] rfl ?_
                    exact hj26 _ _ _ h
                  · replace h := am_ifp c23 h
                    refine ev_bipush dX5_readPart_172 rfl ?_
                    refine ev_goto 179 dX5_readPart_174 (by decide) ?_
                    refine ev_sub [0] rfl ?_
                    exact hj26 _ _ _ h
              · replace h := am_ifp c22 h
                refine ev_iconst dX5_readPart_162 rfl ?_
                cases h
                exact ev_zret dX5_readPart_163 rfl rfl
            · refine ev_icmp_eq 131 dX5_readPart_122 (by decide) (fun c14 => ?_) (fun c14 => ?_)
              · replace h := am_ifp c14 h
                refine ev_sub [0, 1] rfl ?_
                exact hj16  _ _ h
              · replace h := am_ifn c14 h
                refine ev_iload_n 1 dX5_readPart_125 rfl ?_
                refine ev_bipush dX5_readPart_126 rfl ?_
                refine ev_icmp_ne 199 dX5_readPart_128 (by decide) (fun c32 => ?_) (fun c32 => ?_)
                · replace h := am_ifn c32 h
                  refine ev_iconst dX5_readPart_199 rfl ?_
                  cases h
                  exact ev_zret dX5_readPart_200 rfl rfl
                · replace h := am_ifp c32 h
                  refine ev_sub [0, 1] rfl ?_
                  exact hj16  _ _ h
        · refine ev_if_eq 92 dX5_readPart_75 (by decide) (fun c10 => ?_) (fun c10 => ?_)
          · replace h := am_ifp c10 h
            refine ev_iload_n 0 dX5_readPart_92 rfl ?_
            refine ev_bipush dX5_readPart_93 rfl ?_
            refine ev_bipush dX5_readPart_95 rfl ?_
            obtain ⟨v33, g34, e35, h⟩ := am_bd_elim h
            refine ev_callSNi (v := v33) [.int x2, .int (22 : Int32), .int (26 : Int32)] [] dX5_readPart_97 (tX11_within e35) (by omega) mo_X11_within kN_X5_72 ks_X11_within (Nat.le_of_ble_eq_true rfl) ?_
            refine ev_if_eq 112 dX5_readPart_100 (by decide) (fun c36 => ?_) (fun c36 => ?_)
            · replace h := am_ifp c36 h
              refine ev_sub [1, 0] rfl ?_
              exact hj12  _ _ h
            · replace h := am_ifn c36 h
              refine ev_aload_n 1 dX5_readPart_103 rfl ?_
              refine ev_iconst dX5_readPart_104 rfl ?_
              refine ev_iload_n 0 dX5_readPart_105 rfl ?_
              obtain ⟨u37, g38, e39, h⟩ := am_bd_elim h
              refine ev_callVv [.int (2 : Int32), .int x2] [] dX5_readPart_106 (tX5_addStep e39) (by omega) mo_X5_addStep kM_X5_127 ki_X5_addStep kv_X5_addStep (fun h9 => (h9.2.1 29 _ rfl).2) (by decide) rfl (Nat.le_of_ble_eq_true rfl) ?_
              refine ev_goto 201 dX5_readPart_109 (by decide) ?_
              refine ev_aload_n 1 dX5_readPart_201 rfl ?_
              refine ev_dup dX5_readPart_202 rfl ?_
              refine ev_gf (v := .int (am_I g38 29 7)) dX5_readPart_203 (fun h9 => (h9.2.1 29 _ rfl).2) 7 (by decide) (by decide) kF_X5_45 (fun _ => rfl) ?_
              refine ev_iconst dX5_readPart_206 rfl ?_
              refine ev_iadd dX5_readPart_207 ?_
              refine ev_pfi dX5_readPart_208 (fun h9 => (h9.2.1 29 _ rfl).2) 7 (by decide) (by decide) kF_X5_45 rfl rfl rfl (fun _ => rfl) ?_
              refine am_let_elim (P := fun g40 => am_Ev zc MX5_readPart (dd + 1) 211 [(1, .int x2), (0, .ref 29)] [] g40 (am_ri r)) h fun g40 h => ?_
              refine ev_iconst dX5_readPart_211 rfl ?_
              cases h
              exact ev_zret dX5_readPart_212 rfl rfl
          · replace h := am_ifn c10 h
            refine ev_iload_n 0 dX5_readPart_78 rfl ?_
            refine ev_bipush dX5_readPart_79 rfl ?_
            refine ev_bipush dX5_readPart_81 rfl ?_
            obtain ⟨v41, g42, e43, h⟩ := am_bd_elim h
            refine ev_callSNi (v := v41) [.int x2, .int (13 : Int32), .int (22 : Int32)] [] dX5_readPart_83 (tX11_within e43) (by omega) mo_X11_within kN_X5_72 ks_X11_within (Nat.le_of_ble_eq_true rfl) ?_
            refine ev_if_eq 112 dX5_readPart_86 (by decide) (fun c44 => ?_) (fun c44 => ?_)
            · replace h := am_ifp c44 h
              refine ev_sub [1, 0] rfl ?_
              exact hj12  _ _ h
            · replace h := am_ifn c44 h
              refine ev_goto 103 dX5_readPart_89 (by decide) ?_
              refine ev_aload_n 1 dX5_readPart_103 rfl ?_
              refine ev_iconst dX5_readPart_104 rfl ?_
              refine ev_iload_n 0 dX5_readPart_105 rfl ?_
              obtain ⟨u45, g46, e47, h⟩ := am_bd_elim h
              refine ev_callVv [.int (2 : Int32), .int x2] [] dX5_readPart_106 (tX5_addStep e47) (by omega) mo_X5_addStep kM_X5_127 ki_X5_addStep kv_X5_addStep (fun h9 => (h9.2.1 29 _ rfl).2) (by decide) rfl (Nat.le_of_ble_eq_true rfl) ?_
              refine ev_goto 201 dX5_readPart_109 (by decide) ?_
              refine ev_aload_n 1 dX5_readPart_201 rfl ?_
              refine ev_dup dX5_readPart_202 rfl ?_
              refine ev_gf (v := .int (am_I g46 29 7)) dX5_readPart_203 (fun h9 => (h9.2.1 29 _ rfl).2) 7 (by decide) (by decide) kF_X5_45 (fun _ => rfl) ?_
              refine ev_iconst dX5_readPart_206 rfl ?_
              refine ev_iadd dX5_readPart_207 ?_
              refine ev_pfi dX5_readPart_208 (fun h9 => (h9.2.1 29 _ rfl).2) 7 (by decide) (by decide) kF_X5_45 rfl rfl rfl (fun _ => rfl) ?_
              refine am_let_elim (P := fun g48 => am_Ev zc MX5_readPart (dd + 1) 211 [(1, .int x2), (0, .ref 29)] [] g48 (am_ri r)) h fun g48 h => ?_
              refine ev_iconst dX5_readPart_211 rfl ?_
              cases h
              exact ev_zret dX5_readPart_212 rfl rfl
      · replace h := am_ifn c9 h
        refine ev_aload_n 1 dX5_readPart_58 rfl ?_
        refine ev_iconst dX5_readPart_59 rfl ?_
        refine ev_iload_n 0 dX5_readPart_60 rfl ?_
        refine ev_sipush dX5_readPart_61 rfl ?_
        refine ev_isub dX5_readPart_64 ?_
        obtain ⟨u49, g50, e51, h⟩ := am_bd_elim h
        refine ev_callVv [.int (1 : Int32), .int (x2 - (1000 : Int32))] [] dX5_readPart_65 (tX5_addStep e51) (by omega) mo_X5_addStep kM_X5_127 ki_X5_addStep kv_X5_addStep (fun h9 => (h9.2.1 29 _ rfl).2) (by decide) rfl (Nat.le_of_ble_eq_true rfl) ?_
        refine ev_goto 201 dX5_readPart_68 (by decide) ?_
        refine ev_aload_n 1 dX5_readPart_201 rfl ?_
        refine ev_dup dX5_readPart_202 rfl ?_
        refine ev_gf (v := .int (am_I g50 29 7)) dX5_readPart_203 (fun h9 => (h9.2.1 29 _ rfl).2) 7 (by decide) (by decide) kF_X5_45 (fun _ => rfl) ?_
        refine ev_iconst dX5_readPart_206 rfl ?_
        refine ev_iadd dX5_readPart_207 ?_
        refine ev_pfi dX5_readPart_208 (fun h9 => (h9.2.1 29 _ rfl).2) 7 (by decide) (by decide) kF_X5_45 rfl rfl rfl (fun _ => rfl) ?_
        refine am_let_elim (P := fun g52 => am_Ev zc MX5_readPart (dd + 1) 211 [(1, .int x2), (0, .ref 29)] [] g52 (am_ri r)) h fun g52 h => ?_
        refine ev_iconst dX5_readPart_211 rfl ?_
        cases h
        exact ev_zret dX5_readPart_212 rfl rfl
    · replace h := am_ifn c4 h
      refine ev_iconst dX5_readPart_33 rfl ?_
      cases h
      exact ev_zret dX5_readPart_34 rfl rfl
  · replace h := am_ifp c3 h
    refine ev_aload_n 1 dX5_readPart_17 rfl ?_
    refine ev_bipush dX5_readPart_18 rfl ?_
    obtain ⟨v53, g54, e55, h⟩ := am_bd_elim h
    refine ev_callVi (v := v53) [.int (93 : Int32)] [] dX5_readPart_20 (show am_Mt zc MX5_readBracket dd [.ref 29, .int (93 : Int32)] g (am_ri (v53, g54)) from hrec 3 (93 : Int32) g _ e55) (Nat.lt_succ_self _) mo_X5_readBracket kM_X5_146 ki_X5_readBracket kv_X5_readBracket (fun h9 => (h9.2.1 29 _ rfl).2) (by decide) rfl (Nat.le_of_ble_eq_true rfl) ?_
    obtain ⟨c56, h⟩ := am_gd_elim h
    cases h
    exact ev_zret dX5_readPart_23 rfl (am_zb_n c56)
theorem tbX5_readTest {rec : Nat → Int32 → am_G → Option (Int32 × am_G)} {dd : Nat} (hdd : 0 ≤ dd) (hrec : ∀ (i : Nat) (a : Int32) (g : am_G) (r : Int32 × am_G), rec i a g = some r → am_Mt zc (rdM i) dd (rdA i a) g (am_ri r)) (g : am_G) (r : Int32 × am_G) (h : bX5_readTest rec g = some r) : am_Mt zc MX5_readTest (dd + 1) [.ref 29] g (am_ri r) := am_Mt.of rfl (Nat.le_of_ble_eq_true rfl) (eX5_readTest hdd hrec _ _ h)
theorem tbX5_readBoth {rec : Nat → Int32 → am_G → Option (Int32 × am_G)} {dd : Nat} (hdd : 0 ≤ dd) (hrec : ∀ (i : Nat) (a : Int32) (g : am_G) (r : Int32 × am_G), rec i a g = some r → am_Mt zc (rdM i) dd (rdA i a) g (am_ri r)) (g : am_G) (r : Int32 × am_G) (h : bX5_readBoth rec g = some r) : am_Mt zc MX5_readBoth (dd + 1) [.ref 29] g (am_ri r) := am_Mt.of rfl (Nat.le_of_ble_eq_true rfl) (eX5_readBoth hdd hrec _ _ h)
theorem tbX5_readPlain {rec : Nat → Int32 → am_G → Option (Int32 × am_G)} {dd : Nat} (hdd : 0 ≤ dd) (hrec : ∀ (i : Nat) (a : Int32) (g : am_G) (r : Int32 × am_G), rec i a g = some r → am_Mt zc (rdM i) dd (rdA i a) g (am_ri r)) (g : am_G) (r : Int32 × am_G) (h : bX5_readPlain rec g = some r) : am_Mt zc MX5_readPlain (dd + 1) [.ref 29] g (am_ri r) := am_Mt.of rfl (Nat.le_of_ble_eq_true rfl) (eX5_readPlain hdd hrec _ _ h)
theorem tbX5_readBracket {rec : Nat → Int32 → am_G → Option (Int32 × am_G)} {dd : Nat} (hdd : 0 ≤ dd) (hrec : ∀ (i : Nat) (a : Int32) (g : am_G) (r : Int32 × am_G), rec i a g = some r → am_Mt zc (rdM i) dd (rdA i a) g (am_ri r)) (a : Int32) (g : am_G) (r : Int32 × am_G) (h : bX5_readBracket rec a g = some r) : am_Mt zc MX5_readBracket (dd + 1) [.ref 29, .int a] g (am_ri r) := am_Mt.of rfl (Nat.le_of_ble_eq_true rfl) (eX5_readBracket hdd hrec _ _ _ h)
theorem tbX5_readCompared {rec : Nat → Int32 → am_G → Option (Int32 × am_G)} {dd : Nat} (hdd : 0 ≤ dd) (hrec : ∀ (i : Nat) (a : Int32) (g : am_G) (r : Int32 × am_G), rec i a g = some r → am_Mt zc (rdM i) dd (rdA i a) g (am_ri r)) (g : am_G) (r : Int32 × am_G) (h : bX5_readCompared rec g = some r) : am_Mt zc MX5_readCompared (dd + 1) [.ref 29] g (am_ri r) := am_Mt.of rfl (Nat.le_of_ble_eq_true rfl) (eX5_readCompared hdd hrec _ _ h)
theorem tbX5_readSum {rec : Nat → Int32 → am_G → Option (Int32 × am_G)} {dd : Nat} (hdd : 0 ≤ dd) (hrec : ∀ (i : Nat) (a : Int32) (g : am_G) (r : Int32 × am_G), rec i a g = some r → am_Mt zc (rdM i) dd (rdA i a) g (am_ri r)) (g : am_G) (r : Int32 × am_G) (h : bX5_readSum rec g = some r) : am_Mt zc MX5_readSum (dd + 1) [.ref 29] g (am_ri r) := am_Mt.of rfl (Nat.le_of_ble_eq_true rfl) (eX5_readSum hdd hrec _ _ h)
theorem tbX5_readTerm {rec : Nat → Int32 → am_G → Option (Int32 × am_G)} {dd : Nat} (hdd : 0 ≤ dd) (hrec : ∀ (i : Nat) (a : Int32) (g : am_G) (r : Int32 × am_G), rec i a g = some r → am_Mt zc (rdM i) dd (rdA i a) g (am_ri r)) (g : am_G) (r : Int32 × am_G) (h : bX5_readTerm rec g = some r) : am_Mt zc MX5_readTerm (dd + 1) [.ref 29] g (am_ri r) := am_Mt.of rfl (Nat.le_of_ble_eq_true rfl) (eX5_readTerm hdd hrec _ _ h)
theorem tbX5_readPart {rec : Nat → Int32 → am_G → Option (Int32 × am_G)} {dd : Nat} (hdd : 0 ≤ dd) (hrec : ∀ (i : Nat) (a : Int32) (g : am_G) (r : Int32 × am_G), rec i a g = some r → am_Mt zc (rdM i) dd (rdA i a) g (am_ri r)) (g : am_G) (r : Int32 × am_G) (h : bX5_readPart rec g = some r) : am_Mt zc MX5_readPart (dd + 1) [.ref 29] g (am_ri r) := am_Mt.of rfl (Nat.le_of_ble_eq_true rfl) (eX5_readPart hdd hrec _ _ h)
def rdB (rec : Nat → Int32 → am_G → Option (Int32 × am_G)) (i : Nat) (a : Int32) (g : am_G) : Option (Int32 × am_G) := match i with
  | 0 => bX5_readTest rec g
  | 1 => bX5_readBoth rec g
  | 2 => bX5_readPlain rec g
  | 3 => bX5_readBracket rec a g
  | 4 => bX5_readCompared rec g
  | 5 => bX5_readSum rec g
  | 6 => bX5_readTerm rec g
  | _ => bX5_readPart rec g
theorem rdB_t {rec : Nat → Int32 → am_G → Option (Int32 × am_G)} {dd : Nat} (hdd : 0 ≤ dd) (hrec : ∀ (i : Nat) (a : Int32) (g : am_G) (r : Int32 × am_G), rec i a g = some r → am_Mt zc (rdM i) dd (rdA i a) g (am_ri r)) (i : Nat) (a : Int32) (g : am_G) (r : Int32 × am_G) (h : rdB rec i a g = some r) : am_Mt zc (rdM i) (dd + 1) (rdA i a) g (am_ri r) := by
  match i, h with
  | 0, h => exact tbX5_readTest hdd hrec _ _ h
  | 1, h => exact tbX5_readBoth hdd hrec _ _ h
  | 2, h => exact tbX5_readPlain hdd hrec _ _ h
  | 3, h => exact tbX5_readBracket hdd hrec _ _ _ h
  | 4, h => exact tbX5_readCompared hdd hrec _ _ h
  | 5, h => exact tbX5_readSum hdd hrec _ _ h
  | 6, h => exact tbX5_readTerm hdd hrec _ _ h
  | k + 7, h => exact tbX5_readPart hdd hrec _ _ h
def fX5_rd : Nat → Nat → Int32 → am_G → Option (Int32 × am_G)
  | 0, _, _, _ => none
  | n + 1, i, a, g => rdB (fX5_rd n) i a g
theorem tX5_rd : ∀ (n i : Nat) (a : Int32) (g : am_G) (r : Int32 × am_G), fX5_rd n i a g = some r → am_Mt zc (rdM i) (0 + n) (rdA i a) g (am_ri r) := by
  intro n
  induction n with
  | zero => intro i a g r h; exact nomatch (show (none : Option (Int32 × am_G)) = some r from h)
  | succ n ih =>
    intro i a g r h
    rw [fX5_rd] at h
    exact rdB_t (rec := fX5_rd n) (dd := 0 + n) (Nat.le_add_right _ _) ih i a g r h
def fX5_readTest (g : am_G) : Option (Int32 × am_G) := fX5_rd 64 0 0 g
theorem tX5_readTest {g : am_G} {r : Int32 × am_G} (h : fX5_readTest g = some r) : am_Mt zc MX5_readTest 64 [.ref 29] g (am_ri r) := tX5_rd 64 0 0 _ _ h
def fX5_readBoth (g : am_G) : Option (Int32 × am_G) := fX5_rd 64 1 0 g
theorem tX5_readBoth {g : am_G} {r : Int32 × am_G} (h : fX5_readBoth g = some r) : am_Mt zc MX5_readBoth 64 [.ref 29] g (am_ri r) := tX5_rd 64 1 0 _ _ h
def fX5_readPlain (g : am_G) : Option (Int32 × am_G) := fX5_rd 64 2 0 g
theorem tX5_readPlain {g : am_G} {r : Int32 × am_G} (h : fX5_readPlain g = some r) : am_Mt zc MX5_readPlain 64 [.ref 29] g (am_ri r) := tX5_rd 64 2 0 _ _ h
def fX5_readBracket (a1 : Int32) (g : am_G) : Option (Int32 × am_G) := fX5_rd 64 3 a1 g
theorem tX5_readBracket {a1 : Int32} {g : am_G} {r : Int32 × am_G} (h : fX5_readBracket a1 g = some r) : am_Mt zc MX5_readBracket 64 [.ref 29, .int a1] g (am_ri r) := tX5_rd 64 3 a1 _ _ h
def fX5_readCompared (g : am_G) : Option (Int32 × am_G) := fX5_rd 64 4 0 g
theorem tX5_readCompared {g : am_G} {r : Int32 × am_G} (h : fX5_readCompared g = some r) : am_Mt zc MX5_readCompared 64 [.ref 29] g (am_ri r) := tX5_rd 64 4 0 _ _ h
def fX5_readSum (g : am_G) : Option (Int32 × am_G) := fX5_rd 64 5 0 g
theorem tX5_readSum {g : am_G} {r : Int32 × am_G} (h : fX5_readSum g = some r) : am_Mt zc MX5_readSum 64 [.ref 29] g (am_ri r) := tX5_rd 64 5 0 _ _ h
def fX5_readTerm (g : am_G) : Option (Int32 × am_G) := fX5_rd 64 6 0 g
theorem tX5_readTerm {g : am_G} {r : Int32 × am_G} (h : fX5_readTerm g = some r) : am_Mt zc MX5_readTerm 64 [.ref 29] g (am_ri r) := tX5_rd 64 6 0 _ _ h
def fX5_readPart (g : am_G) : Option (Int32 × am_G) := fX5_rd 64 7 0 g
theorem tX5_readPart {g : am_G} {r : Int32 × am_G} (h : fX5_readPart g = some r) : am_Mt zc MX5_readPart 64 [.ref 29] g (am_ri r) := tX5_rd 64 7 0 _ _ h
def fX5_keepSum (a1 : Int32) (a2 : Int32) (g : am_G) : Option (Int32 × am_G) :=
  am_gd (am_in (((a1 * (6 : Int32)) + (1 : Int32)) + a2) 72) <|
  am_let (am_si g 34 (((a1 * (6 : Int32)) + (1 : Int32)) + a2).toNatClampNeg (am_I g 29 6)) fun g2 =>
  am_bd (fX5_readSum g2) fun v3 g4 =>
  am_bd (fX5_addStep (0 : Int32) (0 : Int32) g4) fun u6 g7 =>
  am_gd (am_zb v3) <|
  some (v3, g7)
set_option maxRecDepth 100000 in
set_option maxHeartbeats 4000000 in
theorem eX5_keepSum (a1 : Int32) (a2 : Int32) (g : am_G) (r : Int32 × am_G) (h : fX5_keepSum a1 a2 g = some r) : am_Ev zc MX5_keepSum 65 0 [(0, .ref 29), (1, .int a1), (2, .int a2)] [] g (am_ri r) := by
  unfold fX5_keepSum at h
  refine ev_aload_n 0 dX5_keepSum_0 rfl ?_
  refine ev_gf (v := .ref 33) dX5_keepSum_1 (fun h9 => (h9.2.1 29 _ rfl).2) 3 (by decide) (by decide) kF_X5_27 (fun h9 => congrArg va_rf (h9.2.2 29 3 33 rfl)) ?_
  refine ev_gf (v := .ref 34) dX5_keepSum_4 (fun h9 => (h9.2.1 33 _ rfl).2) 0 (by decide) (by decide) kF_X5_111 (fun h9 => congrArg va_rf (h9.2.2 33 0 34 rfl)) ?_
  refine ev_iload_n 1 dX5_keepSum_7 rfl ?_
  refine ev_bipush dX5_keepSum_8 rfl ?_
  refine ev_imul dX5_keepSum_10 ?_
  refine ev_iconst dX5_keepSum_11 rfl ?_
  refine ev_iadd dX5_keepSum_12 ?_
  refine ev_iload_n 2 dX5_keepSum_13 rfl ?_
  refine ev_iadd dX5_keepSum_14 ?_
  refine ev_aload_n 0 dX5_keepSum_15 rfl ?_
  refine ev_gf (v := .int (am_I g 29 6)) dX5_keepSum_16 (fun h9 => (h9.2.1 29 _ rfl).2) 6 (by decide) (by decide) kF_X5_48 (fun _ => rfl) ?_
  obtain ⟨c1, h⟩ := am_gd_elim h
  refine ev_iast dX5_keepSum_19 (fun h9 => (h9.2.1 34 _ rfl).2) (am_in_vp c1) ?_
  refine am_let_elim (P := fun g2 => am_Ev zc MX5_keepSum 65 20 [(0, .ref 29), (1, .int a1), (2, .int a2)] [] g2 (am_ri r)) h fun g2 h => ?_
  refine ev_aload_n 0 dX5_keepSum_20 rfl ?_
  obtain ⟨v3, g4, e5, h⟩ := am_bd_elim h
  refine ev_callVi (v := v3) [] [] dX5_keepSum_21 (tX5_readSum e5) (by decide) mo_X5_readSum kM_X5_124 ki_X5_readSum kv_X5_readSum (fun h9 => (h9.2.1 29 _ rfl).2) (by decide) rfl (Nat.le_of_ble_eq_true rfl) ?_
  refine ev_istore_n (ls' := [(3, .int v3), (0, .ref 29), (1, .int a1), (2, .int a2)]) dX5_keepSum_24 rfl (by decide) rfl ?_
  refine ev_aload_n 1 dX5_keepSum_25 rfl ?_
  refine ev_iconst dX5_keepSum_26 rfl ?_
  refine ev_iconst dX5_keepSum_27 rfl ?_
  obtain ⟨u6, g7, e8, h⟩ := am_bd_elim h
  refine ev_callVv [.int (0 : Int32), .int (0 : Int32)] [] dX5_keepSum_28 (tX5_addStep e8) (by decide) mo_X5_addStep kM_X5_127 ki_X5_addStep kv_X5_addStep (fun h9 => (h9.2.1 29 _ rfl).2) (by decide) rfl (Nat.le_of_ble_eq_true rfl) ?_
  refine ev_iload_n 0 dX5_keepSum_31 rfl ?_
  obtain ⟨c9, h⟩ := am_gd_elim h
  cases h
  exact ev_zret dX5_keepSum_32 rfl (am_zb_n c9)
theorem tX5_keepSum {a1 : Int32} {a2 : Int32} {g : am_G} {r : Int32 × am_G} (h : fX5_keepSum a1 a2 g = some r) : am_Mt zc MX5_keepSum 65 [.ref 29, .int a1, .int a2] g (am_ri r) := am_Mt.of rfl (Nat.le_of_ble_eq_true rfl) (eX5_keepSum _ _ _ _ h)
def fX5_keepTimes (a1 : Int32) (g : am_G) : Option (Int32 × am_G) :=
  am_let ((a1 * (6 : Int32)) + (5 : Int32)) fun x1 =>
  am_gd (am_in x1 72) <|
  am_let (am_si g 34 x1.toNatClampNeg (1 : Int32)) fun g3 =>
  if (am_I g3 29 10) = 0 then (
    am_bd (fX5_pass (12 : Int32) g3) fun v5 g6 =>
    if v5 = 0 then (
      some ((1 : Int32), g6))
    else (
      am_gd (am_in (am_I g6 29 7) 401) <|
      am_bd (fX11_within (am_I g6 31 (am_I g6 29 7).toNatClampNeg) (1001 : Int32) (1020 : Int32) g6) fun v10 g11 =>
      if v10 = 0 then (
        some ((0 : Int32), g11))
      else (
        am_gd (am_in (am_I g11 29 7) 401) <|
        am_gd (am_in x1 72) <|
        am_let (am_si g11 34 x1.toNatClampNeg ((am_I g11 31 (am_I g11 29 7).toNatClampNeg) - (1000 : Int32))) fun g16 =>
        am_let (am_si g16 29 7 ((am_I g16 29 7) + (1 : Int32))) fun g17 =>
        some ((1 : Int32), g17))))
  else (
    some ((1 : Int32), g3))
set_option maxRecDepth 100000 in
set_option maxHeartbeats 4000000 in
theorem eX5_keepTimes (a1 : Int32) (g : am_G) (r : Int32 × am_G) (h : fX5_keepTimes a1 g = some r) : am_Ev zc MX5_keepTimes 1 0 [(0, .ref 29), (1, .int a1)] [] g (am_ri r) := by
  unfold fX5_keepTimes at h
  refine ev_iload_n 1 dX5_keepTimes_0 rfl ?_
  refine ev_bipush dX5_keepTimes_1 rfl ?_
  refine ev_imul dX5_keepTimes_3 ?_
  refine ev_iconst dX5_keepTimes_4 rfl ?_
  refine ev_iadd dX5_keepTimes_5 ?_
  refine am_let_elim (P := fun x1 => am_Ev zc MX5_keepTimes 1 6 [(0, .ref 29), (1, .int a1)] [.int x1] g (am_ri r)) h fun x1 h => ?_
  refine ev_istore_n (ls' := [(2, .int x1), (0, .ref 29), (1, .int a1)]) dX5_keepTimes_6 rfl (by decide) rfl ?_
  refine ev_aload_n 1 dX5_keepTimes_7 rfl ?_
  refine ev_gf (v := .ref 33) dX5_keepTimes_8 (fun h9 => (h9.2.1 29 _ rfl).2) 3 (by decide) (by decide) kF_X5_27 (fun h9 => congrArg va_rf (h9.2.2 29 3 33 rfl)) ?_
  refine ev_gf (v := .ref 34) dX5_keepTimes_11 (fun h9 => (h9.2.1 33 _ rfl).2) 0 (by decide) (by decide) kF_X5_111 (fun h9 => congrArg va_rf (h9.2.2 33 0 34 rfl)) ?_
  refine ev_iload_n 0 dX5_keepTimes_14 rfl ?_
  refine ev_iconst dX5_keepTimes_15 rfl ?_
  obtain ⟨c2, h⟩ := am_gd_elim h
  refine ev_iast dX5_keepTimes_16 (fun h9 => (h9.2.1 34 _ rfl).2) (am_in_vp c2) ?_
  refine am_let_elim (P := fun g3 => am_Ev zc MX5_keepTimes 1 17 [(2, .int x1), (0, .ref 29), (1, .int a1)] [] g3 (am_ri r)) h fun g3 h => ?_
  refine ev_aload_n 1 dX5_keepTimes_17 rfl ?_
  refine ev_gf (v := .int (am_I g3 29 10)) dX5_keepTimes_18 (fun h9 => (h9.2.1 29 _ rfl).2) 10 (by decide) (by decide) kF_X5_41 (fun _ => rfl) ?_
  refine ev_if_ne 33 dX5_keepTimes_21 (by decide) (fun c4 => ?_) (fun c4 => ?_)
  · replace h := am_ifn c4 h
    refine ev_iconst dX5_keepTimes_33 rfl ?_
    cases h
    exact ev_zret dX5_keepTimes_34 rfl rfl
  · replace h := am_ifp c4 h
    refine ev_aload_n 1 dX5_keepTimes_24 rfl ?_
    refine ev_bipush dX5_keepTimes_25 rfl ?_
    obtain ⟨v5, g6, e7, h⟩ := am_bd_elim h
    refine ev_callVi (v := v5) [.int (12 : Int32)] [] dX5_keepTimes_27 (tX5_pass e7) (by decide) mo_X5_pass kM_X5_108 ki_X5_pass kv_X5_pass (fun h9 => (h9.2.1 29 _ rfl).2) (by decide) rfl (Nat.le_of_ble_eq_true rfl) ?_
    refine ev_if_ne 35 dX5_keepTimes_30 (by decide) (fun c8 => ?_) (fun c8 => ?_)
    · replace h := am_ifn c8 h
      refine ev_aload_n 1 dX5_keepTimes_35 rfl ?_
      refine ev_gf (v := .ref 31) dX5_keepTimes_36 (fun h9 => (h9.2.1 29 _ rfl).2) 1 (by decide) (by decide) kF_X5_15 (fun h9 => congrArg va_rf (h9.2.2 29 1 31 rfl)) ?_
      refine ev_aload_n 1 dX5_keepTimes_39 rfl ?_
      refine ev_gf (v := .int (am_I g6 29 7)) dX5_keepTimes_40 (fun h9 => (h9.2.1 29 _ rfl).2) 7 (by decide) (by decide) kF_X5_45 (fun _ => rfl) ?_
      obtain ⟨c9, h⟩ := am_gd_elim h
      refine ev_iald dX5_keepTimes_43 (fun h9 => (h9.2.1 31 _ rfl).2) (am_in_vp c9) ?_
      refine ev_sipush dX5_keepTimes_44 rfl ?_
      refine ev_sipush dX5_keepTimes_47 rfl ?_
      obtain ⟨v10, g11, e12, h⟩ := am_bd_elim h
      refine ev_callSNi (v := v10) [.int (am_I g6 31 (am_I g6 29 7).toNatClampNeg), .int (1001 : Int32), .int (1020 : Int32)] [] dX5_keepTimes_50 (tX11_within e12) (by decide) mo_X11_within kN_X5_72 ks_X11_within (Nat.le_of_ble_eq_true rfl) ?_
      refine ev_if_ne 58 dX5_keepTimes_53 (by decide) (fun c13 => ?_) (fun c13 => ?_)
      · replace h := am_ifn c13 h
        refine ev_aload_n 1 dX5_keepTimes_58 rfl ?_
        refine ev_gf (v := .ref 33) dX5_keepTimes_59 (fun h9 => (h9.2.1 29 _ rfl).2) 3 (by decide) (by decide) kF_X5_27 (fun h9 => congrArg va_rf (h9.2.2 29 3 33 rfl)) ?_
        refine ev_gf (v := .ref 34) dX5_keepTimes_62 (fun h9 => (h9.2.1 33 _ rfl).2) 0 (by decide) (by decide) kF_X5_111 (fun h9 => congrArg va_rf (h9.2.2 33 0 34 rfl)) ?_
        refine ev_iload_n 0 dX5_keepTimes_65 rfl ?_
        refine ev_aload_n 1 dX5_keepTimes_66 rfl ?_
        refine ev_gf (v := .ref 31) dX5_keepTimes_67 (fun h9 => (h9.2.1 29 _ rfl).2) 1 (by decide) (by decide) kF_X5_15 (fun h9 => congrArg va_rf (h9.2.2 29 1 31 rfl)) ?_
        refine ev_aload_n 1 dX5_keepTimes_70 rfl ?_
        refine ev_gf (v := .int (am_I g11 29 7)) dX5_keepTimes_71 (fun h9 => (h9.2.1 29 _ rfl).2) 7 (by decide) (by decide) kF_X5_45 (fun _ => rfl) ?_
        obtain ⟨c14, h⟩ := am_gd_elim h
        refine ev_iald dX5_keepTimes_74 (fun h9 => (h9.2.1 31 _ rfl).2) (am_in_vp c14) ?_
        refine ev_sipush dX5_keepTimes_75 rfl ?_
        refine ev_isub dX5_keepTimes_78 ?_
        obtain ⟨c15, h⟩ := am_gd_elim h
        refine ev_iast dX5_keepTimes_79 (fun h9 => (h9.2.1 34 _ rfl).2) (am_in_vp c15) ?_
        refine am_let_elim (P := fun g16 => am_Ev zc MX5_keepTimes 1 80 [(2, .int x1), (0, .ref 29), (1, .int a1)] [] g16 (am_ri r)) h fun g16 h => ?_
        refine ev_aload_n 1 dX5_keepTimes_80 rfl ?_
        refine ev_dup dX5_keepTimes_81 rfl ?_
        refine ev_gf (v := .int (am_I g16 29 7)) dX5_keepTimes_82 (fun h9 => (h9.2.1 29 _ rfl).2) 7 (by decide) (by decide) kF_X5_45 (fun _ => rfl) ?_
        refine ev_iconst dX5_keepTimes_85 rfl ?_
        refine ev_iadd dX5_keepTimes_86 ?_
        refine ev_pfi dX5_keepTimes_87 (fun h9 => (h9.2.1 29 _ rfl).2) 7 (by decide) (by decide) kF_X5_45 rfl rfl rfl (fun _ => rfl) ?_
        refine am_let_elim (P := fun g17 => am_Ev zc MX5_keepTimes 1 90 [(2, .int x1), (0, .ref 29), (1, .int a1)] [] g17 (am_ri r)) h fun g17 h => ?_
        refine ev_iconst dX5_keepTimes_90 rfl ?_
        cases h
        exact ev_zret dX5_keepTimes_91 rfl rfl
      · replace h := am_ifp c13 h
        refine ev_iconst dX5_keepTimes_56 rfl ?_
        cases h
        exact ev_zret dX5_keepTimes_57 rfl rfl
    · replace h := am_ifp c8 h
      refine ev_iconst dX5_keepTimes_33 rfl ?_
      cases h
      exact ev_zret dX5_keepTimes_34 rfl rfl
theorem tX5_keepTimes {a1 : Int32} {g : am_G} {r : Int32 × am_G} (h : fX5_keepTimes a1 g = some r) : am_Mt zc MX5_keepTimes 1 [.ref 29, .int a1] g (am_ri r) := am_Mt.of rfl (Nat.le_of_ble_eq_true rfl) (eX5_keepTimes _ _ _ h)
def fX5_keepTest (a1 : Int32) (g : am_G) : Option (Int32 × am_G) :=
  am_let ((a1 * (6 : Int32)) + (4 : Int32)) fun x1 =>
  am_gd (am_in x1 72) <|
  am_let (am_si g 34 x1.toNatClampNeg (-1 : Int32)) fun g3 =>
  am_bd (fX5_pass (7 : Int32) g3) fun v4 g5 =>
  if v4 = 0 then (
    some ((1 : Int32), g5))
  else (
    am_gd (am_in x1 72) <|
    am_let (am_si g5 34 x1.toNatClampNeg (am_I g5 29 6)) fun g9 =>
    am_bd (fX5_readTest g9) fun v10 g11 =>
    am_bd (fX5_addStep (0 : Int32) (0 : Int32) g11) fun u13 g14 =>
    am_gd (am_zb v10) <|
    some (v10, g14))
set_option maxRecDepth 100000 in
set_option maxHeartbeats 4000000 in
theorem eX5_keepTest (a1 : Int32) (g : am_G) (r : Int32 × am_G) (h : fX5_keepTest a1 g = some r) : am_Ev zc MX5_keepTest 65 0 [(0, .ref 29), (1, .int a1)] [] g (am_ri r) := by
  unfold fX5_keepTest at h
  refine ev_iload_n 1 dX5_keepTest_0 rfl ?_
  refine ev_bipush dX5_keepTest_1 rfl ?_
  refine ev_imul dX5_keepTest_3 ?_
  refine ev_iconst dX5_keepTest_4 rfl ?_
  refine ev_iadd dX5_keepTest_5 ?_
  refine am_let_elim (P := fun x1 => am_Ev zc MX5_keepTest 65 6 [(0, .ref 29), (1, .int a1)] [.int x1] g (am_ri r)) h fun x1 h => ?_
  refine ev_istore_n (ls' := [(2, .int x1), (0, .ref 29), (1, .int a1)]) dX5_keepTest_6 rfl (by decide) rfl ?_
  refine ev_aload_n 1 dX5_keepTest_7 rfl ?_
  refine ev_gf (v := .ref 33) dX5_keepTest_8 (fun h9 => (h9.2.1 29 _ rfl).2) 3 (by decide) (by decide) kF_X5_27 (fun h9 => congrArg va_rf (h9.2.2 29 3 33 rfl)) ?_
  refine ev_gf (v := .ref 34) dX5_keepTest_11 (fun h9 => (h9.2.1 33 _ rfl).2) 0 (by decide) (by decide) kF_X5_111 (fun h9 => congrArg va_rf (h9.2.2 33 0 34 rfl)) ?_
  refine ev_iload_n 0 dX5_keepTest_14 rfl ?_
  refine ev_iconst dX5_keepTest_15 rfl ?_
  obtain ⟨c2, h⟩ := am_gd_elim h
  refine ev_iast dX5_keepTest_16 (fun h9 => (h9.2.1 34 _ rfl).2) (am_in_vp c2) ?_
  refine am_let_elim (P := fun g3 => am_Ev zc MX5_keepTest 65 17 [(2, .int x1), (0, .ref 29), (1, .int a1)] [] g3 (am_ri r)) h fun g3 h => ?_
  refine ev_aload_n 1 dX5_keepTest_17 rfl ?_
  refine ev_bipush dX5_keepTest_18 rfl ?_
  obtain ⟨v4, g5, e6, h⟩ := am_bd_elim h
  refine ev_callVi (v := v4) [.int (7 : Int32)] [] dX5_keepTest_20 (tX5_pass e6) (by decide) mo_X5_pass kM_X5_108 ki_X5_pass kv_X5_pass (fun h9 => (h9.2.1 29 _ rfl).2) (by decide) rfl (Nat.le_of_ble_eq_true rfl) ?_
  refine ev_if_ne 28 dX5_keepTest_23 (by decide) (fun c7 => ?_) (fun c7 => ?_)
  · replace h := am_ifn c7 h
    refine ev_aload_n 1 dX5_keepTest_28 rfl ?_
    refine ev_gf (v := .ref 33) dX5_keepTest_29 (fun h9 => (h9.2.1 29 _ rfl).2) 3 (by decide) (by decide) kF_X5_27 (fun h9 => congrArg va_rf (h9.2.2 29 3 33 rfl)) ?_
    refine ev_gf (v := .ref 34) dX5_keepTest_32 (fun h9 => (h9.2.1 33 _ rfl).2) 0 (by decide) (by decide) kF_X5_111 (fun h9 => congrArg va_rf (h9.2.2 33 0 34 rfl)) ?_
    refine ev_iload_n 0 dX5_keepTest_35 rfl ?_
    refine ev_aload_n 1 dX5_keepTest_36 rfl ?_
    refine ev_gf (v := .int (am_I g5 29 6)) dX5_keepTest_37 (fun h9 => (h9.2.1 29 _ rfl).2) 6 (by decide) (by decide) kF_X5_48 (fun _ => rfl) ?_
    obtain ⟨c8, h⟩ := am_gd_elim h
    refine ev_iast dX5_keepTest_40 (fun h9 => (h9.2.1 34 _ rfl).2) (am_in_vp c8) ?_
    refine am_let_elim (P := fun g9 => am_Ev zc MX5_keepTest 65 41 [(2, .int x1), (0, .ref 29), (1, .int a1)] [] g9 (am_ri r)) h fun g9 h => ?_
    refine ev_aload_n 1 dX5_keepTest_41 rfl ?_
    obtain ⟨v10, g11, e12, h⟩ := am_bd_elim h
    refine ev_callVi (v := v10) [] [] dX5_keepTest_42 (tX5_readTest e12) (by decide) mo_X5_readTest kM_X5_131 ki_X5_readTest kv_X5_readTest (fun h9 => (h9.2.1 29 _ rfl).2) (by decide) rfl (Nat.le_of_ble_eq_true rfl) ?_
    refine ev_istore_n (ls' := [(3, .int v10), (2, .int x1), (0, .ref 29), (1, .int a1)]) dX5_keepTest_45 rfl (by decide) rfl ?_
    refine ev_aload_n 2 dX5_keepTest_46 rfl ?_
    refine ev_iconst dX5_keepTest_47 rfl ?_
    refine ev_iconst dX5_keepTest_48 rfl ?_
    obtain ⟨u13, g14, e15, h⟩ := am_bd_elim h
    refine ev_callVv [.int (0 : Int32), .int (0 : Int32)] [] dX5_keepTest_49 (tX5_addStep e15) (by decide) mo_X5_addStep kM_X5_127 ki_X5_addStep kv_X5_addStep (fun h9 => (h9.2.1 29 _ rfl).2) (by decide) rfl (Nat.le_of_ble_eq_true rfl) ?_
    refine ev_iload_n 0 dX5_keepTest_52 rfl ?_
    obtain ⟨c16, h⟩ := am_gd_elim h
    cases h
    exact ev_zret dX5_keepTest_53 rfl (am_zb_n c16)
  · replace h := am_ifp c7 h
    refine ev_iconst dX5_keepTest_26 rfl ?_
    cases h
    exact ev_zret dX5_keepTest_27 rfl rfl
theorem tX5_keepTest {a1 : Int32} {g : am_G} {r : Int32 × am_G} (h : fX5_keepTest a1 g = some r) : am_Mt zc MX5_keepTest 65 [.ref 29, .int a1] g (am_ri r) := am_Mt.of rfl (Nat.le_of_ble_eq_true rfl) (eX5_keepTest _ _ _ h)
def fX5_readClause (a1 : Int32) (g : am_G) : Option (Int32 × am_G) :=
  am_gd (am_in (am_I g 29 7) 401) <|
  am_let (am_I g 31 (am_I g 29 7).toNatClampNeg) fun x2 =>
  am_jn (fun  (g4 : am_G) =>
    am_let (am_si g4 29 7 ((am_I g4 29 7) + (1 : Int32))) fun g6 =>
    am_gd (am_in ((a1 * (6 : Int32)) + (0 : Int32)) 72) <|
    am_let (am_si g6 34 ((a1 * (6 : Int32)) + (0 : Int32)).toNatClampNeg x2) fun g8 =>
    am_jn (fun (x10 : Int32) (g11 : am_G) =>
      if x10 = 0 then (
        some ((0 : Int32), g11))
      else (
        am_bd (fX5_keepTimes a1 g11) fun v14 g15 =>
        if v14 = 0 then (
          some ((0 : Int32), g15))
        else (
          am_bd (fX5_keepTest a1 g15) fun v18 g19 =>
          if v18 = 0 then (
            some ((0 : Int32), g19))
          else (
            some ((1 : Int32), g19))))) fun j12 =>
    if x2 = (5 : Int32) then (
      am_bd (fX5_keepSum a1 (0 : Int32) g8) fun v29 g30 =>
      am_jn (fun (x33 : Int32) (g34 : am_G) =>
        j12 x33 g34) fun j35 =>
      am_jn (fun  (g36 : am_G) =>
        j35 (0 : Int32) g36) fun j37 =>
      if v29 = 0 then (
        j37 g30)
      else (
        am_bd (fX5_pass (11 : Int32) g30) fun v38 g39 =>
        if v38 = 0 then (
          j37 g39)
        else (
          am_bd (fX5_keepSum a1 (1 : Int32) g39) fun v42 g43 =>
          if v42 = 0 then (
            j37 g43)
          else (
            am_bd (fX5_pass (13 : Int32) g43) fun v46 g47 =>
            if v46 = 0 then (
              j37 g47)
            else (
              am_bd (fX5_keepSum a1 (2 : Int32) g47) fun v50 g51 =>
              if v50 = 0 then (
                j37 g51)
              else (
                j35 (1 : Int32) g51))))))
    else (
      am_bd (fX11_within x2 (1 : Int32) (3 : Int32) g8) fun v22 g23 =>
      if v22 = 0 then (
        j12 (1 : Int32) g23)
      else (
        am_bd (fX5_keepSum a1 (0 : Int32) g23) fun v26 g27 =>
        j12 v26 g27))) fun j5 =>
  if (am_I g 29 10) = 0 then (
    am_bd (fX11_within x2 (5 : Int32) (6 : Int32) g) fun v54 g55 =>
    if v54 = 0 then (
      some ((0 : Int32), g55))
    else (
      j5 g55))
  else (
    am_bd (fX11_within x2 (1 : Int32) (4 : Int32) g) fun v58 g59 =>
    if v58 = 0 then (
      some ((0 : Int32), g59))
    else (
      j5 g59))
set_option maxRecDepth 100000 in
set_option maxHeartbeats 4000000 in
theorem eX5_readClause (a1 : Int32) (g : am_G) (r : Int32 × am_G) (h : fX5_readClause a1 g = some r) : am_Ev zc MX5_readClause 66 0 [(0, .ref 29), (1, .int a1)] [] g (am_ri r) := by
  unfold fX5_readClause at h
  refine ev_aload_n 0 dX5_readClause_0 rfl ?_
  refine ev_gf (v := .ref 31) dX5_readClause_1 (fun h9 => (h9.2.1 29 _ rfl).2) 1 (by decide) (by decide) kF_X5_15 (fun h9 => congrArg va_rf (h9.2.2 29 1 31 rfl)) ?_
  refine ev_aload_n 0 dX5_readClause_4 rfl ?_
  refine ev_gf (v := .int (am_I g 29 7)) dX5_readClause_5 (fun h9 => (h9.2.1 29 _ rfl).2) 7 (by decide) (by decide) kF_X5_45 (fun _ => rfl) ?_
  obtain ⟨c1, h⟩ := am_gd_elim h
  refine ev_iald dX5_readClause_8 (fun h9 => (h9.2.1 31 _ rfl).2) (am_in_vp c1) ?_
  refine am_let_elim (P := fun x2 => am_Ev zc MX5_readClause 66 9 [(0, .ref 29), (1, .int a1)] [.int x2] g (am_ri r)) h fun x2 h => ?_
  refine ev_istore_n (ls' := [(2, .int x2), (0, .ref 29), (1, .int a1)]) dX5_readClause_9 rfl (by decide) rfl ?_
  refine ev_aload_n 1 dX5_readClause_10 rfl ?_
  refine ev_gf (v := .int (am_I g 29 10)) dX5_readClause_11 (fun h9 => (h9.2.1 29 _ rfl).2) 10 (by decide) (by decide) kF_X5_41 (fun _ => rfl) ?_
  refine am_jn_elim (fun q9 => ∀  (g4 : am_G) (r : Int32 × am_G), q9  g4 = some r → am_Ev zc MX5_readClause 66 41 [(0, .ref 29), (1, .int a1), (2, .int x2)] [] g4 (am_ri r)) h ?_ (fun j5 hj5 h => ?_)
  · intro  g4 r h
    try dsimp only at h
    refine ev_aload_n 0 dX5_readClause_41 rfl ?_
    refine ev_dup dX5_readClause_42 rfl ?_
    refine ev_gf (v := .int (am_I g4 29 7)) dX5_readClause_43 (fun h9 => (h9.2.1 29 _ rfl).2) 7 (by decide) (by decide) kF_X5_45 (fun _ => rfl) ?_
    refine ev_iconst dX5_readClause_46 rfl ?_
    refine ev_iadd dX5_readClause_47 ?_
    refine ev_pfi dX5_readClause_48 (fun h9 => (h9.2.1 29 _ rfl).2) 7 (by decide) (by decide) kF_X5_45 rfl rfl rfl (fun _ => rfl) ?_
    refine am_let_elim (P := fun g6 => am_Ev zc MX5_readClause 66 51 [(0, .ref 29), (1, .int a1), (2, .int x2)] [] g6 (am_ri r)) h fun g6 h => ?_
    refine ev_aload_n 0 dX5_readClause_51 rfl ?_
    refine ev_gf (v := .ref 33) dX5_readClause_52 (fun h9 => (h9.2.1 29 _ rfl).2) 3 (by decide) (by decide) kF_X5_27 (fun h9 => congrArg va_rf (h9.2.2 29 3 33 rfl)) ?_
    refine ev_gf (v := .ref 34) dX5_readClause_55 (fun h9 => (h9.2.1 33 _ rfl).2) 0 (by decide) (by decide) kF_X5_111 (fun h9 => congrArg va_rf (h9.2.2 33 0 34 rfl)) ?_
    refine ev_iload_n 1 dX5_readClause_58 rfl ?_
    refine ev_bipush dX5_readClause_59 rfl ?_
    refine ev_imul dX5_readClause_61 ?_
    refine ev_iconst dX5_readClause_62 rfl ?_
    refine ev_iadd dX5_readClause_63 ?_
    refine ev_iload_n 2 dX5_readClause_64 rfl ?_
    obtain ⟨c7, h⟩ := am_gd_elim h
    refine ev_iast dX5_readClause_65 (fun h9 => (h9.2.1 34 _ rfl).2) (am_in_vp c7) ?_
    refine am_let_elim (P := fun g8 => am_Ev zc MX5_readClause 66 66 [(0, .ref 29), (1, .int a1), (2, .int x2)] [] g8 (am_ri r)) h fun g8 h => ?_
    refine ev_iconst dX5_readClause_66 rfl ?_
    refine ev_istore_n (ls' := [(3, .int (1 : Int32)), (0, .ref 29), (1, .int a1), (2, .int x2)]) dX5_readClause_67 rfl (by decide) rfl ?_
    refine ev_iload_n 3 dX5_readClause_68 rfl ?_
    refine ev_iconst dX5_readClause_69 rfl ?_
    refine am_jn_elim (fun q9 => ∀ (x10 : Int32) (g11 : am_G) (r : Int32 × am_G), q9 x10 g11 = some r → am_Ev zc MX5_readClause 66 143 [(0, .ref 29), (1, .int a1), (3, .int x10)] [] g11 (am_ri r)) h ?_ (fun j12 hj12 h => ?_)
    · intro x10 g11 r h
      try dsimp only at h
      refine ev_iload_n 2 dX5_readClause_143 rfl ?_
      refine ev_if_eq 167 dX5_readClause_144 (by decide) (fun c13 => ?_) (fun c13 => ?_)
      · replace h := am_ifp c13 h
        refine ev_iconst dX5_readClause_167 rfl ?_
        cases h
        exact ev_zret dX5_readClause_168 rfl rfl
      · replace h := am_ifn c13 h
        refine ev_aload_n 0 dX5_readClause_147 rfl ?_
        refine ev_iload_n 1 dX5_readClause_148 rfl ?_
        obtain ⟨v14, g15, e16, h⟩ := am_bd_elim h
        refine ev_callVi (v := v14) [.int a1] [] dX5_readClause_149 (tX5_keepTimes e16) (by decide) mo_X5_keepTimes kM_X5_118 ki_X5_keepTimes kv_X5_keepTimes (fun h9 => (h9.2.1 29 _ rfl).2) (by decide) rfl (Nat.le_of_ble_eq_true rfl) ?_
        refine ev_if_eq 167 dX5_readClause_152 (by decide) (fun c17 => ?_) (fun c17 => ?_)
        · replace h := am_ifp c17 h
          refine ev_iconst dX5_readClause_167 rfl ?_
          cases h
          exact ev_zret dX5_readClause_168 rfl rfl
        · replace h := am_ifn c17 h
          refine ev_aload_n 0 dX5_readClause_155 rfl ?_
          refine ev_iload_n 1 dX5_readClause_156 rfl ?_
          obtain ⟨v18, g19, e20, h⟩ := am_bd_elim h
          refine ev_callVi (v := v18) [.int a1] [] dX5_readClause_157 (tX5_keepTest e20) (by decide) mo_X5_keepTest kM_X5_121 ki_X5_keepTest kv_X5_keepTest (fun h9 => (h9.2.1 29 _ rfl).2) (by decide) rfl (Nat.le_of_ble_eq_true rfl) ?_
          refine ev_if_eq 167 dX5_readClause_160 (by decide) (fun c21 => ?_) (fun c21 => ?_)
          · replace h := am_ifp c21 h
            refine ev_iconst dX5_readClause_167 rfl ?_
            cases h
            exact ev_zret dX5_readClause_168 rfl rfl
          · replace h := am_ifn c21 h
            refine ev_iconst dX5_readClause_163 rfl ?_
            refine ev_goto 168 dX5_readClause_164 (by decide) ?_
            cases h
            exact ev_zret dX5_readClause_168 rfl rfl
    · refine ev_icmp_ne 127 dX5_readClause_70 (by decide) (fun c9 => ?_) (fun c9 => ?_)
      · replace h := am_ifn c9 h
        refine ev_iload_n 3 dX5_readClause_127 rfl ?_
        refine ev_iconst dX5_readClause_128 rfl ?_
        refine ev_iconst dX5_readClause_129 rfl ?_
        obtain ⟨v22, g23, e24, h⟩ := am_bd_elim h
        refine ev_callSNi (v := v22) [.int x2, .int (1 : Int32), .int (3 : Int32)] [] dX5_readClause_130 (tX11_within e24) (by decide) mo_X11_within kN_X5_72 ks_X11_within (Nat.le_of_ble_eq_true rfl) ?_
        refine ev_if_eq 143 dX5_readClause_133 (by decide) (fun c25 => ?_) (fun c25 => ?_)
        · replace h := am_ifp c25 h
          refine ev_sub [1, 2, 0] rfl ?_
          exact hj12 _ _ _ h
        · replace h := am_ifn c25 h
          refine ev_aload_n 1 dX5_readClause_136 rfl ?_
          refine ev_iload_n 2 dX5_readClause_137 rfl ?_
          refine ev_iconst dX5_readClause_138 rfl ?_
          obtain ⟨v26, g27, e28, h⟩ := am_bd_elim h
          refine ev_callVi (v := v26) [.int a1, .int (0 : Int32)] [] dX5_readClause_139 (tX5_keepSum e28) (by decide) mo_X5_keepSum kM_X5_114 ki_X5_keepSum kv_X5_keepSum (fun h9 => (h9.2.1 29 _ rfl).2) (by decide) rfl (Nat.le_of_ble_eq_true rfl) ?_
          refine ev_istore_n (ls' := [(3, .int v26), (0, .ref 29), (1, .int a1), (2, .int x2)]) dX5_readClause_142 rfl (by decide) rfl ?_
          refine ev_sub [1, 2, 0] rfl ?_
          exact hj12 _ _ _ h
      · replace h := am_ifp c9 h
        refine ev_aload_n 1 dX5_readClause_73 rfl ?_
        refine ev_iload_n 2 dX5_readClause_74 rfl ?_
        refine ev_iconst dX5_readClause_75 rfl ?_
        obtain ⟨v29, g30, e31, h⟩ := am_bd_elim h
        refine ev_callVi (v := v29) [.int a1, .int (0 : Int32)] [] dX5_readClause_76 (tX5_keepSum e31) (by decide) mo_X5_keepSum kM_X5_114 ki_X5_keepSum kv_X5_keepSum (fun h9 => (h9.2.1 29 _ rfl).2) (by decide) rfl (Nat.le_of_ble_eq_true rfl) ?_
        refine am_jn_elim (fun q9 => ∀ (x33 : Int32) (g34 : am_G) (r : Int32 × am_G), q9 x33 g34 = some r → am_Ev zc MX5_readClause 66 123 [(0, .ref 29), (1, .int a1)] [.int x33] g34 (am_ri r)) h ?_ (fun j35 hj35 h => ?_)
        · intro x33 g34 r h
          try dsimp only at h
          refine ev_istore_n (ls' := [(3, .int x33), (0, .ref 29), (1, .int a1)]) dX5_readClause_123 rfl (by decide) rfl ?_
          refine ev_goto 143 dX5_readClause_124 (by decide) ?_
          refine ev_sub [1, 2, 0] rfl ?_
          exact hj12 _ _ _ h
        · refine am_jn_elim (fun q9 => ∀  (g36 : am_G) (r : Int32 × am_G), q9  g36 = some r → am_Ev zc MX5_readClause 66 122 [(0, .ref 29), (1, .int a1)] [] g36 (am_ri r)) h ?_ (fun j37 hj37 h => ?_)
          · intro  g36 r h
            try dsimp only at h
            refine ev_iconst dX5_readClause_122 rfl ?_
            refine ev_sub [0, 1] rfl ?_
            exact hj35 _ _ _ h
          · refine ev_if_eq 122 dX5_readClause_79 (by decide) (fun c32 => ?_) (fun c32 => ?_)
            · replace h := am_ifp c32 h
              refine ev_sub [1, 2] rfl ?_
              exact hj37  _ _ h
            · replace h := am_ifn c32 h
              refine ev_aload_n 1 dX5_readClause_82 rfl ?_
              refine ev_bipush dX5_readClause_83 rfl ?_
              obtain ⟨v38, g39, e40, h⟩ := am_bd_elim h
              refine ev_callVi (v := v38) [.int (11 : Int32)] [] dX5_readClause_85 (tX5_pass e40) (by decide) mo_X5_pass kM_X5_108 ki_X5_pass kv_X5_pass (fun h9 => (h9.2.1 29 _ rfl).2) (by decide) rfl (Nat.le_of_ble_eq_true rfl) ?_
              refine ev_if_eq 122 dX5_readClause_88 (by decide) (fun c41 => ?_) (fun c41 => ?_)
              · replace h := am_ifp c41 h
                refine ev_sub [1, 2] rfl ?_
                exact hj37  _ _ h
              · replace h := am_ifn c41 h
                refine ev_aload_n 1 dX5_readClause_91 rfl ?_
                refine ev_iload_n 2 dX5_readClause_92 rfl ?_
                refine ev_iconst dX5_readClause_93 rfl ?_
                obtain ⟨v42, g43, e44, h⟩ := am_bd_elim h
                refine ev_callVi (v := v42) [.int a1, .int (1 : Int32)] [] dX5_readClause_94 (tX5_keepSum e44) (by decide) mo_X5_keepSum kM_X5_114 ki_X5_keepSum kv_X5_keepSum (fun h9 => (h9.2.1 29 _ rfl).2) (by decide) rfl (Nat.le_of_ble_eq_true rfl) ?_
                refine ev_if_eq 122 dX5_readClause_97 (by decide) (fun c45 => ?_) (fun c45 => ?_)
                · replace h := am_ifp c45 h
                  refine ev_sub [1, 2] rfl ?_
                  exact hj37  _ _ h
                · replace h := am_ifn c45 h
                  refine ev_aload_n 1 dX5_readClause_100 rfl ?_
                  refine ev_bipush dX5_readClause_101 rfl ?_
                  obtain ⟨v46, g47, e48, h⟩ := am_bd_elim h
                  refine ev_callVi (v := v46) [.int (13 : Int32)] [] dX5_readClause_103 (tX5_pass e48) (by decide) mo_X5_pass kM_X5_108 ki_X5_pass kv_X5_pass (fun h9 => (h9.2.1 29 _ rfl).2) (by decide) rfl (Nat.le_of_ble_eq_true rfl) ?_
                  refine ev_if_eq 122 dX5_readClause_106 (by decide) (fun c49 => ?_) (fun c49 => ?_)
                  · replace h := am_ifp c49 h
                    refine ev_sub [1, 2] rfl ?_
                    exact hj37  _ _ h
                  · replace h := am_ifn c49 h
                    refine ev_aload_n 1 dX5_readClause_109 rfl ?_
                    refine ev_iload_n 2 dX5_readClause_110 rfl ?_
                    refine ev_iconst dX5_readClause_111 rfl ?_
                    obtain ⟨v50, g51, e52, h⟩ := am_bd_elim h
                    refine ev_callVi (v := v50) [.int a1, .int (2 : Int32)] [] dX5_readClause_112 (tX5_keepSum e52) (by decide) mo_X5_keepSum kM_X5_114 ki_X5_keepSum kv_X5_keepSum (fun h9 => (h9.2.1 29 _ rfl).2) (by decide) rfl (Nat.le_of_ble_eq_true rfl) ?_
                    refine ev_if_eq 122 dX5_readClause_115 (by decide) (fun c53 => ?_) (fun c53 => ?_)
                    · replace h := am_ifp c53 h
                      refine ev_sub [1, 2] rfl ?_
                      exact hj37  _ _ h
                    · replace h := am_ifn c53 h
                      refine ev_iconst dX5_readClause_118 rfl ?_
                      refine ev_goto 123 dX5_readClause_119 (by decide) ?_
                      refine ev_sub [1, 2] rfl ?_
                      exact hj35 _ _ _ h
  · refine ev_if_eq 29 dX5_readClause_14 (by decide) (fun c3 => ?_) (fun c3 => ?_)
    · replace h := am_ifp c3 h
      refine ev_iload_n 0 dX5_readClause_29 rfl ?_
      refine ev_iconst dX5_readClause_30 rfl ?_
      refine ev_bipush dX5_readClause_31 rfl ?_
      obtain ⟨v54, g55, e56, h⟩ := am_bd_elim h
      refine ev_callSNi (v := v54) [.int x2, .int (5 : Int32), .int (6 : Int32)] [] dX5_readClause_33 (tX11_within e56) (by decide) mo_X11_within kN_X5_72 ks_X11_within (Nat.le_of_ble_eq_true rfl) ?_
      refine ev_if_ne 41 dX5_readClause_36 (by decide) (fun c57 => ?_) (fun c57 => ?_)
      · replace h := am_ifn c57 h
        refine ev_sub [1, 2, 0] rfl ?_
        exact hj5  _ _ h
      · replace h := am_ifp c57 h
        refine ev_iconst dX5_readClause_39 rfl ?_
        cases h
        exact ev_zret dX5_readClause_40 rfl rfl
    · replace h := am_ifn c3 h
      refine ev_iload_n 0 dX5_readClause_17 rfl ?_
      refine ev_iconst dX5_readClause_18 rfl ?_
      refine ev_iconst dX5_readClause_19 rfl ?_
      obtain ⟨v58, g59, e60, h⟩ := am_bd_elim h
      refine ev_callSNi (v := v58) [.int x2, .int (1 : Int32), .int (4 : Int32)] [] dX5_readClause_20 (tX11_within e60) (by decide) mo_X11_within kN_X5_72 ks_X11_within (Nat.le_of_ble_eq_true rfl) ?_
      refine ev_if_ne 41 dX5_readClause_23 (by decide) (fun c61 => ?_) (fun c61 => ?_)
      · replace h := am_ifn c61 h
        refine ev_sub [1, 2, 0] rfl ?_
        exact hj5  _ _ h
      · replace h := am_ifp c61 h
        refine ev_goto 39 dX5_readClause_26 (by decide) ?_
        refine ev_iconst dX5_readClause_39 rfl ?_
        cases h
        exact ev_zret dX5_readClause_40 rfl rfl
theorem tX5_readClause {a1 : Int32} {g : am_G} {r : Int32 × am_G} (h : fX5_readClause a1 g = some r) : am_Mt zc MX5_readClause 66 [.ref 29, .int a1] g (am_ri r) := am_Mt.of rfl (Nat.le_of_ble_eq_true rfl) (eX5_readClause _ _ _ h)
def fX5_readClauses_L2 : Nat → Int32 → am_G → Option (Int32 × am_G)
  | 0, _, _ => none
  | n + 1, x1, g2 =>
    if (12 : Int32) ≤ x1 then (
      some ((0 : Int32), g2))
    else (
      am_bd (fX5_readClause x1 g2) fun v4 g5 =>
      if v4 = 0 then (
        some ((0 : Int32), g5))
      else (
        am_let (am_si g5 33 2 (x1 + (1 : Int32))) fun g8 =>
        am_gd (am_in (am_I g8 29 7) 401) <|
        if (am_I g8 31 (am_I g8 29 7).toNatClampNeg) = 0 then (
          some ((1 : Int32), g8))
        else (
          am_bd (fX5_pass (187 : Int32) g8) fun v11 g12 =>
          if v11 = 0 then (
            some ((0 : Int32), g12))
          else (
            am_let (x1 + (1 : Int32)) fun x15 =>
            fX5_readClauses_L2 n x15 g12))))
def fX5_readClauses (g : am_G) : Option (Int32 × am_G) :=
  fX5_readClauses_L2 am_fu (0 : Int32) g
set_option maxRecDepth 100000 in
set_option maxHeartbeats 4000000 in
theorem tfX5_readClauses_L2  : ∀ (n : Nat) (x1 : Int32) (g2 : am_G) (r : Int32 × am_G), fX5_readClauses_L2 n x1 g2 = some r → am_Ev zc MX5_readClauses 67 2 [(0, .ref 29), (1, .int x1)] [] g2 (am_ri r) := by
  intro n
  induction n with
  | zero => intro x1 g2 r h; exact nomatch (show (none : Option (Int32 × am_G)) = some r from h)
  | succ n ih =>
    intro x1 g2 r h
    rw [fX5_readClauses_L2] at h
    refine ev_iload_n 1 dX5_readClauses_2 rfl ?_
    refine ev_bipush dX5_readClauses_3 rfl ?_
    refine ev_icmp_ge 60 dX5_readClauses_5 (by decide) (fun c3 => ?_) (fun c3 => ?_)
    · replace h := am_ifp c3 h
      refine ev_iconst dX5_readClauses_60 rfl ?_
      cases h
      exact ev_zret dX5_readClauses_61 rfl rfl
    · replace h := am_ifn c3 h
      refine ev_aload_n 0 dX5_readClauses_8 rfl ?_
      refine ev_iload_n 1 dX5_readClauses_9 rfl ?_
      obtain ⟨v4, g5, e6, h⟩ := am_bd_elim h
      refine ev_callVi (v := v4) [.int x1] [] dX5_readClauses_10 (tX5_readClause e6) (by decide) mo_X5_readClause kM_X5_105 ki_X5_readClause kv_X5_readClause (fun h9 => (h9.2.1 29 _ rfl).2) (by decide) rfl (Nat.le_of_ble_eq_true rfl) ?_
      refine ev_if_ne 18 dX5_readClauses_13 (by decide) (fun c7 => ?_) (fun c7 => ?_)
      · replace h := am_ifn c7 h
        refine ev_aload_n 0 dX5_readClauses_18 rfl ?_
        refine ev_gf (v := .ref 33) dX5_readClauses_19 (fun h9 => (h9.2.1 29 _ rfl).2) 3 (by decide) (by decide) kF_X5_27 (fun h9 => congrArg va_rf (h9.2.2 29 3 33 rfl)) ?_
        refine ev_iload_n 1 dX5_readClauses_22 rfl ?_
        refine ev_iconst dX5_readClauses_23 rfl ?_
        refine ev_iadd dX5_readClauses_24 ?_
        refine ev_pfi dX5_readClauses_25 (fun h9 => (h9.2.1 33 _ rfl).2) 2 (by decide) (by decide) kF_X5_57 rfl rfl rfl (fun _ => rfl) ?_
        refine am_let_elim (P := fun g8 => am_Ev zc MX5_readClauses 67 28 [(0, .ref 29), (1, .int x1)] [] g8 (am_ri r)) h fun g8 h => ?_
        refine ev_aload_n 0 dX5_readClauses_28 rfl ?_
        refine ev_gf (v := .ref 31) dX5_readClauses_29 (fun h9 => (h9.2.1 29 _ rfl).2) 1 (by decide) (by decide) kF_X5_15 (fun h9 => congrArg va_rf (h9.2.2 29 1 31 rfl)) ?_
        refine ev_aload_n 0 dX5_readClauses_32 rfl ?_
        refine ev_gf (v := .int (am_I g8 29 7)) dX5_readClauses_33 (fun h9 => (h9.2.1 29 _ rfl).2) 7 (by decide) (by decide) kF_X5_45 (fun _ => rfl) ?_
        obtain ⟨c9, h⟩ := am_gd_elim h
        refine ev_iald dX5_readClauses_36 (fun h9 => (h9.2.1 31 _ rfl).2) (am_in_vp c9) ?_
        refine ev_if_ne 42 dX5_readClauses_37 (by decide) (fun c10 => ?_) (fun c10 => ?_)
        · replace h := am_ifn c10 h
          refine ev_aload_n 0 dX5_readClauses_42 rfl ?_
          refine ev_sipush dX5_readClauses_43 rfl ?_
          obtain ⟨v11, g12, e13, h⟩ := am_bd_elim h
          refine ev_callVi (v := v11) [.int (187 : Int32)] [] dX5_readClauses_46 (tX5_pass e13) (by decide) mo_X5_pass kM_X5_108 ki_X5_pass kv_X5_pass (fun h9 => (h9.2.1 29 _ rfl).2) (by decide) rfl (Nat.le_of_ble_eq_true rfl) ?_
          refine ev_if_ne 54 dX5_readClauses_49 (by decide) (fun c14 => ?_) (fun c14 => ?_)
          · replace h := am_ifn c14 h
            obtain ⟨x15, ex15, h⟩ := am_let_ex h
            refine ev_iinc (ls' := [(1, .int x15), (0, .ref 29)]) 1 dX5_readClauses_54 rfl ex15 (by decide) rfl ?_
            refine ev_goto 2 dX5_readClauses_57 (by decide) ?_
            refine ev_sub [1, 0] rfl ?_
            exact ih _ _ _ h
          · replace h := am_ifp c14 h
            refine ev_iconst dX5_readClauses_52 rfl ?_
            cases h
            exact ev_zret dX5_readClauses_53 rfl rfl
        · replace h := am_ifp c10 h
          refine ev_iconst dX5_readClauses_40 rfl ?_
          cases h
          exact ev_zret dX5_readClauses_41 rfl rfl
      · replace h := am_ifp c7 h
        refine ev_iconst dX5_readClauses_16 rfl ?_
        cases h
        exact ev_zret dX5_readClauses_17 rfl rfl
set_option maxRecDepth 100000 in
set_option maxHeartbeats 4000000 in
theorem eX5_readClauses (g : am_G) (r : Int32 × am_G) (h : fX5_readClauses g = some r) : am_Ev zc MX5_readClauses 67 0 [(0, .ref 29)] [] g (am_ri r) := by
  unfold fX5_readClauses at h
  refine ev_iconst dX5_readClauses_0 rfl ?_
  refine ev_istore_n (ls' := [(1, .int (0 : Int32)), (0, .ref 29)]) dX5_readClauses_1 rfl (by decide) rfl ?_
  refine ev_sub [1, 0] rfl ?_
  exact tfX5_readClauses_L2 _ _ _ _ h
theorem tX5_readClauses {g : am_G} {r : Int32 × am_G} (h : fX5_readClauses g = some r) : am_Mt zc MX5_readClauses 67 [.ref 29] g (am_ri r) := am_Mt.of rfl (Nat.le_of_ble_eq_true rfl) (eX5_readClauses _ _ h)
def fX5_read (a1 : Int32) (g : am_G) : Option (Int32 × am_G) :=
  am_bd (fX5_scan g) fun u1 g2 =>
  am_let (am_si g2 29 4 (0 : Int32)) fun g4 =>
  am_gd (am_zb a1) <|
  am_let (am_si g4 29 10 a1) fun g5 =>
  am_let (am_si g5 29 7 (0 : Int32)) fun g7 =>
  am_let (am_si g7 29 6 (0 : Int32)) fun g8 =>
  am_let (am_si g8 29 8 (0 : Int32)) fun g9 =>
  am_let (am_si g9 29 9 (0 : Int32)) fun g10 =>
  am_let (am_si g10 33 2 (0 : Int32)) fun g11 =>
  am_bd (fX5_readClauses g11) fun v12 g13 =>
  if v12 = 0 then (
    am_gd (am_in (am_I g13 29 7) 401) <|
    am_let (am_si g13 29 5 (am_I g13 32 (am_I g13 29 7).toNatClampNeg)) fun g17 =>
    am_gd (am_zb v12) <|
    some (v12, g17))
  else (
    am_let (am_si g13 29 5 (-1 : Int32)) fun g19 =>
    am_gd (am_zb v12) <|
    some (v12, g19))
set_option maxRecDepth 100000 in
set_option maxHeartbeats 4000000 in
theorem eX5_read (a1 : Int32) (g : am_G) (r : Int32 × am_G) (h : fX5_read a1 g = some r) : am_Ev zc MX5_read 68 0 [(0, .ref 29), (1, .int a1)] [] g (am_ri r) := by
  unfold fX5_read at h
  refine ev_aload_n 0 dX5_read_0 rfl ?_
  obtain ⟨u1, g2, e3, h⟩ := am_bd_elim h
  refine ev_callVv [] [] dX5_read_1 (tX5_scan e3) (by decide) mo_X5_scan kM_X5_38 ki_X5_scan kv_X5_scan (fun h9 => (h9.2.1 29 _ rfl).2) (by decide) rfl (Nat.le_of_ble_eq_true rfl) ?_
  refine ev_aload_n 0 dX5_read_4 rfl ?_
  refine ev_iconst dX5_read_5 rfl ?_
  refine ev_pfi dX5_read_6 (fun h9 => (h9.2.1 29 _ rfl).2) 4 (by decide) (by decide) kF_X5_35 rfl rfl rfl (fun _ => rfl) ?_
  refine am_let_elim (P := fun g4 => am_Ev zc MX5_read 68 9 [(0, .ref 29), (1, .int a1)] [] g4 (am_ri r)) h fun g4 h => ?_
  refine ev_aload_n 0 dX5_read_9 rfl ?_
  refine ev_iload_n 1 dX5_read_10 rfl ?_
  obtain ⟨c6, h⟩ := am_gd_elim h
  refine ev_pfi dX5_read_11 (fun h9 => (h9.2.1 29 _ rfl).2) 10 (by decide) (by decide) kF_X5_41 rfl (am_zb_n c6) (am_zb_f c6) (fun _ => rfl) ?_
  refine am_let_elim (P := fun g5 => am_Ev zc MX5_read 68 14 [(0, .ref 29), (1, .int a1)] [] g5 (am_ri r)) h fun g5 h => ?_
  refine ev_aload_n 0 dX5_read_14 rfl ?_
  refine ev_iconst dX5_read_15 rfl ?_
  refine ev_pfi dX5_read_16 (fun h9 => (h9.2.1 29 _ rfl).2) 7 (by decide) (by decide) kF_X5_45 rfl rfl rfl (fun _ => rfl) ?_
  refine am_let_elim (P := fun g7 => am_Ev zc MX5_read 68 19 [(0, .ref 29), (1, .int a1)] [] g7 (am_ri r)) h fun g7 h => ?_
  refine ev_aload_n 0 dX5_read_19 rfl ?_
  refine ev_iconst dX5_read_20 rfl ?_
  refine ev_pfi dX5_read_21 (fun h9 => (h9.2.1 29 _ rfl).2) 6 (by decide) (by decide) kF_X5_48 rfl rfl rfl (fun _ => rfl) ?_
  refine am_let_elim (P := fun g8 => am_Ev zc MX5_read 68 24 [(0, .ref 29), (1, .int a1)] [] g8 (am_ri r)) h fun g8 h => ?_
  refine ev_aload_n 0 dX5_read_24 rfl ?_
  refine ev_iconst dX5_read_25 rfl ?_
  refine ev_pfi dX5_read_26 (fun h9 => (h9.2.1 29 _ rfl).2) 8 (by decide) (by decide) kF_X5_51 rfl rfl rfl (fun _ => rfl) ?_
  refine am_let_elim (P := fun g9 => am_Ev zc MX5_read 68 29 [(0, .ref 29), (1, .int a1)] [] g9 (am_ri r)) h fun g9 h => ?_
  refine ev_aload_n 0 dX5_read_29 rfl ?_
  refine ev_iconst dX5_read_30 rfl ?_
  refine ev_pfi dX5_read_31 (fun h9 => (h9.2.1 29 _ rfl).2) 9 (by decide) (by decide) kF_X5_54 rfl rfl rfl (fun _ => rfl) ?_
  refine am_let_elim (P := fun g10 => am_Ev zc MX5_read 68 34 [(0, .ref 29), (1, .int a1)] [] g10 (am_ri r)) h fun g10 h => ?_
  refine ev_aload_n 0 dX5_read_34 rfl ?_
  refine ev_gf (v := .ref 33) dX5_read_35 (fun h9 => (h9.2.1 29 _ rfl).2) 3 (by decide) (by decide) kF_X5_27 (fun h9 => congrArg va_rf (h9.2.2 29 3 33 rfl)) ?_
  refine ev_iconst dX5_read_38 rfl ?_
  refine ev_pfi dX5_read_39 (fun h9 => (h9.2.1 33 _ rfl).2) 2 (by decide) (by decide) kF_X5_57 rfl rfl rfl (fun _ => rfl) ?_
  refine am_let_elim (P := fun g11 => am_Ev zc MX5_read 68 42 [(0, .ref 29), (1, .int a1)] [] g11 (am_ri r)) h fun g11 h => ?_
  refine ev_aload_n 0 dX5_read_42 rfl ?_
  obtain ⟨v12, g13, e14, h⟩ := am_bd_elim h
  refine ev_callVi (v := v12) [] [] dX5_read_43 (tX5_readClauses e14) (by decide) mo_X5_readClauses kM_X5_60 ki_X5_readClauses kv_X5_readClauses (fun h9 => (h9.2.1 29 _ rfl).2) (by decide) rfl (Nat.le_of_ble_eq_true rfl) ?_
  refine ev_istore_n (ls' := [(2, .int v12), (0, .ref 29), (1, .int a1)]) dX5_read_46 rfl (by decide) rfl ?_
  refine ev_aload_n 1 dX5_read_47 rfl ?_
  refine ev_iload_n 0 dX5_read_48 rfl ?_
  refine ev_if_eq 56 dX5_read_49 (by decide) (fun c15 => ?_) (fun c15 => ?_)
  · replace h := am_ifp c15 h
    refine ev_aload_n 1 dX5_read_56 rfl ?_
    refine ev_gf (v := .ref 32) dX5_read_57 (fun h9 => (h9.2.1 29 _ rfl).2) 2 (by decide) (by decide) kF_X5_19 (fun h9 => congrArg va_rf (h9.2.2 29 2 32 rfl)) ?_
    refine ev_aload_n 1 dX5_read_60 rfl ?_
    refine ev_gf (v := .int (am_I g13 29 7)) dX5_read_61 (fun h9 => (h9.2.1 29 _ rfl).2) 7 (by decide) (by decide) kF_X5_45 (fun _ => rfl) ?_
    obtain ⟨c16, h⟩ := am_gd_elim h
    refine ev_iald dX5_read_64 (fun h9 => (h9.2.1 32 _ rfl).2) (am_in_vp c16) ?_
    refine ev_pfi dX5_read_65 (fun h9 => (h9.2.1 29 _ rfl).2) 5 (by decide) (by decide) kF_X5_31 rfl rfl rfl (fun _ => rfl) ?_
    refine am_let_elim (P := fun g17 => am_Ev zc MX5_read 68 68 [(2, .int v12), (0, .ref 29), (1, .int a1)] [] g17 (am_ri r)) h fun g17 h => ?_
    refine ev_iload_n 0 dX5_read_68 rfl ?_
    obtain ⟨c18, h⟩ := am_gd_elim h
    cases h
    exact ev_zret dX5_read_69 rfl (am_zb_n c18)
  · replace h := am_ifn c15 h
    refine ev_iconst dX5_read_52 rfl ?_
    refine ev_goto 65 dX5_read_53 (by decide) ?_
    refine ev_pfi dX5_read_65 (fun h9 => (h9.2.1 29 _ rfl).2) 5 (by decide) (by decide) kF_X5_31 rfl rfl rfl (fun _ => rfl) ?_
    refine am_let_elim (P := fun g19 => am_Ev zc MX5_read 68 68 [(2, .int v12), (0, .ref 29), (1, .int a1)] [] g19 (am_ri r)) h fun g19 h => ?_
    refine ev_iload_n 0 dX5_read_68 rfl ?_
    obtain ⟨c20, h⟩ := am_gd_elim h
    cases h
    exact ev_zret dX5_read_69 rfl (am_zb_n c20)
theorem tX5_read {a1 : Int32} {g : am_G} {r : Int32 × am_G} (h : fX5_read a1 g = some r) : am_Mt zc MX5_read 68 [.ref 29, .int a1] g (am_ri r) := am_Mt.of rfl (Nat.le_of_ble_eq_true rfl) (eX5_read _ _ _ h)
