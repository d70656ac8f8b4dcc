def fX0_init (fx : Nat) (a0 : Nat) (a1 : Nat) (g : am_G) : Option (Unit × am_G) :=
  am_let (am_n g) fun p1 =>
  am_let (am_new g 20 40) fun g2 =>
  am_gd (decide (am_S g2 a0 = (0, 3))) <|
  am_gd (decide (fx ≤ a0)) <|
  am_let (am_sp g2 a0 1 (some p1)) fun g4 =>
  am_let (am_n g4) fun p6 =>
  am_let (am_new g4 20 50) fun g7 =>
  am_gd (decide (am_S g7 a0 = (0, 3))) <|
  am_gd (decide (fx ≤ a0)) <|
  am_let (am_sp g7 a0 2 (some p6)) fun g9 =>
  am_gd (decide (am_S g9 a0 = (0, 3))) <|
  am_gd (decide (fx ≤ a0)) <|
  am_let (am_sp g9 a0 0 (some a1)) fun g12 =>
  some ((), g12)
set_option maxRecDepth 100000 in
set_option maxHeartbeats 4000000 in
theorem eX0_init {Z : am_Z} {fx : Nat} (hF : ∀ g : am_G, am_ok Z g → ∀ k, Z.2 (am_n g) k = none) (hZ : ∀ a k, fx ≤ a → Z.2 a k = none) (a0 : Nat) (a1 : Nat) (g : am_G) (r : Unit × am_G) (h : fX0_init fx a0 a1 g = some r) : am_Ev Z MX0_init 0 0 [(0, .ref a0), (1, .ref a1)] [] g (am_rv r) := by
  unfold fX0_init at h
  refine ev_aload_n 0 dX0_init_0 rfl ?_
  refine ev_objInit dX0_init_1 kM_X0_3 k_objI k_objC (Nat.le_of_ble_eq_true rfl) ?_
  refine ev_aload_n 0 dX0_init_4 rfl ?_
  refine ev_bipush dX0_init_5 rfl ?_
  refine ev_newa 20 40 dX0_init_7 (fun h9 => hF _ h9) (by decide) (by decide) kA_int (by decide) rfl (by decide) ?_
  refine am_let_elim (P := fun p1 => am_Ev Z MX0_init 0 9 [(0, .ref a0), (1, .ref a1)] [.ref p1, .ref a0] (am_new g 20 40) (am_rv r)) h fun p1 h => ?_
  refine am_let_elim (P := fun g2 => am_Ev Z MX0_init 0 9 [(0, .ref a0), (1, .ref a1)] [.ref p1, .ref a0] g2 (am_rv r)) h fun g2 h => ?_
  obtain ⟨c3, h⟩ := am_gd_elim h
  obtain ⟨c5, h⟩ := am_gd_elim h
  refine ev_pfr dX0_init_9 (fun _ => am_sh c3) 1 (by decide) (by decide) kF_X0_9 rfl ⟨rfl, rfl⟩ (hZ _ _ (of_decide_eq_true c5)) (fun _ => rfl) (fun _ => rfl) (fun _ => rfl) ?_
  refine am_let_elim (P := fun g4 => am_Ev Z MX0_init 0 12 [(0, .ref a0), (1, .ref a1)] [] g4 (am_rv r)) h fun g4 h => ?_
  refine ev_aload_n 0 dX0_init_12 rfl ?_
  refine ev_bipush dX0_init_13 rfl ?_
  refine ev_newa 20 50 dX0_init_15 (fun h9 => hF _ h9) (by decide) (by decide) kA_int (by decide) rfl (by decide) ?_
  refine am_let_elim (P := fun p6 => am_Ev Z MX0_init 0 17 [(0, .ref a0), (1, .ref a1)] [.ref p6, .ref a0] (am_new g4 20 50) (am_rv r)) h fun p6 h => ?_
  refine am_let_elim (P := fun g7 => am_Ev Z MX0_init 0 17 [(0, .ref a0), (1, .ref a1)] [.ref p6, .ref a0] g7 (am_rv r)) h fun g7 h => ?_
  obtain ⟨c8, h⟩ := am_gd_elim h
  obtain ⟨c10, h⟩ := am_gd_elim h
  refine ev_pfr dX0_init_17 (fun _ => am_sh c8) 2 (by decide) (by decide) kF_X0_15 rfl ⟨rfl, rfl⟩ (hZ _ _ (of_decide_eq_true c10)) (fun _ => rfl) (fun _ => rfl) (fun _ => rfl) ?_
  refine am_let_elim (P := fun g9 => am_Ev Z MX0_init 0 20 [(0, .ref a0), (1, .ref a1)] [] g9 (am_rv r)) h fun g9 h => ?_
  refine ev_aload_n 0 dX0_init_20 rfl ?_
  refine ev_aload_n 1 dX0_init_21 rfl ?_
  obtain ⟨c11, h⟩ := am_gd_elim h
  obtain ⟨c13, h⟩ := am_gd_elim h
  refine ev_pfr dX0_init_22 (fun _ => am_sh c11) 0 (by decide) (by decide) kF_X0_18 rfl ⟨rfl, rfl⟩ (hZ _ _ (of_decide_eq_true c13)) (fun _ => rfl) (fun _ => rfl) (fun _ => rfl) ?_
  refine am_let_elim (P := fun g12 => am_Ev Z MX0_init 0 25 [(0, .ref a0), (1, .ref a1)] [] g12 (am_rv r)) h fun g12 h => ?_
  cases h
  exact ev_ret dX0_init_25 rfl
theorem tX0_init {Z : am_Z} {fx : Nat} (hF : ∀ g : am_G, am_ok Z g → ∀ k, Z.2 (am_n g) k = none) (hZ : ∀ a k, fx ≤ a → Z.2 a k = none) {a0 : Nat} {a1 : Nat} {g : am_G} {r : Unit × am_G} (h : fX0_init fx a0 a1 g = some r) : am_Mt Z MX0_init 0 [.ref a0, .ref a1] g (am_rv r) := am_Mt.of rfl (Nat.le_of_ble_eq_true rfl) (eX0_init hF hZ _ _ _ _ h)
def fX0_onDay (a1 : Int32) (g : am_G) : Option (Unit × am_G) :=
  am_gd (am_in (22 : Int32) 40) <|
  am_let (am_si g 37 (22 : Int32).toNatClampNeg a1) fun g2 =>
  am_gd (am_in (20 : Int32) 40) <|
  am_let (am_si g2 37 (20 : Int32).toNatClampNeg (am_I g2 1 19)) fun g4 =>
  some ((), g4)
set_option maxRecDepth 100000 in
set_option maxHeartbeats 4000000 in
theorem eX0_onDay (a1 : Int32) (g : am_G) (r : Unit × am_G) (h : fX0_onDay a1 g = some r) : am_Ev zc MX0_onDay 0 0 [(0, .ref 36), (1, .int a1)] [] g (am_rv r) := by
  unfold fX0_onDay at h
  refine ev_aload_n 0 dX0_onDay_0 rfl ?_
  refine ev_gf (v := .ref 37) dX0_onDay_1 (fun h9 => (h9.2.1 36 _ rfl).2) 1 (by decide) (by decide) kF_X0_9 (fun h9 => congrArg va_rf (h9.2.2 36 1 37 rfl)) ?_
  refine ev_bipush dX0_onDay_4 rfl ?_
  refine ev_iload_n 1 dX0_onDay_6 rfl ?_
  obtain ⟨c1, h⟩ := am_gd_elim h
  refine ev_iast dX0_onDay_7 (fun h9 => (h9.2.1 37 _ rfl).2) (am_in_vp c1) ?_
  refine am_let_elim (P := fun g2 => am_Ev zc MX0_onDay 0 8 [(0, .ref 36), (1, .int a1)] [] g2 (am_rv r)) h fun g2 h => ?_
  refine ev_aload_n 0 dX0_onDay_8 rfl ?_
  refine ev_gf (v := .ref 37) dX0_onDay_9 (fun h9 => (h9.2.1 36 _ rfl).2) 1 (by decide) (by decide) kF_X0_9 (fun h9 => congrArg va_rf (h9.2.2 36 1 37 rfl)) ?_
  refine ev_bipush dX0_onDay_12 rfl ?_
  refine ev_aload_n 0 dX0_onDay_14 rfl ?_
  refine ev_gf (v := .ref 1) dX0_onDay_15 (fun h9 => (h9.2.1 36 _ rfl).2) 0 (by decide) (by decide) kF_X0_18 (fun h9 => congrArg va_rf (h9.2.2 36 0 1 rfl)) ?_
  refine ev_gf (v := .int (am_I g2 1 19)) dX0_onDay_18 (fun h9 => (h9.2.1 1 _ rfl).2) 19 (by decide) (by decide) kF_X0_22 (fun _ => rfl) ?_
  obtain ⟨c3, h⟩ := am_gd_elim h
  refine ev_iast dX0_onDay_21 (fun h9 => (h9.2.1 37 _ rfl).2) (am_in_vp c3) ?_
  refine am_let_elim (P := fun g4 => am_Ev zc MX0_onDay 0 22 [(0, .ref 36), (1, .int a1)] [] g4 (am_rv r)) h fun g4 h => ?_
  cases h
  exact ev_ret dX0_onDay_22 rfl
theorem tX0_onDay {a1 : Int32} {g : am_G} {r : Unit × am_G} (h : fX0_onDay a1 g = some r) : am_Mt zc MX0_onDay 0 [.ref 36, .int a1] g (am_rv r) := am_Mt.of rfl (Nat.le_of_ble_eq_true rfl) (eX0_onDay _ _ _ h)
def fX0_ofSaid (a1 : Int32) (a2 : Int32) (a3 : Int32) (g : am_G) : Option (Unit × am_G) :=
  am_gd (am_in (14 : Int32) 40) <|
  am_let (am_si g 37 (14 : Int32).toNatClampNeg a1) fun g2 =>
  am_gd (am_in a1 16) <|
  am_gd (am_in (15 : Int32) 40) <|
  am_let (am_si g2 37 (15 : Int32).toNatClampNeg (am_I g2 13 a1.toNatClampNeg)) fun g5 =>
  am_gd (am_in a1 16) <|
  am_gd (am_in (16 : Int32) 40) <|
  am_let (am_si g5 37 (16 : Int32).toNatClampNeg (am_I g5 14 a1.toNatClampNeg)) fun g8 =>
  am_gd (am_in (17 : Int32) 40) <|
  am_let (am_si g8 37 (17 : Int32).toNatClampNeg a2) fun g10 =>
  am_gd (am_in (13 : Int32) 40) <|
  am_let (am_si g10 37 (13 : Int32).toNatClampNeg a3) fun g12 =>
  some ((), g12)
set_option maxRecDepth 100000 in
set_option maxHeartbeats 4000000 in
theorem eX0_ofSaid (a1 : Int32) (a2 : Int32) (a3 : Int32) (g : am_G) (r : Unit × am_G) (h : fX0_ofSaid a1 a2 a3 g = some r) : am_Ev zc MX0_ofSaid 0 0 [(0, .ref 36), (1, .int a1), (2, .int a2), (3, .int a3)] [] g (am_rv r) := by
  unfold fX0_ofSaid at h
  refine ev_aload_n 0 dX0_ofSaid_0 rfl ?_
  refine ev_gf (v := .ref 37) dX0_ofSaid_1 (fun h9 => (h9.2.1 36 _ rfl).2) 1 (by decide) (by decide) kF_X0_9 (fun h9 => congrArg va_rf (h9.2.2 36 1 37 rfl)) ?_
  refine ev_bipush dX0_ofSaid_4 rfl ?_
  refine ev_iload_n 1 dX0_ofSaid_6 rfl ?_
  obtain ⟨c1, h⟩ := am_gd_elim h
  refine ev_iast dX0_ofSaid_7 (fun h9 => (h9.2.1 37 _ rfl).2) (am_in_vp c1) ?_
  refine am_let_elim (P := fun g2 => am_Ev zc MX0_ofSaid 0 8 [(0, .ref 36), (1, .int a1), (2, .int a2), (3, .int a3)] [] g2 (am_rv r)) h fun g2 h => ?_
  refine ev_aload_n 0 dX0_ofSaid_8 rfl ?_
  refine ev_gf (v := .ref 37) dX0_ofSaid_9 (fun h9 => (h9.2.1 36 _ rfl).2) 1 (by decide) (by decide) kF_X0_9 (fun h9 => congrArg va_rf (h9.2.2 36 1 37 rfl)) ?_
  refine ev_bipush dX0_ofSaid_12 rfl ?_
  refine ev_aload_n 0 dX0_ofSaid_14 rfl ?_
  refine ev_gf (v := .ref 1) dX0_ofSaid_15 (fun h9 => (h9.2.1 36 _ rfl).2) 0 (by decide) (by decide) kF_X0_18 (fun h9 => congrArg va_rf (h9.2.2 36 0 1 rfl)) ?_
  refine ev_gf (v := .ref 12) dX0_ofSaid_18 (fun h9 => (h9.2.1 1 _ rfl).2) 5 (by decide) (by decide) kF_X0_28 (fun h9 => congrArg va_rf (h9.2.2 1 5 12 rfl)) ?_
  refine ev_gf (v := .ref 13) dX0_ofSaid_21 (fun h9 => (h9.2.1 12 _ rfl).2) 0 (by decide) (by decide) kF_X0_32 (fun h9 => congrArg va_rf (h9.2.2 12 0 13 rfl)) ?_
  refine ev_iload_n 1 dX0_ofSaid_24 rfl ?_
  obtain ⟨c3, h⟩ := am_gd_elim h
  refine ev_iald dX0_ofSaid_25 (fun h9 => (h9.2.1 13 _ rfl).2) (am_in_vp c3) ?_
  obtain ⟨c4, h⟩ := am_gd_elim h
  refine ev_iast dX0_ofSaid_26 (fun h9 => (h9.2.1 37 _ rfl).2) (am_in_vp c4) ?_
  refine am_let_elim (P := fun g5 => am_Ev zc MX0_ofSaid 0 27 [(0, .ref 36), (1, .int a1), (2, .int a2), (3, .int a3)] [] g5 (am_rv r)) h fun g5 h => ?_
  refine ev_aload_n 0 dX0_ofSaid_27 rfl ?_
  refine ev_gf (v := .ref 37) dX0_ofSaid_28 (fun h9 => (h9.2.1 36 _ rfl).2) 1 (by decide) (by decide) kF_X0_9 (fun h9 => congrArg va_rf (h9.2.2 36 1 37 rfl)) ?_
  refine ev_bipush dX0_ofSaid_31 rfl ?_
  refine ev_aload_n 0 dX0_ofSaid_33 rfl ?_
  refine ev_gf (v := .ref 1) dX0_ofSaid_34 (fun h9 => (h9.2.1 36 _ rfl).2) 0 (by decide) (by decide) kF_X0_18 (fun h9 => congrArg va_rf (h9.2.2 36 0 1 rfl)) ?_
  refine ev_gf (v := .ref 12) dX0_ofSaid_37 (fun h9 => (h9.2.1 1 _ rfl).2) 5 (by decide) (by decide) kF_X0_28 (fun h9 => congrArg va_rf (h9.2.2 1 5 12 rfl)) ?_
  refine ev_gf (v := .ref 14) dX0_ofSaid_40 (fun h9 => (h9.2.1 12 _ rfl).2) 1 (by decide) (by decide) kF_X0_37 (fun h9 => congrArg va_rf (h9.2.2 12 1 14 rfl)) ?_
  refine ev_iload_n 1 dX0_ofSaid_43 rfl ?_
  obtain ⟨c6, h⟩ := am_gd_elim h
  refine ev_iald dX0_ofSaid_44 (fun h9 => (h9.2.1 14 _ rfl).2) (am_in_vp c6) ?_
  obtain ⟨c7, h⟩ := am_gd_elim h
  refine ev_iast dX0_ofSaid_45 (fun h9 => (h9.2.1 37 _ rfl).2) (am_in_vp c7) ?_
  refine am_let_elim (P := fun g8 => am_Ev zc MX0_ofSaid 0 46 [(0, .ref 36), (1, .int a1), (2, .int a2), (3, .int a3)] [] g8 (am_rv r)) h fun g8 h => ?_
  refine ev_aload_n 0 dX0_ofSaid_46 rfl ?_
  refine ev_gf (v := .ref 37) dX0_ofSaid_47 (fun h9 => (h9.2.1 36 _ rfl).2) 1 (by decide) (by decide) kF_X0_9 (fun h9 => congrArg va_rf (h9.2.2 36 1 37 rfl)) ?_
  refine ev_bipush dX0_ofSaid_50 rfl ?_
  refine ev_iload_n 2 dX0_ofSaid_52 rfl ?_
  obtain ⟨c9, h⟩ := am_gd_elim h
  refine ev_iast dX0_ofSaid_53 (fun h9 => (h9.2.1 37 _ rfl).2) (am_in_vp c9) ?_
  refine am_let_elim (P := fun g10 => am_Ev zc MX0_ofSaid 0 54 [(0, .ref 36), (1, .int a1), (2, .int a2), (3, .int a3)] [] g10 (am_rv r)) h fun g10 h => ?_
  refine ev_aload_n 0 dX0_ofSaid_54 rfl ?_
  refine ev_gf (v := .ref 37) dX0_ofSaid_55 (fun h9 => (h9.2.1 36 _ rfl).2) 1 (by decide) (by decide) kF_X0_9 (fun h9 => congrArg va_rf (h9.2.2 36 1 37 rfl)) ?_
  refine ev_bipush dX0_ofSaid_58 rfl ?_
  refine ev_iload_n 3 dX0_ofSaid_60 rfl ?_
  obtain ⟨c11, h⟩ := am_gd_elim h
  refine ev_iast dX0_ofSaid_61 (fun h9 => (h9.2.1 37 _ rfl).2) (am_in_vp c11) ?_
  refine am_let_elim (P := fun g12 => am_Ev zc MX0_ofSaid 0 62 [(0, .ref 36), (1, .int a1), (2, .int a2), (3, .int a3)] [] g12 (am_rv r)) h fun g12 h => ?_
  cases h
  exact ev_ret dX0_ofSaid_62 rfl
theorem tX0_ofSaid {a1 : Int32} {a2 : Int32} {a3 : Int32} {g : am_G} {r : Unit × am_G} (h : fX0_ofSaid a1 a2 a3 g = some r) : am_Mt zc MX0_ofSaid 0 [.ref 36, .int a1, .int a2, .int a3] g (am_rv r) := am_Mt.of rfl (Nat.le_of_ble_eq_true rfl) (eX0_ofSaid _ _ _ _ _ h)
def fX0_ofWeather (a1 : Int32) (a2 : Int32) (g : am_G) : Option (Unit × am_G) :=
  am_gd (am_in (14 : Int32) 40) <|
  am_let (am_si g 37 (14 : Int32).toNatClampNeg (-1 : Int32)) fun g2 =>
  am_gd (am_in (15 : Int32) 40) <|
  am_let (am_si g2 37 (15 : Int32).toNatClampNeg (-1 : Int32)) fun g4 =>
  am_gd (am_in (16 : Int32) 40) <|
  am_let (am_si g4 37 (16 : Int32).toNatClampNeg (-1 : Int32)) fun g6 =>
  am_gd (am_in (17 : Int32) 40) <|
  am_let (am_si g6 37 (17 : Int32).toNatClampNeg (-1 : Int32)) fun g8 =>
  am_gd (am_in (13 : Int32) 40) <|
  am_let (am_si g8 37 (13 : Int32).toNatClampNeg (-1 : Int32)) fun g10 =>
  am_gd (am_in (18 : Int32) 40) <|
  am_let (am_si g10 37 (18 : Int32).toNatClampNeg (-1 : Int32)) fun g12 =>
  am_gd (am_in (19 : Int32) 40) <|
  am_let (am_si g12 37 (19 : Int32).toNatClampNeg a1) fun g14 =>
  am_gd (am_in (21 : Int32) 40) <|
  am_let (am_si g14 37 (21 : Int32).toNatClampNeg a2) fun g16 =>
  some ((), g16)
set_option maxRecDepth 100000 in
set_option maxHeartbeats 4000000 in
theorem eX0_ofWeather (a1 : Int32) (a2 : Int32) (g : am_G) (r : Unit × am_G) (h : fX0_ofWeather a1 a2 g = some r) : am_Ev zc MX0_ofWeather 0 0 [(0, .ref 36), (1, .int a1), (2, .int a2)] [] g (am_rv r) := by
  unfold fX0_ofWeather at h
  refine ev_aload_n 0 dX0_ofWeather_0 rfl ?_
  refine ev_gf (v := .ref 37) dX0_ofWeather_1 (fun h9 => (h9.2.1 36 _ rfl).2) 1 (by decide) (by decide) kF_X0_9 (fun h9 => congrArg va_rf (h9.2.2 36 1 37 rfl)) ?_
  refine ev_bipush dX0_ofWeather_4 rfl ?_
  refine ev_iconst dX0_ofWeather_6 rfl ?_
  obtain ⟨c1, h⟩ := am_gd_elim h
  refine ev_iast dX0_ofWeather_7 (fun h9 => (h9.2.1 37 _ rfl).2) (am_in_vp c1) ?_
  refine am_let_elim (P := fun g2 => am_Ev zc MX0_ofWeather 0 8 [(0, .ref 36), (1, .int a1), (2, .int a2)] [] g2 (am_rv r)) h fun g2 h => ?_
  refine ev_aload_n 0 dX0_ofWeather_8 rfl ?_
  refine ev_gf (v := .ref 37) dX0_ofWeather_9 (fun h9 => (h9.2.1 36 _ rfl).2) 1 (by decide) (by decide) kF_X0_9 (fun h9 => congrArg va_rf (h9.2.2 36 1 37 rfl)) ?_
  refine ev_bipush dX0_ofWeather_12 rfl ?_
  refine ev_iconst dX0_ofWeather_14 rfl ?_
  obtain ⟨c3, h⟩ := am_gd_elim h
  refine ev_iast dX0_ofWeather_15 (fun h9 => (h9.2.1 37 _ rfl).2) (am_in_vp c3) ?_
  refine am_let_elim (P := fun g4 => am_Ev zc MX0_ofWeather 0 16 [(0, .ref 36), (1, .int a1), (2, .int a2)] [] g4 (am_rv r)) h fun g4 h => ?_
  refine ev_aload_n 0 dX0_ofWeather_16 rfl ?_
  refine ev_gf (v := .ref 37) dX0_ofWeather_17 (fun h9 => (h9.2.1 36 _ rfl).2) 1 (by decide) (by decide) kF_X0_9 (fun h9 => congrArg va_rf (h9.2.2 36 1 37 rfl)) ?_
  refine ev_bipush dX0_ofWeather_20 rfl ?_
  refine ev_iconst dX0_ofWeather_22 rfl ?_
  obtain ⟨c5, h⟩ := am_gd_elim h
  refine ev_iast dX0_ofWeather_23 (fun h9 => (h9.2.1 37 _ rfl).2) (am_in_vp c5) ?_
  refine am_let_elim (P := fun g6 => am_Ev zc MX0_ofWeather 0 24 [(0, .ref 36), (1, .int a1), (2, .int a2)] [] g6 (am_rv r)) h fun g6 h => ?_
  refine ev_aload_n 0 dX0_ofWeather_24 rfl ?_
  refine ev_gf (v := .ref 37) dX0_ofWeather_25 (fun h9 => (h9.2.1 36 _ rfl).2) 1 (by decide) (by decide) kF_X0_9 (fun h9 => congrArg va_rf (h9.2.2 36 1 37 rfl)) ?_
  refine ev_bipush dX0_ofWeather_28 rfl ?_
  refine ev_iconst dX0_ofWeather_30 rfl ?_
  obtain ⟨c7, h⟩ := am_gd_elim h
  refine ev_iast dX0_ofWeather_31 (fun h9 => (h9.2.1 37 _ rfl).2) (am_in_vp c7) ?_
  refine am_let_elim (P := fun g8 => am_Ev zc MX0_ofWeather 0 32 [(0, .ref 36), (1, .int a1), (2, .int a2)] [] g8 (am_rv r)) h fun g8 h => ?_
  refine ev_aload_n 0 dX0_ofWeather_32 rfl ?_
  refine ev_gf (v := .ref 37) dX0_ofWeather_33 (fun h9 => (h9.2.1 36 _ rfl).2) 1 (by decide) (by decide) kF_X0_9 (fun h9 => congrArg va_rf (h9.2.2 36 1 37 rfl)) ?_
  refine ev_bipush dX0_ofWeather_36 rfl ?_
  refine ev_iconst dX0_ofWeather_38 rfl ?_
  obtain ⟨c9, h⟩ := am_gd_elim h
  refine ev_iast dX0_ofWeather_39 (fun h9 => (h9.2.1 37 _ rfl).2) (am_in_vp c9) ?_
  refine am_let_elim (P := fun g10 => am_Ev zc MX0_ofWeather 0 40 [(0, .ref 36), (1, .int a1), (2, .int a2)] [] g10 (am_rv r)) h fun g10 h => ?_
  refine ev_aload_n 0 dX0_ofWeather_40 rfl ?_
  refine ev_gf (v := .ref 37) dX0_ofWeather_41 (fun h9 => (h9.2.1 36 _ rfl).2) 1 (by decide) (by decide) kF_X0_9 (fun h9 => congrArg va_rf (h9.2.2 36 1 37 rfl)) ?_
  refine ev_bipush dX0_ofWeather_44 rfl ?_
  refine ev_iconst dX0_ofWeather_46 rfl ?_
  obtain ⟨c11, h⟩ := am_gd_elim h
  refine ev_iast dX0_ofWeather_47 (fun h9 => (h9.2.1 37 _ rfl).2) (am_in_vp c11) ?_
  refine am_let_elim (P := fun g12 => am_Ev zc MX0_ofWeather 0 48 [(0, .ref 36), (1, .int a1), (2, .int a2)] [] g12 (am_rv r)) h fun g12 h => ?_
  refine ev_aload_n 0 dX0_ofWeather_48 rfl ?_
  refine ev_gf (v := .ref 37) dX0_ofWeather_49 (fun h9 => (h9.2.1 36 _ rfl).2) 1 (by decide) (by decide) kF_X0_9 (fun h9 => congrArg va_rf (h9.2.2 36 1 37 rfl)) ?_
  refine ev_bipush dX0_ofWeather_52 rfl ?_
  refine ev_iload_n 1 dX0_ofWeather_54 rfl ?_
  obtain ⟨c13, h⟩ := am_gd_elim h
  refine ev_iast dX0_ofWeather_55 (fun h9 => (h9.2.1 37 _ rfl).2) (am_in_vp c13) ?_
  refine am_let_elim (P := fun g14 => am_Ev zc MX0_ofWeather 0 56 [(0, .ref 36), (1, .int a1), (2, .int a2)] [] g14 (am_rv r)) h fun g14 h => ?_
  refine ev_aload_n 0 dX0_ofWeather_56 rfl ?_
  refine ev_gf (v := .ref 37) dX0_ofWeather_57 (fun h9 => (h9.2.1 36 _ rfl).2) 1 (by decide) (by decide) kF_X0_9 (fun h9 => congrArg va_rf (h9.2.2 36 1 37 rfl)) ?_
  refine ev_bipush dX0_ofWeather_60 rfl ?_
  refine ev_iload_n 2 dX0_ofWeather_62 rfl ?_
  obtain ⟨c15, h⟩ := am_gd_elim h
  refine ev_iast dX0_ofWeather_63 (fun h9 => (h9.2.1 37 _ rfl).2) (am_in_vp c15) ?_
  refine am_let_elim (P := fun g16 => am_Ev zc MX0_ofWeather 0 64 [(0, .ref 36), (1, .int a1), (2, .int a2)] [] g16 (am_rv r)) h fun g16 h => ?_
  cases h
  exact ev_ret dX0_ofWeather_64 rfl
theorem tX0_ofWeather {a1 : Int32} {a2 : Int32} {g : am_G} {r : Unit × am_G} (h : fX0_ofWeather a1 a2 g = some r) : am_Mt zc MX0_ofWeather 0 [.ref 36, .int a1, .int a2] g (am_rv r) := am_Mt.of rfl (Nat.le_of_ble_eq_true rfl) (eX0_ofWeather _ _ _ _ h)
def fX0_knowTalks (a1 : Nat) (a2 : Int32) (g : am_G) : Option (Unit × am_G) :=
  am_gd (decide (am_S g a1 = (2, 8))) <|
  am_gd (am_in (22 : Int32) 40) <|
  am_let (am_si g 37 (22 : Int32).toNatClampNeg (am_I g a1 5)) fun g3 =>
  am_gd (am_in (23 : Int32) 40) <|
  am_let (am_si g3 37 (23 : Int32).toNatClampNeg (am_I g3 12 4)) fun g5 =>
  am_gd (decide (am_S g5 a1 = (2, 8))) <|
  am_gd (am_in (26 : Int32) 40) <|
  am_let (am_si g5 37 (26 : Int32).toNatClampNeg ((am_I g5 a1 6) - a2)) fun g8 =>
  am_gd (decide (am_S g8 a1 = (2, 8))) <|
  am_oc (am_P g8 a1 0) (fun p10 =>
  am_gd (decide ((am_S g8 p10).1 = 20)) <|
  am_gd (am_co (0 : Int32) (28 : Int32) (6 : Int32) ((am_S g8 p10).2) 40) <|
  am_let (am_cp g8 p10 37 (0 : Int32).toNatClampNeg (28 : Int32).toNatClampNeg (6 : Int32).toNatClampNeg) fun g14 =>
  am_gd (decide (am_S g14 a1 = (2, 8))) <|
  am_oc (am_P g14 a1 1) (fun p16 =>
  am_gd (decide ((am_S g14 p16).1 = 20)) <|
  am_gd (am_co (0 : Int32) (34 : Int32) (6 : Int32) ((am_S g14 p16).2) 40) <|
  am_let (am_cp g14 p16 37 (0 : Int32).toNatClampNeg (34 : Int32).toNatClampNeg (6 : Int32).toNatClampNeg) fun g20 =>
  some ((), g20)) none) none
set_option maxRecDepth 100000 in
set_option maxHeartbeats 4000000 in
theorem eX0_knowTalks (a1 : Nat) (a2 : Int32) (g : am_G) (r : Unit × am_G) (h : fX0_knowTalks a1 a2 g = some r) : am_Ev zc MX0_knowTalks 0 0 [(0, .ref 36), (1, .ref a1), (2, .int a2)] [] g (am_rv r) := by
  unfold fX0_knowTalks at h
  refine ev_aload_n 0 dX0_knowTalks_0 rfl ?_
  refine ev_gf (v := .ref 37) dX0_knowTalks_1 (fun h9 => (h9.2.1 36 _ rfl).2) 1 (by decide) (by decide) kF_X0_9 (fun h9 => congrArg va_rf (h9.2.2 36 1 37 rfl)) ?_
  refine ev_bipush dX0_knowTalks_4 rfl ?_
  refine ev_aload_n 1 dX0_knowTalks_6 rfl ?_
  obtain ⟨c1, h⟩ := am_gd_elim h
  refine ev_gf (v := .int (am_I g a1 5)) dX0_knowTalks_7 (fun _ => am_sh c1) 5 (by decide) (by decide) kF_X0_40 (fun _ => rfl) ?_
  obtain ⟨c2, h⟩ := am_gd_elim h
  refine ev_iast dX0_knowTalks_10 (fun h9 => (h9.2.1 37 _ rfl).2) (am_in_vp c2) ?_
  refine am_let_elim (P := fun g3 => am_Ev zc MX0_knowTalks 0 11 [(0, .ref 36), (1, .ref a1), (2, .int a2)] [] g3 (am_rv r)) h fun g3 h => ?_
  refine ev_aload_n 0 dX0_knowTalks_11 rfl ?_
  refine ev_gf (v := .ref 37) dX0_knowTalks_12 (fun h9 => (h9.2.1 36 _ rfl).2) 1 (by decide) (by decide) kF_X0_9 (fun h9 => congrArg va_rf (h9.2.2 36 1 37 rfl)) ?_
  refine ev_bipush dX0_knowTalks_15 rfl ?_
  refine ev_aload_n 0 dX0_knowTalks_17 rfl ?_
  refine ev_gf (v := .ref 1) dX0_knowTalks_18 (fun h9 => (h9.2.1 36 _ rfl).2) 0 (by decide) (by decide) kF_X0_18 (fun h9 => congrArg va_rf (h9.2.2 36 0 1 rfl)) ?_
  refine ev_gf (v := .ref 12) dX0_knowTalks_21 (fun h9 => (h9.2.1 1 _ rfl).2) 5 (by decide) (by decide) kF_X0_28 (fun h9 => congrArg va_rf (h9.2.2 1 5 12 rfl)) ?_
  refine ev_gf (v := .int (am_I g3 12 4)) dX0_knowTalks_24 (fun h9 => (h9.2.1 12 _ rfl).2) 4 (by decide) (by decide) kF_X0_45 (fun _ => rfl) ?_
  obtain ⟨c4, h⟩ := am_gd_elim h
  refine ev_iast dX0_knowTalks_27 (fun h9 => (h9.2.1 37 _ rfl).2) (am_in_vp c4) ?_
  refine am_let_elim (P := fun g5 => am_Ev zc MX0_knowTalks 0 28 [(0, .ref 36), (1, .ref a1), (2, .int a2)] [] g5 (am_rv r)) h fun g5 h => ?_
  refine ev_aload_n 0 dX0_knowTalks_28 rfl ?_
  refine ev_gf (v := .ref 37) dX0_knowTalks_29 (fun h9 => (h9.2.1 36 _ rfl).2) 1 (by decide) (by decide) kF_X0_9 (fun h9 => congrArg va_rf (h9.2.2 36 1 37 rfl)) ?_
  refine ev_bipush dX0_knowTalks_32 rfl ?_
  refine ev_aload_n 1 dX0_knowTalks_34 rfl ?_
  obtain ⟨c6, h⟩ := am_gd_elim h
  refine ev_gf (v := .int (am_I g5 a1 6)) dX0_knowTalks_35 (fun _ => am_sh c6) 6 (by decide) (by decide) kF_X0_47 (fun _ => rfl) ?_
  refine ev_iload_n 2 dX0_knowTalks_38 rfl ?_
  refine ev_isub dX0_knowTalks_39 ?_
  obtain ⟨c7, h⟩ := am_gd_elim h
  refine ev_iast dX0_knowTalks_40 (fun h9 => (h9.2.1 37 _ rfl).2) (am_in_vp c7) ?_
  refine am_let_elim (P := fun g8 => am_Ev zc MX0_knowTalks 0 41 [(0, .ref 36), (1, .ref a1), (2, .int a2)] [] g8 (am_rv r)) h fun g8 h => ?_
  refine ev_aload_n 1 dX0_knowTalks_41 rfl ?_
  obtain ⟨c9, h⟩ := am_gd_elim h
  refine am_oc_elim h (fun p10 e11 h => ?_) (fun _ h => nomatch h)
  refine ev_gf (v := .ref p10) dX0_knowTalks_42 (fun _ => am_sh c9) 0 (by decide) (by decide) kF_X0_50 (fun _ => congrArg va_rf e11) ?_
  refine ev_iconst dX0_knowTalks_45 rfl ?_
  refine ev_aload_n 0 dX0_knowTalks_46 rfl ?_
  refine ev_gf (v := .ref 37) dX0_knowTalks_47 (fun h9 => (h9.2.1 36 _ rfl).2) 1 (by decide) (by decide) kF_X0_9 (fun h9 => congrArg va_rf (h9.2.2 36 1 37 rfl)) ?_
  refine ev_bipush dX0_knowTalks_50 rfl ?_
  refine ev_bipush dX0_knowTalks_52 rfl ?_
  obtain ⟨c12, h⟩ := am_gd_elim h
  obtain ⟨c13, h⟩ := am_gd_elim h
  refine ev_copyi dX0_knowTalks_54 kM_X0_53 k_cpN k_cpS kS_System (fun _ => am_shk c12) (fun h9 => (h9.2.1 37 _ rfl).2) (am_co_elim c13).1 (am_co_elim c13).2.1 (am_co_elim c13).2.2.1 (am_co_elim c13).2.2.2.1 (am_co_elim c13).2.2.2.2 (Nat.le_of_ble_eq_true rfl) ?_
  refine am_let_elim (P := fun g14 => am_Ev zc MX0_knowTalks 0 57 [(0, .ref 36), (1, .ref a1), (2, .int a2)] [] g14 (am_rv r)) h fun g14 h => ?_
  refine ev_aload_n 1 dX0_knowTalks_57 rfl ?_
  obtain ⟨c15, h⟩ := am_gd_elim h
  refine am_oc_elim h (fun p16 e17 h => ?_) (fun _ h => nomatch h)
  refine ev_gf (v := .ref p16) dX0_knowTalks_58 (fun _ => am_sh c15) 1 (by decide) (by decide) kF_X0_59 (fun _ => congrArg va_rf e17) ?_
  refine ev_iconst dX0_knowTalks_61 rfl ?_
  refine ev_aload_n 0 dX0_knowTalks_62 rfl ?_
  refine ev_gf (v := .ref 37) dX0_knowTalks_63 (fun h9 => (h9.2.1 36 _ rfl).2) 1 (by decide) (by decide) kF_X0_9 (fun h9 => congrArg va_rf (h9.2.2 36 1 37 rfl)) ?_
  refine ev_bipush dX0_knowTalks_66 rfl ?_
  refine ev_bipush dX0_knowTalks_68 rfl ?_
  obtain ⟨c18, h⟩ := am_gd_elim h
  obtain ⟨c19, h⟩ := am_gd_elim h
  refine ev_copyi dX0_knowTalks_70 kM_X0_53 k_cpN k_cpS kS_System (fun _ => am_shk c18) (fun h9 => (h9.2.1 37 _ rfl).2) (am_co_elim c19).1 (am_co_elim c19).2.1 (am_co_elim c19).2.2.1 (am_co_elim c19).2.2.2.1 (am_co_elim c19).2.2.2.2 (Nat.le_of_ble_eq_true rfl) ?_
  refine am_let_elim (P := fun g20 => am_Ev zc MX0_knowTalks 0 73 [(0, .ref 36), (1, .ref a1), (2, .int a2)] [] g20 (am_rv r)) h fun g20 h => ?_
  cases h
  exact ev_ret dX0_knowTalks_73 rfl
theorem tX0_knowTalks {a1 : Nat} {a2 : Int32} {g : am_G} {r : Unit × am_G} (h : fX0_knowTalks a1 a2 g = some r) : am_Mt zc MX0_knowTalks 0 [.ref 36, .ref a1, .int a2] g (am_rv r) := am_Mt.of rfl (Nat.le_of_ble_eq_true rfl) (eX0_knowTalks _ _ _ _ h)
def fX11_within (a0 : Int32) (a1 : Int32) (a2 : Int32) (g : am_G) : Option (Int32 × am_G) :=
  if a0 < a1 then (
    some ((0 : Int32), g))
  else (
    if a2 < a0 then (
      some ((0 : Int32), g))
    else (
      some ((1 : Int32), g)))
set_option maxRecDepth 100000 in
set_option maxHeartbeats 4000000 in
theorem eX11_within (a0 : Int32) (a1 : Int32) (a2 : Int32) (g : am_G) (r : Int32 × am_G) (h : fX11_within a0 a1 a2 g = some r) : am_Ev zc MX11_within 0 0 [(0, .int a0), (1, .int a1), (2, .int a2)] [] g (am_ri r) := by
  unfold fX11_within at h
  refine ev_iload_n 0 dX11_within_0 rfl ?_
  refine ev_iload_n 1 dX11_within_1 rfl ?_
  refine ev_icmp_lt 14 dX11_within_2 (by decide) (fun c1 => ?_) (fun c1 => ?_)
  · replace h := am_ifp c1 h
    refine ev_iconst dX11_within_14 rfl ?_
    cases h
    exact ev_zret dX11_within_15 rfl rfl
  · replace h := am_ifn c1 h
    refine ev_iload_n 0 dX11_within_5 rfl ?_
    refine ev_iload_n 2 dX11_within_6 rfl ?_
    refine ev_icmp_gt 14 dX11_within_7 (by decide) (fun c2 => ?_) (fun c2 => ?_)
    · replace h := am_ifp c2 h
      refine ev_iconst dX11_within_14 rfl ?_
      cases h
      exact ev_zret dX11_within_15 rfl rfl
    · replace h := am_ifn c2 h
      refine ev_iconst dX11_within_10 rfl ?_
      refine ev_goto 15 dX11_within_11 (by decide) ?_
      cases h
      exact ev_zret dX11_within_15 rfl rfl
theorem tX11_within {a0 : Int32} {a1 : Int32} {a2 : Int32} {g : am_G} {r : Int32 × am_G} (h : fX11_within a0 a1 a2 g = some r) : am_Mt zc MX11_within 0 [.int a0, .int a1, .int a2] g (am_ri r) := am_Mt.of rfl (Nat.le_of_ble_eq_true rfl) (eX11_within _ _ _ _ _ h)
def fX9_lawInForce (g : am_G) : Option (Option Nat × am_G) :=
  am_bd (fX11_within (am_I g 1 18) (0 : Int32) (5 : Int32) g) fun v1 g2 =>
  if v1 = 0 then (
    some (none, g2))
  else (
    am_gd (am_in (am_I g2 1 18) 6) <|
    am_oc (am_P g2 24 (am_I g2 1 18).toNatClampNeg) (fun p6 =>
      some (some p6, g2))
     (
      some (none, g2)))
set_option maxRecDepth 100000 in
set_option maxHeartbeats 4000000 in
theorem eX9_lawInForce (g : am_G) (r : Option Nat × am_G) (h : fX9_lawInForce g = some r) : am_Ev zc MX9_lawInForce 1 0 [(0, .ref 1)] [] g (am_rq r) := by
  unfold fX9_lawInForce at h
  refine ev_aload_n 0 dX9_lawInForce_0 rfl ?_
  refine ev_gf (v := .int (am_I g 1 18)) dX9_lawInForce_1 (fun h9 => (h9.2.1 1 _ rfl).2) 18 (by decide) (by decide) kF_X9_65 (fun _ => rfl) ?_
  refine ev_iconst dX9_lawInForce_4 rfl ?_
  refine ev_iconst dX9_lawInForce_5 rfl ?_
  obtain ⟨v1, g2, e3, h⟩ := am_bd_elim h
  refine ev_callSNi (v := v1) [.int (am_I g 1 18), .int (0 : Int32), .int (5 : Int32)] [] dX9_lawInForce_6 (tX11_within e3) (by decide) mo_X11_within kN_X9_103 ks_X11_within (Nat.le_of_ble_eq_true rfl) ?_
  refine ev_if_eq 24 dX9_lawInForce_9 (by decide) (fun c4 => ?_) (fun c4 => ?_)
  · replace h := am_ifp c4 h
    refine ev_null dX9_lawInForce_24 ?_
    cases h
    exact ev_aretN dX9_lawInForce_25 rfl (Or.inl ⟨_, rfl⟩)
  · replace h := am_ifn c4 h
    refine ev_aload_n 0 dX9_lawInForce_12 rfl ?_
    refine ev_gf (v := .ref 24) dX9_lawInForce_13 (fun h9 => (h9.2.1 1 _ rfl).2) 13 (by decide) (by decide) kF_X9_61 (fun h9 => congrArg va_rf (h9.2.2 1 13 24 rfl)) ?_
    refine ev_aload_n 0 dX9_lawInForce_16 rfl ?_
    refine ev_gf (v := .int (am_I g2 1 18)) dX9_lawInForce_17 (fun h9 => (h9.2.1 1 _ rfl).2) 18 (by decide) (by decide) kF_X9_65 (fun _ => rfl) ?_
    obtain ⟨c5, h⟩ := am_gd_elim h
    refine am_oc_elim h (fun p6 e7 h => ?_) (fun e7 h => ?_)
    · refine ev_aald (v := .ref p6) dX9_lawInForce_20 (fun h9 => (h9.2.1 24 _ rfl).2) (by decide) (by decide) (am_in_vp c5) (fun _ => congrArg va_rf e7) ?_
      refine ev_goto 25 dX9_lawInForce_21 (by decide) ?_
      cases h
      exact ev_aret dX9_lawInForce_25 rfl (Or.inl ⟨_, rfl⟩)
    · refine ev_aald (v := .null) dX9_lawInForce_20 (fun h9 => (h9.2.1 24 _ rfl).2) (by decide) (by decide) (am_in_vp c5) (fun _ => congrArg va_rf e7) ?_
      refine ev_goto 25 dX9_lawInForce_21 (by decide) ?_
      cases h
      exact ev_aretN dX9_lawInForce_25 rfl (Or.inl ⟨_, rfl⟩)
theorem tX9_lawInForce {g : am_G} {r : Option Nat × am_G} (h : fX9_lawInForce g = some r) : am_Mt zc MX9_lawInForce 1 [.ref 1] g (am_rq r) := am_Mt.of rfl (Nat.le_of_ble_eq_true rfl) (eX9_lawInForce _ _ h)
def fX6_kindOf (a0 : Nat) (a1 : Int32) (g : am_G) : Option (Int32 × am_G) :=
  am_gd (decide (am_S g a0 = (6, 3))) <|
  am_oc (am_P g a0 0) (fun p2 =>
  am_gd (decide ((am_S g p2).1 = 20)) <|
  am_gd (am_in ((a1 * (6 : Int32)) + (0 : Int32)) ((am_S g p2).2)) <|
  some (am_I g p2 ((a1 * (6 : Int32)) + (0 : Int32)).toNatClampNeg, g)) none
set_option maxRecDepth 100000 in
set_option maxHeartbeats 4000000 in
theorem eX6_kindOf (a0 : Nat) (a1 : Int32) (g : am_G) (r : Int32 × am_G) (h : fX6_kindOf a0 a1 g = some r) : am_Ev zc MX6_kindOf 0 0 [(0, .ref a0), (1, .int a1)] [] g (am_ri r) := by
  unfold fX6_kindOf at h
  refine ev_aload_n 0 dX6_kindOf_0 rfl ?_
  obtain ⟨c1, h⟩ := am_gd_elim h
  refine am_oc_elim h (fun p2 e3 h => ?_) (fun _ h => nomatch h)
  refine ev_gf (v := .ref p2) dX6_kindOf_1 (fun _ => am_sh c1) 0 (by decide) (by decide) kF_X6_7 (fun _ => congrArg va_rf e3) ?_
  refine ev_iload_n 1 dX6_kindOf_4 rfl ?_
  refine ev_bipush dX6_kindOf_5 rfl ?_
  refine ev_imul dX6_kindOf_7 ?_
  refine ev_iconst dX6_kindOf_8 rfl ?_
  refine ev_iadd dX6_kindOf_9 ?_
  obtain ⟨c4, h⟩ := am_gd_elim h
  obtain ⟨c5, h⟩ := am_gd_elim h
  refine ev_iald dX6_kindOf_10 (fun _ => am_shk c4) (am_in_vp c5) ?_
  cases h
  exact ev_iret dX6_kindOf_11 rfl
theorem tX6_kindOf {a0 : Nat} {a1 : Int32} {g : am_G} {r : Int32 × am_G} (h : fX6_kindOf a0 a1 g = some r) : am_Mt zc MX6_kindOf 0 [.ref a0, .int a1] g (am_ri r) := am_Mt.of rfl (Nat.le_of_ble_eq_true rfl) (eX6_kindOf _ _ _ _ h)
def fX6_testOf (a0 : Nat) (a1 : Int32) (g : am_G) : Option (Int32 × am_G) :=
  am_gd (decide (am_S g a0 = (6, 3))) <|
  am_oc (am_P g a0 0) (fun p2 =>
  am_gd (decide ((am_S g p2).1 = 20)) <|
  am_gd (am_in ((a1 * (6 : Int32)) + (4 : Int32)) ((am_S g p2).2)) <|
  some (am_I g p2 ((a1 * (6 : Int32)) + (4 : Int32)).toNatClampNeg, g)) none
set_option maxRecDepth 100000 in
set_option maxHeartbeats 4000000 in
theorem eX6_testOf (a0 : Nat) (a1 : Int32) (g : am_G) (r : Int32 × am_G) (h : fX6_testOf a0 a1 g = some r) : am_Ev zc MX6_testOf 0 0 [(0, .ref a0), (1, .int a1)] [] g (am_ri r) := by
  unfold fX6_testOf at h
  refine ev_aload_n 0 dX6_testOf_0 rfl ?_
  obtain ⟨c1, h⟩ := am_gd_elim h
  refine am_oc_elim h (fun p2 e3 h => ?_) (fun _ h => nomatch h)
  refine ev_gf (v := .ref p2) dX6_testOf_1 (fun _ => am_sh c1) 0 (by decide) (by decide) kF_X6_7 (fun _ => congrArg va_rf e3) ?_
  refine ev_iload_n 1 dX6_testOf_4 rfl ?_
  refine ev_bipush dX6_testOf_5 rfl ?_
  refine ev_imul dX6_testOf_7 ?_
  refine ev_iconst dX6_testOf_8 rfl ?_
  refine ev_iadd dX6_testOf_9 ?_
  obtain ⟨c4, h⟩ := am_gd_elim h
  obtain ⟨c5, h⟩ := am_gd_elim h
  refine ev_iald dX6_testOf_10 (fun _ => am_shk c4) (am_in_vp c5) ?_
  cases h
  exact ev_iret dX6_testOf_11 rfl
theorem tX6_testOf {a0 : Nat} {a1 : Int32} {g : am_G} {r : Int32 × am_G} (h : fX6_testOf a0 a1 g = some r) : am_Mt zc MX6_testOf 0 [.ref a0, .int a1] g (am_ri r) := am_Mt.of rfl (Nat.le_of_ble_eq_true rfl) (eX6_testOf _ _ _ _ h)
def fX0_joined (a0 : Int32) (a1 : Int64) (a3 : Int64) (g : am_G) : Option (Int32 × am_G) :=
  am_jn (fun  (g2 : am_G) =>
    am_jn (fun (y4 : Int64) (g5 : am_G) =>
      if 0 < (lg_cmp y4 (1000000000 : Int64)) then (
        some ((-2147483648 : Int32), g5))
      else (
        if 0 ≤ (lg_cmp y4 (-1000000000 : Int64)) then (
          some (y4.toInt32, g5))
        else (
          some ((-2147483648 : Int32), g5)))) fun j6 =>
    if a0 = (6 : Int32) then (
      am_let (a1 + a3) fun y9 =>
      j6 y9 g2)
    else
    if a0 = (7 : Int32) then (
      am_let (a1 - a3) fun y10 =>
      j6 y10 g2)
    else
    if a0 = (8 : Int32) then (
      am_let (a1 * a3) fun y11 =>
      j6 y11 g2)
    else
    if a0 = (9 : Int32) then (
      am_gd (!decide (a3 = 0)) <|
      am_let (a1 / a3) fun y13 =>
      j6 y13 g2)
    else
    if a0 = (10 : Int32) then (
      am_gd (!decide (a3 = 0)) <|
      am_let (a1 - a1 / a3 * a3) fun y15 =>
      j6 y15 g2)
    else
    if a0 = (11 : Int32) then (
      am_jn (fun (y17 : Int64) (g18 : am_G) =>
        j6 y17 g18) fun j19 =>
      if 0 ≤ (lg_cmp a1 a3) then (
        j19 (0 : Int64) g2)
      else (
        j19 (1 : Int64) g2))
    else
    if a0 = (12 : Int32) then (
      am_jn (fun (y21 : Int64) (g22 : am_G) =>
        j6 y21 g22) fun j23 =>
      if (lg_cmp a1 a3) ≤ 0 then (
        j23 (0 : Int64) g2)
      else (
        j23 (1 : Int64) g2))
    else (
      am_jn (fun (y25 : Int64) (g26 : am_G) =>
        j6 y25 g26) fun j27 =>
      if (lg_cmp a1 a3) = 0 then (
        j27 (1 : Int64) g2)
      else (
        j27 (0 : Int64) g2))) fun j3 =>
  if (lg_cmp a3 (0 : Int64)) = 0 then (
    if a0 = (9 : Int32) then (
      some ((-2147483648 : Int32), g))
    else (
      if a0 = (10 : Int32) then (
        some ((-2147483648 : Int32), g))
      else (
        j3 g)))
  else (
    j3 g)
set_option maxRecDepth 100000 in
set_option maxHeartbeats 4000000 in
theorem eX0_joined (a0 : Int32) (a1 : Int64) (a3 : Int64) (g : am_G) (r : Int32 × am_G) (h : fX0_joined a0 a1 a3 g = some r) : am_Ev zc MX0_joined 0 0 [(0, .int a0), (1, .long a1), (3, .long a3)] [] g (am_ri r) := by
  unfold fX0_joined at h
  refine ev_lload_n 2 dX0_joined_0 rfl ?_
  refine ev_lconst dX0_joined_1 rfl ?_
  refine ev_lcmp dX0_joined_2 ?_
  refine am_jn_elim (fun q9 => ∀  (g2 : am_G) (r : Int32 × am_G), q9  g2 = some r → am_Ev zc MX0_joined 0 21 [(0, .int a0), (1, .long a1), (3, .long a3)] [] g2 (am_ri r)) h ?_ (fun j3 hj3 h => ?_)
  · intro  g2 r h
    try dsimp only at h
    refine ev_iload_n 0 dX0_joined_21 rfl ?_
    refine am_jn_elim (fun q9 => ∀ (y4 : Int64) (g5 : am_G) (r : Int32 × am_G), q9 y4 g5 = some r → am_Ev zc MX0_joined 0 149 [(5, .long y4)] [] g5 (am_ri r)) h ?_ (fun j6 hj6 h => ?_)
    · intro y4 g5 r h
      try dsimp only at h
      refine ev_lload 0 dX0_joined_149 rfl ?_
      refine ev_ldc2 dX0_joined_151 kL_X0_109 ?_
      refine ev_lcmp dX0_joined_154 ?_
      refine ev_if_gt 167 dX0_joined_155 (by decide) (fun c7 => ?_) (fun c7 => ?_)
      · replace h := am_ifp c7 h
        refine ev_ldc dX0_joined_167 kI_X0_69 ?_
        refine ev_goto 175 dX0_joined_169 (by decide) ?_
        cases h
        exact ev_iret dX0_joined_175 rfl
      · replace h := am_ifn c7 h
        refine ev_lload 0 dX0_joined_158 rfl ?_
        refine ev_ldc2 dX0_joined_160 kL_X0_111 ?_
        refine ev_lcmp dX0_joined_163 ?_
        refine ev_if_ge 172 dX0_joined_164 (by decide) (fun c8 => ?_) (fun c8 => ?_)
        · replace h := am_ifp c8 h
          refine ev_lload 0 dX0_joined_172 rfl ?_
          refine ev_l2i dX0_joined_174 ?_
          cases h
          exact ev_iret dX0_joined_175 rfl
        · replace h := am_ifn c8 h
          refine ev_ldc dX0_joined_167 kI_X0_69 ?_
          refine ev_goto 175 dX0_joined_169 (by decide) ?_
          cases h
          exact ev_iret dX0_joined_175 rfl
    · by_cases c30 : a0 = (6 : Int32)
      · replace h := am_ifp c30 h
        refine ev_tableIn 64 dX0_joined_22 (by rw [c30]; decide) (by rw [c30]; decide) (by rw [c30]; rfl) (by decide) ?_
        refine ev_lload_n 1 dX0_joined_64 rfl ?_
        refine ev_lload_n 2 dX0_joined_65 rfl ?_
        refine ev_ladd dX0_joined_66 ?_
        refine am_let_elim (P := fun y9 => am_Ev zc MX0_joined 0 67 [(0, .int a0), (1, .long a1), (3, .long a3)] [.long y9] g2 (am_ri r)) h fun y9 h => ?_
        refine ev_lstore (ls' := [(5, .long y9), (0, .int a0), (1, .long a1), (3, .long a3)]) dX0_joined_67 (by decide) rfl ?_
        refine ev_goto 149 dX0_joined_69 (by decide) ?_
        refine ev_sub [0] rfl ?_
        exact hj6 _ _ _ h
      replace h := am_ifn c30 h
      by_cases c31 : a0 = (7 : Int32)
      · replace h := am_ifp c31 h
        refine ev_tableIn 72 dX0_joined_22 (by rw [c31]; decide) (by rw [c31]; decide) (by rw [c31]; rfl) (by decide) ?_
        refine ev_lload_n 1 dX0_joined_72 rfl ?_
        refine ev_lload_n 2 dX0_joined_73 rfl ?_
        refine ev_lsub dX0_joined_74 ?_
        refine am_let_elim (P := fun y10 => am_Ev zc MX0_joined 0 75 [(0, .int a0), (1, .long a1), (3, .long a3)] [.long y10] g2 (am_ri r)) h fun y10 h => ?_
        refine ev_lstore (ls' := [(5, .long y10), (0, .int a0), (1, .long a1), (3, .long a3)]) dX0_joined_75 (by decide) rfl ?_
        refine ev_goto 149 dX0_joined_77 (by decide) ?_
        refine ev_sub [0] rfl ?_
        exact hj6 _ _ _ h
      replace h := am_ifn c31 h
      by_cases c32 : a0 = (8 : Int32)
      · replace h := am_ifp c32 h
        refine ev_tableIn 80 dX0_joined_22 (by rw [c32]; decide) (by rw [c32]; decide) (by rw [c32]; rfl) (by decide) ?_
        refine ev_lload_n 1 dX0_joined_80 rfl ?_
        refine ev_lload_n 2 dX0_joined_81 rfl ?_
        refine ev_lmul dX0_joined_82 ?_
        refine am_let_elim (P := fun y11 => am_Ev zc MX0_joined 0 83 [(0, .int a0), (1, .long a1), (3, .long a3)] [.long y11] g2 (am_ri r)) h fun y11 h => ?_
        refine ev_lstore (ls' := [(5, .long y11), (0, .int a0), (1, .long a1), (3, .long a3)]) dX0_joined_83 (by decide) rfl ?_
        refine ev_goto 149 dX0_joined_85 (by decide) ?_
        refine ev_sub [0] rfl ?_
        exact hj6 _ _ _ h
      replace h := am_ifn c32 h
      by_cases c33 : a0 = (9 : Int32)
      · replace h := am_ifp c33 h
        refine ev_tableIn 88 dX0_joined_22 (by rw [c33]; decide) (by rw [c33]; decide) (by rw [c33]; rfl) (by decide) ?_
        refine ev_lload_n 1 dX0_joined_88 rfl ?_
        refine ev_lload_n 2 dX0_joined_89 rfl ?_
        obtain ⟨c12, h⟩ := am_gd_elim h
        refine ev_ldiv dX0_joined_90 (by simpa using c12) ?_
        refine am_let_elim (P := fun y13 => am_Ev zc MX0_joined 0 91 [(0, .int a0), (1, .long a1), (3, .long a3)] [.long y13] g2 (am_ri r)) h fun y13 h => ?_
        refine ev_lstore (ls' := [(5, .long y13), (0, .int a0), (1, .long a1), (3, .long a3)]) dX0_joined_91 (by decide) rfl ?_
        refine ev_goto 149 dX0_joined_93 (by decide) ?_
        refine ev_sub [0] rfl ?_
        exact hj6 _ _ _ h
      replace h := am_ifn c33 h
      by_cases c34 : a0 = (10 : Int32)
      · replace h := am_ifp c34 h
        refine ev_tableIn 96 dX0_joined_22 (by rw [c34]; decide) (by rw [c34]; decide) (by rw [c34]; rfl) (by decide) ?_
        refine ev_lload_n 1 dX0_joined_96 rfl ?_
        refine ev_lload_n 2 dX0_joined_97 rfl ?_
        obtain ⟨c14, h⟩ := am_gd_elim h
        refine ev_lrem dX0_joined_98 (by simpa using c14) ?_
        refine am_let_elim (P := fun y15 => am_Ev zc MX0_joined 0 99 [(0, .int a0), (1, .long a1), (3, .long a3)] [.long y15] g2 (am_ri r)) h fun y15 h => ?_
        refine ev_lstore (ls' := [(5, .long y15), (0, .int a0), (1, .long a1), (3, .long a3)]) dX0_joined_99 (by decide) rfl ?_
        refine ev_goto 149 dX0_joined_101 (by decide) ?_
        refine ev_sub [0] rfl ?_
        exact hj6 _ _ _ h
      replace h := am_ifn c34 h
      by_cases c35 : a0 = (11 : Int32)
      · replace h := am_ifp c35 h
        refine ev_tableIn 104 dX0_joined_22 (by rw [c35]; decide) (by rw [c35]; decide) (by rw [c35]; rfl) (by decide) ?_
        refine ev_lload_n 1 dX0_joined_104 rfl ?_
        refine ev_lload_n 2 dX0_joined_105 rfl ?_
        refine ev_lcmp dX0_joined_106 ?_
        refine am_jn_elim (fun q9 => ∀ (y17 : Int64) (g18 : am_G) (r : Int32 × am_G), q9 y17 g18 = some r → am_Ev zc MX0_joined 0 115 [] [.long y17] g18 (am_ri r)) h ?_ (fun j19 hj19 h => ?_)
        · intro y17 g18 r h
          try dsimp only at h
          refine ev_lstore (ls' := [(5, .long y17)]) dX0_joined_115 (by decide) rfl ?_
          refine ev_goto 149 dX0_joined_117 (by decide) ?_
          refine ev_sub [0] rfl ?_
          exact hj6 _ _ _ h
        · refine ev_if_ge 114 dX0_joined_107 (by decide) (fun c16 => ?_) (fun c16 => ?_)
          · replace h := am_ifp c16 h
            refine ev_lconst dX0_joined_114 rfl ?_
            refine ev_sub [] rfl ?_
            exact hj19 _ _ _ h
          · replace h := am_ifn c16 h
            refine ev_lconst dX0_joined_110 rfl ?_
            refine ev_goto 115 dX0_joined_111 (by decide) ?_
            refine ev_sub [] rfl ?_
            exact hj19 _ _ _ h
      replace h := am_ifn c35 h
      by_cases c36 : a0 = (12 : Int32)
      · replace h := am_ifp c36 h
        refine ev_tableIn 120 dX0_joined_22 (by rw [c36]; decide) (by rw [c36]; decide) (by rw [c36]; rfl) (by decide) ?_
        refine ev_lload_n 1 dX0_joined_120 rfl ?_
        refine ev_lload_n 2 dX0_joined_121 rfl ?_
        refine ev_lcmp dX0_joined_122 ?_
        refine am_jn_elim (fun q9 => ∀ (y21 : Int64) (g22 : am_G) (r : Int32 × am_G), q9 y21 g22 = some r → am_Ev zc MX0_joined 0 131 [] [.long y21] g22 (am_ri r)) h ?_ (fun j23 hj23 h => ?_)
        · intro y21 g22 r h
          try dsimp only at h
          refine ev_lstore (ls' := [(5, .long y21)]) dX0_joined_131 (by decide) rfl ?_
          refine ev_goto 149 dX0_joined_133 (by decide) ?_
          refine ev_sub [0] rfl ?_
          exact hj6 _ _ _ h
        · refine ev_if_le 130 dX0_joined_123 (by decide) (fun c20 => ?_) (fun c20 => ?_)
          · replace h := am_ifp c20 h
            refine ev_lconst dX0_joined_130 rfl ?_
            refine ev_sub [] rfl ?_
            exact hj23 _ _ _ h
          · replace h := am_ifn c20 h
            refine ev_lconst dX0_joined_126 rfl ?_
            refine ev_goto 131 dX0_joined_127 (by decide) ?_
            refine ev_sub [] rfl ?_
            exact hj23 _ _ _ h
      replace h := am_ifn c36 h
      refine ev_tableOut 136 dX0_joined_22 (by have z0 := am_ti c30 (k := 6) (by decide); have z1 := am_ti c31 (k := 7) (by decide); have z2 := am_ti c32 (k := 8) (by decide); have z3 := am_ti c33 (k := 9) (by decide); have z4 := am_ti c34 (k := 10) (by decide); have z5 := am_ti c35 (k := 11) (by decide); have z6 := am_ti c36 (k := 12) (by decide); omega) (by decide) ?_
      refine ev_lload_n 1 dX0_joined_136 rfl ?_
      refine ev_lload_n 2 dX0_joined_137 rfl ?_
      refine ev_lcmp dX0_joined_138 ?_
      refine am_jn_elim (fun q9 => ∀ (y25 : Int64) (g26 : am_G) (r : Int32 × am_G), q9 y25 g26 = some r → am_Ev zc MX0_joined 0 147 [] [.long y25] g26 (am_ri r)) h ?_ (fun j27 hj27 h => ?_)
      · intro y25 g26 r h
        try dsimp only at h
        refine ev_lstore (ls' := [(5, .long y25)]) dX0_joined_147 (by decide) rfl ?_
        refine ev_sub [0] rfl ?_
        exact hj6 _ _ _ h
      · refine ev_if_ne 146 dX0_joined_139 (by decide) (fun c24 => ?_) (fun c24 => ?_)
        · replace h := am_ifn c24 h
          refine ev_lconst dX0_joined_146 rfl ?_
          refine ev_sub [] rfl ?_
          exact hj27 _ _ _ h
        · replace h := am_ifp c24 h
          refine ev_lconst dX0_joined_142 rfl ?_
          refine ev_goto 147 dX0_joined_143 (by decide) ?_
          refine ev_sub [] rfl ?_
          exact hj27 _ _ _ h
  · refine ev_if_ne 21 dX0_joined_3 (by decide) (fun c1 => ?_) (fun c1 => ?_)
    · replace h := am_ifn c1 h
      refine ev_sub [0, 1, 2] rfl ?_
      exact hj3  _ _ h
    · replace h := am_ifp c1 h
      refine ev_iload_n 0 dX0_joined_6 rfl ?_
      refine ev_bipush dX0_joined_7 rfl ?_
      refine ev_icmp_eq 18 dX0_joined_9 (by decide) (fun c28 => ?_) (fun c28 => ?_)
      · replace h := am_ifp c28 h
        refine ev_ldc dX0_joined_18 kI_X0_69 ?_
        cases h
        exact ev_iret dX0_joined_20 rfl
      · replace h := am_ifn c28 h
        refine ev_iload_n 0 dX0_joined_12 rfl ?_
        refine ev_bipush dX0_joined_13 rfl ?_
        refine ev_icmp_ne 21 dX0_joined_15 (by decide) (fun c29 => ?_) (fun c29 => ?_)
        · replace h := am_ifn c29 h
          refine ev_sub [0, 1, 2] rfl ?_
          exact hj3  _ _ h
        · replace h := am_ifp c29 h
          refine ev_ldc dX0_joined_18 kI_X0_69 ?_
          cases h
          exact ev_iret dX0_joined_20 rfl
theorem tX0_joined {a0 : Int32} {a1 : Int64} {a3 : Int64} {g : am_G} {r : Int32 × am_G} (h : fX0_joined a0 a1 a3 g = some r) : am_Mt zc MX0_joined 0 [.int a0, .long a1, .long a3] g (am_ri r) := am_Mt.of rfl (Nat.le_of_ble_eq_true rfl) (eX0_joined _ _ _ _ _ h)
def fX0_value_L8 (k : Int32 → am_G → Option (Int32 × am_G)) (a1 : Nat) : Nat → Int32 → Int32 → Int32 → am_G → Option (Int32 × am_G)
  | 0, _, _, _, _ => none
  | n + 1, x1, x2, x3, g4 =>
    if (512 : Int32) ≤ x3 then (
      k x1 g4)
    else (
      if x2 < 0 then (
        k x1 g4)
      else (
        am_gd (decide ((am_S g4 a1).1 = 20)) <|
        if (Int32.ofNat ((am_S g4 a1).2)) ≤ x2 then (
          k x1 g4)
        else (
          am_gd (decide ((am_S g4 a1).1 = 20)) <|
          am_gd (am_in x2 ((am_S g4 a1).2)) <|
          am_let ((am_I g4 a1 x2.toNatClampNeg) >>> ((10 : Int32) &&& 31)) fun x13 =>
          am_gd (decide ((am_S g4 a1).1 = 20)) <|
          am_gd (am_in x2 ((am_S g4 a1).2)) <|
          am_let ((am_I g4 a1 x2.toNatClampNeg) &&& (1023 : Int32)) fun x16 =>
          am_let (x2 + (1 : Int32)) fun x17 =>
          if x13 = 0 then (
            k x1 g4)
          else (
            am_jn (fun (x20 : Int32) (x21 : Int32) (g22 : am_G) =>
              am_let (x3 + (1 : Int32)) fun x24 =>
              fX0_value_L8 k a1 n x20 x21 x24 g22) fun j23 =>
            am_jn (fun  (g25 : am_G) =>
              if (50 : Int32) ≤ x1 then (
                some ((-2147483648 : Int32), g25))
              else (
                am_jn (fun  (g29 : am_G) =>
                  am_jn (fun (x32 : Int32) (g33 : am_G) =>
                    am_gd (am_in x1 50) <|
                    am_let (am_si g33 38 x1.toNatClampNeg x32) fun g36 =>
                    am_let (x1 + (1 : Int32)) fun x37 =>
                    j23 x37 x17 g36) fun j34 =>
                  if x13 = (1 : Int32) then (
                    j34 x16 g29)
                  else (
                    am_gd (am_in x16 40) <|
                    j34 (am_I g29 37 x16.toNatClampNeg) g29)) fun j30 =>
                if x13 = (2 : Int32) then (
                  if x16 < (40 : Int32) then (
                    j30 g25)
                  else (
                    some ((-2147483648 : Int32), g25)))
                else (
                  j30 g25))) fun j26 =>
            if x13 = (1 : Int32) then (
              j26 g4)
            else (
              if x13 = (2 : Int32) then (
                j26 g4)
              else (
                if (1 : Int32) ≤ x1 then (
                  if x13 = (3 : Int32) then (
                    am_gd (am_in (x1 - (1 : Int32)) 50) <|
                    am_gd (am_in (x1 - (1 : Int32)) 50) <|
                    am_let (am_si g4 38 (x1 - (1 : Int32)).toNatClampNeg ((1 : Int32) - (am_I g4 38 (x1 - (1 : Int32)).toNatClampNeg))) fun g69 =>
                    j23 x1 x17 g69)
                  else (
                    am_jn (fun  (g44 : am_G) =>
                      am_gd (am_in (x1 - (1 : Int32)) 50) <|
                      am_jn (fun (x48 : Int32) (g49 : am_G) =>
                        if (am_I g44 38 (x1 - (1 : Int32)).toNatClampNeg) = x48 then (
                          j23 x1 x16 g49)
                        else (
                          am_let (x1 + (-1 : Int32)) fun x52 =>
                          j23 x52 x17 g49)) fun j50 =>
                      if x13 = (5 : Int32) then (
                        j50 (1 : Int32) g44)
                      else (
                        j50 (0 : Int32) g44)) fun j45 =>
                    if x13 = (4 : Int32) then (
                      j45 g4)
                    else (
                      if x13 = (5 : Int32) then (
                        j45 g4)
                      else (
                        am_let (x1 + (-1 : Int32)) fun x54 =>
                        am_jn (fun (x56 : Int32) (g57 : am_G) =>
                          if x56 = (-2147483648 : Int32) then (
                            some ((-2147483648 : Int32), g57))
                          else (
                            am_gd (am_in (x54 - (1 : Int32)) 50) <|
                            am_let (am_si g57 38 (x54 - (1 : Int32)).toNatClampNeg x56) fun g61 =>
                            j23 x54 x17 g61)) fun j58 =>
                        if (1 : Int32) ≤ x54 then (
                          am_gd (am_in (x54 - (1 : Int32)) 50) <|
                          am_gd (am_in x54 50) <|
                          am_bd (fX0_joined x13 ((am_I g4 38 (x54 - (1 : Int32)).toNatClampNeg).toInt64) ((am_I g4 38 x54.toNatClampNeg).toInt64) g4) fun v64 g65 =>
                          j58 v64 g65)
                        else (
                          j58 (-2147483648 : Int32) g4)))))
                else (
                  some ((-2147483648 : Int32), g4))))))))
def fX0_value (a1 : Nat) (a2 : Int32) (g : am_G) : Option (Int32 × am_G) :=
  fX0_value_L8 (fun (x70 : Int32) (g71 : am_G) =>
    if x70 ≤ 0 then (
      some ((-2147483648 : Int32), g71))
    else (
      am_gd (am_in (0 : Int32) 50) <|
      some (am_I g71 38 (0 : Int32).toNatClampNeg, g71))) a1 am_fu (0 : Int32) a2 (0 : Int32) g
set_option maxRecDepth 100000 in
set_option maxHeartbeats 4000000 in
theorem tfX0_value_L8  {k : Int32 → am_G → Option (Int32 × am_G)} (a1 : Nat) (hk : ∀ (x5 : Int32) (g6 : am_G) (r : Int32 × am_G), k x5 g6 = some r → am_Ev zc MX0_value 1 266 [(0, .ref 36), (3, .int x5)] [] g6 (am_ri r)) : ∀ (n : Nat) (x1 : Int32) (x2 : Int32) (x3 : Int32) (g4 : am_G) (r : Int32 × am_G), fX0_value_L8 k a1 n x1 x2 x3 g4 = some r → am_Ev zc MX0_value 1 8 [(0, .ref 36), (1, .ref a1), (3, .int x1), (4, .int x2), (5, .int x3)] [] g4 (am_ri r) := by
  intro n
  induction n with
  | zero => intro x1 x2 x3 g4 r h; exact nomatch (show (none : Option (Int32 × am_G)) = some r from h)
  | succ n ih =>
    intro x1 x2 x3 g4 r h
    rw [fX0_value_L8] at h
    refine ev_iload 4 dX0_value_8 rfl ?_
    refine ev_sipush dX0_value_10 rfl ?_
    refine ev_icmp_ge 266 dX0_value_13 (by decide) (fun c7 => ?_) (fun c7 => ?_)
    · replace h := am_ifp c7 h
      refine ev_sub [0, 2] rfl ?_
      exact hk _ _ _ h
    · replace h := am_ifn c7 h
      refine ev_iload 3 dX0_value_16 rfl ?_
      refine ev_if_lt 266 dX0_value_18 (by decide) (fun c8 => ?_) (fun c8 => ?_)
      · replace h := am_ifp c8 h
        refine ev_sub [0, 2] rfl ?_
        exact hk _ _ _ h
      · replace h := am_ifn c8 h
        refine ev_iload 3 dX0_value_21 rfl ?_
        refine ev_aload_n 1 dX0_value_23 rfl ?_
        obtain ⟨c9, h⟩ := am_gd_elim h
        refine ev_alen dX0_value_24 (fun _ => am_shk c9) ?_
        refine ev_icmp_ge 266 dX0_value_25 (by decide) (fun c10 => ?_) (fun c10 => ?_)
        · replace h := am_ifp c10 h
          refine ev_sub [0, 2] rfl ?_
          exact hk _ _ _ h
        · replace h := am_ifn c10 h
          refine ev_aload_n 1 dX0_value_28 rfl ?_
          refine ev_iload 3 dX0_value_29 rfl ?_
          obtain ⟨c11, h⟩ := am_gd_elim h
          obtain ⟨c12, h⟩ := am_gd_elim h
          refine ev_iald dX0_value_31 (fun _ => am_shk c11) (am_in_vp c12) ?_
          refine ev_bipush dX0_value_32 rfl ?_
          refine ev_ishr dX0_value_34 ?_
          refine am_let_elim (P := fun x13 => am_Ev zc MX0_value 1 35 [(0, .ref 36), (1, .ref a1), (3, .int x1), (4, .int x2), (5, .int x3)] [.int x13] g4 (am_ri r)) h fun x13 h => ?_
          refine ev_istore (ls' := [(6, .int x13), (0, .ref 36), (1, .ref a1), (3, .int x1), (4, .int x2), (5, .int x3)]) dX0_value_35 (by decide) rfl ?_
          refine ev_aload_n 2 dX0_value_37 rfl ?_
          refine ev_iload 4 dX0_value_38 rfl ?_
          obtain ⟨c14, h⟩ := am_gd_elim h
          obtain ⟨c15, h⟩ := am_gd_elim h
          refine ev_iald dX0_value_40 (fun _ => am_shk c14) (am_in_vp c15) ?_
          refine ev_sipush dX0_value_41 rfl ?_
          refine ev_iand dX0_value_44 ?_
          refine am_let_elim (P := fun x16 => am_Ev zc MX0_value 1 45 [(6, .int x13), (0, .ref 36), (1, .ref a1), (3, .int x1), (4, .int x2), (5, .int x3)] [.int x16] g4 (am_ri r)) h fun x16 h => ?_
          refine ev_istore (ls' := [(7, .int x16), (6, .int x13), (0, .ref 36), (1, .ref a1), (3, .int x1), (4, .int x2), (5, .int x3)]) dX0_value_45 (by decide) rfl ?_
          obtain ⟨x17, ex17, h⟩ := am_let_ex h
          refine ev_iinc (ls' := [(4, .int x17), (7, .int x16), (6, .int x13), (0, .ref 36), (1, .ref a1), (3, .int x1), (5, .int x3)]) 5 dX0_value_47 rfl ex17 (by decide) rfl ?_
          refine ev_iload 2 dX0_value_50 rfl ?_
          refine ev_if_ne 58 dX0_value_52 (by decide) (fun c18 => ?_) (fun c18 => ?_)
          · replace h := am_ifn c18 h
            refine ev_iload 2 dX0_value_58 rfl ?_
            refine ev_iconst dX0_value_60 rfl ?_
            refine am_jn_elim (fun q9 => ∀ (x20 : Int32) (x21 : Int32) (g22 : am_G) (r : Int32 × am_G), q9 x20 x21 g22 = some r → am_Ev zc MX0_value 1 260 [(0, .ref 36), (1, .ref a1), (3, .int x20), (4, .int x21), (5, .int x3)] [] g22 (am_ri r)) h ?_ (fun j23 hj23 h => ?_)
            · intro x20 x21 g22 r h
              try dsimp only at h
              obtain ⟨x24, ex24, h⟩ := am_let_ex h
              refine ev_iinc (ls' := [(5, .int x24), (0, .ref 36), (1, .ref a1), (3, .int x20), (4, .int x21)]) 4 dX0_value_260 rfl ex24 (by decide) rfl ?_
              refine ev_goto 8 dX0_value_263 (by decide) ?_
              refine ev_sub [1, 2, 3, 4, 0] rfl ?_
              exact ih _ _ _ _ _ h
            · refine am_jn_elim (fun q9 => ∀  (g25 : am_G) (r : Int32 × am_G), q9  g25 = some r → am_Ev zc MX0_value 1 70 [(0, .ref 36), (1, .ref a1), (3, .int x1), (4, .int x17), (5, .int x3), (6, .int x13), (7, .int x16)] [] g25 (am_ri r)) h ?_ (fun j26 hj26 h => ?_)
              · intro  g25 r h
                try dsimp only at h
                refine ev_iload_n 2 dX0_value_70 rfl ?_
                refine ev_bipush dX0_value_71 rfl ?_
                refine ev_icmp_ge 89 dX0_value_73 (by decide) (fun c27 => ?_) (fun c27 => ?_)
                · replace h := am_ifp c27 h
                  refine ev_ldc dX0_value_89 kI_X0_69 ?_
                  cases h
                  exact ev_iret dX0_value_91 rfl
                · replace h := am_ifn c27 h
                  refine ev_iload 5 dX0_value_76 rfl ?_
                  refine ev_iconst dX0_value_78 rfl ?_
                  refine am_jn_elim (fun q9 => ∀  (g29 : am_G) (r : Int32 × am_G), q9  g29 = some r → am_Ev zc MX0_value 1 92 [(0, .ref 36), (1, .ref a1), (3, .int x1), (4, .int x17), (5, .int x3), (6, .int x13), (7, .int x16)] [] g29 (am_ri r)) h ?_ (fun j30 hj30 h => ?_)
                  · intro  g29 r h
                    try dsimp only at h
                    refine ev_aload_n 0 dX0_value_92 rfl ?_
                    refine ev_gf (v := .ref 38) dX0_value_93 (fun h9 => (h9.2.1 36 _ rfl).2) 2 (by decide) (by decide) kF_X0_15 (fun h9 => congrArg va_rf (h9.2.2 36 2 38 rfl)) ?_
                    refine ev_iload_n 2 dX0_value_96 rfl ?_
                    refine ev_iload 5 dX0_value_97 rfl ?_
                    refine ev_iconst dX0_value_99 rfl ?_
                    refine am_jn_elim (fun q9 => ∀ (x32 : Int32) (g33 : am_G) (r : Int32 × am_G), q9 x32 g33 = some r → am_Ev zc MX0_value 1 115 [(0, .ref 36), (1, .ref a1), (3, .int x1), (4, .int x17), (5, .int x3)] [.int x32, .int x1, .ref 38] g33 (am_ri r)) h ?_ (fun j34 hj34 h => ?_)
                    · intro x32 g33 r h
                      try dsimp only at h
                      obtain ⟨c35, h⟩ := am_gd_elim h
                      refine ev_iast dX0_value_115 (fun h9 => (h9.2.1 38 _ rfl).2) (am_in_vp c35) ?_
                      refine am_let_elim (P := fun g36 => am_Ev zc MX0_value 1 116 [(0, .ref 36), (1, .ref a1), (3, .int x1), (4, .int x17), (5, .int x3)] [] g36 (am_ri r)) h fun g36 h => ?_
                      obtain ⟨x37, ex37, h⟩ := am_let_ex h
                      refine ev_iinc (ls' := [(3, .int x37), (0, .ref 36), (1, .ref a1), (4, .int x17), (5, .int x3)]) 2 dX0_value_116 rfl ex37 (by decide) rfl ?_
                      refine ev_goto 260 dX0_value_119 (by decide) ?_
                      refine ev_sub [1, 2, 0, 3, 4] rfl ?_
                      exact hj23 _ _ _ _ h
                    · refine ev_icmp_ne 108 dX0_value_100 (by decide) (fun c31 => ?_) (fun c31 => ?_)
                      · replace h := am_ifn c31 h
                        refine ev_aload_n 0 dX0_value_108 rfl ?_
                        refine ev_gf (v := .ref 37) dX0_value_109 (fun h9 => (h9.2.1 36 _ rfl).2) 1 (by decide) (by decide) kF_X0_9 (fun h9 => congrArg va_rf (h9.2.2 36 1 37 rfl)) ?_
                        refine ev_iload 6 dX0_value_112 rfl ?_
                        obtain ⟨c38, h⟩ := am_gd_elim h
                        refine ev_iald dX0_value_114 (fun h9 => (h9.2.1 37 _ rfl).2) (am_in_vp c38) ?_
                        refine ev_sub [0, 1, 2, 3, 4] rfl ?_
                        exact hj34 _ _ _ h
                      · replace h := am_ifp c31 h
                        refine ev_iload 6 dX0_value_103 rfl ?_
                        refine ev_goto 115 dX0_value_105 (by decide) ?_
                        refine ev_sub [0, 1, 2, 3, 4] rfl ?_
                        exact hj34 _ _ _ h
                  · refine ev_icmp_ne 92 dX0_value_79 (by decide) (fun c28 => ?_) (fun c28 => ?_)
                    · replace h := am_ifn c28 h
                      refine ev_sub [0, 1, 2, 3, 4, 5, 6] rfl ?_
                      exact hj30  _ _ h
                    · replace h := am_ifp c28 h
                      refine ev_iload 6 dX0_value_82 rfl ?_
                      refine ev_bipush dX0_value_84 rfl ?_
                      refine ev_icmp_lt 92 dX0_value_86 (by decide) (fun c39 => ?_) (fun c39 => ?_)
                      · replace h := am_ifp c39 h
                        refine ev_sub [0, 1, 2, 3, 4, 5, 6] rfl ?_
                        exact hj30  _ _ h
                      · replace h := am_ifn c39 h
                        refine ev_ldc dX0_value_89 kI_X0_69 ?_
                        cases h
                        exact ev_iret dX0_value_91 rfl
              · refine ev_icmp_eq 70 dX0_value_61 (by decide) (fun c19 => ?_) (fun c19 => ?_)
                · replace h := am_ifp c19 h
                  refine ev_sub [3, 4, 5, 0, 6, 2, 1] rfl ?_
                  exact hj26  _ _ h
                · replace h := am_ifn c19 h
                  refine ev_iload 2 dX0_value_64 rfl ?_
                  refine ev_iconst dX0_value_66 rfl ?_
                  refine ev_icmp_ne 122 dX0_value_67 (by decide) (fun c40 => ?_) (fun c40 => ?_)
                  · replace h := am_ifn c40 h
                    refine ev_iload_n 5 dX0_value_122 rfl ?_
                    refine ev_iconst dX0_value_123 rfl ?_
                    refine ev_icmp_ge 130 dX0_value_124 (by decide) (fun c41 => ?_) (fun c41 => ?_)
                    · replace h := am_ifp c41 h
                      refine ev_iload 2 dX0_value_130 rfl ?_
                      refine ev_iconst dX0_value_132 rfl ?_
                      refine ev_icmp_ne 157 dX0_value_133 (by decide) (fun c42 => ?_) (fun c42 => ?_)
                      · replace h := am_ifn c42 h
                        refine ev_iload 2 dX0_value_157 rfl ?_
                        refine ev_iconst dX0_value_159 rfl ?_
                        refine am_jn_elim (fun q9 => ∀  (g44 : am_G) (r : Int32 × am_G), q9  g44 = some r → am_Ev zc MX0_value 1 169 [(0, .ref 36), (1, .ref a1), (3, .int x1), (4, .int x17), (5, .int x3), (6, .int x13), (7, .int x16)] [] g44 (am_ri r)) h ?_ (fun j45 hj45 h => ?_)
                        · intro  g44 r h
                          try dsimp only at h
                          refine ev_aload_n 0 dX0_value_169 rfl ?_
                          refine ev_gf (v := .ref 38) dX0_value_170 (fun h9 => (h9.2.1 36 _ rfl).2) 2 (by decide) (by decide) kF_X0_15 (fun h9 => congrArg va_rf (h9.2.2 36 2 38 rfl)) ?_
                          refine ev_iload_n 2 dX0_value_173 rfl ?_
                          refine ev_iconst dX0_value_174 rfl ?_
                          refine ev_isub dX0_value_175 ?_
                          obtain ⟨c46, h⟩ := am_gd_elim h
                          refine ev_iald dX0_value_176 (fun h9 => (h9.2.1 38 _ rfl).2) (am_in_vp c46) ?_
                          refine ev_iload 5 dX0_value_177 rfl ?_
                          refine ev_iconst dX0_value_179 rfl ?_
                          refine am_jn_elim (fun q9 => ∀ (x48 : Int32) (g49 : am_G) (r : Int32 × am_G), q9 x48 g49 = some r → am_Ev zc MX0_value 1 188 [(0, .ref 36), (1, .ref a1), (3, .int x1), (4, .int x17), (5, .int x3), (7, .int x16)] [.int x48, .int (am_I g44 38 (x1 - (1 : Int32)).toNatClampNeg)] g49 (am_ri r)) h ?_ (fun j50 hj50 h => ?_)
                          · intro x48 g49 r h
                            try dsimp only at h
                            refine ev_icmp_ne 198 dX0_value_188 (by decide) (fun c51 => ?_) (fun c51 => ?_)
                            · replace h := am_ifn c51 h
                              obtain ⟨x52, ex52, h⟩ := am_let_ex h
                              refine ev_iinc (ls' := [(3, .int x52), (0, .ref 36), (1, .ref a1), (4, .int x17), (5, .int x3), (7, .int x16)]) 2 dX0_value_198 rfl ex52 (by decide) rfl ?_
                              refine ev_goto 260 dX0_value_201 (by decide) ?_
                              refine ev_sub [1, 2, 0, 3, 4] rfl ?_
                              exact hj23 _ _ _ _ h
                            · replace h := am_ifp c51 h
                              refine ev_iload 5 dX0_value_191 rfl ?_
                              refine ev_istore (ls' := [(4, .int x16), (0, .ref 36), (1, .ref a1), (3, .int x1), (5, .int x3), (7, .int x16)]) dX0_value_193 (by decide) rfl ?_
                              refine ev_goto 260 dX0_value_195 (by decide) ?_
                              refine ev_sub [1, 2, 3, 0, 4] rfl ?_
                              exact hj23 _ _ _ _ h
                          · refine ev_icmp_ne 187 dX0_value_180 (by decide) (fun c47 => ?_) (fun c47 => ?_)
                            · replace h := am_ifn c47 h
                              refine ev_iconst dX0_value_187 rfl ?_
                              refine ev_sub [0, 1, 2, 3, 4, 6] rfl ?_
                              exact hj50 _ _ _ h
                            · replace h := am_ifp c47 h
                              refine ev_iconst dX0_value_183 rfl ?_
                              refine ev_goto 188 dX0_value_184 (by decide) ?_
                              refine ev_sub [0, 1, 2, 3, 4, 6] rfl ?_
                              exact hj50 _ _ _ h
                        · refine ev_icmp_eq 169 dX0_value_160 (by decide) (fun c43 => ?_) (fun c43 => ?_)
                          · replace h := am_ifp c43 h
                            refine ev_sub [3, 4, 5, 0, 6, 2, 1] rfl ?_
                            exact hj45  _ _ h
                          · replace h := am_ifn c43 h
                            refine ev_iload 2 dX0_value_163 rfl ?_
                            refine ev_iconst dX0_value_165 rfl ?_
                            refine ev_icmp_ne 204 dX0_value_166 (by decide) (fun c53 => ?_) (fun c53 => ?_)
                            · replace h := am_ifn c53 h
                              obtain ⟨x54, ex54, h⟩ := am_let_ex h
                              refine ev_iinc (ls' := [(3, .int x54), (4, .int x17), (7, .int x16), (6, .int x13), (0, .ref 36), (1, .ref a1), (5, .int x3)]) 5 dX0_value_204 rfl ex54 (by decide) rfl ?_
                              refine ev_iload_n 0 dX0_value_207 rfl ?_
                              refine ev_iconst dX0_value_208 rfl ?_
                              refine am_jn_elim (fun q9 => ∀ (x56 : Int32) (g57 : am_G) (r : Int32 × am_G), q9 x56 g57 = some r → am_Ev zc MX0_value 1 238 [(0, .ref 36), (1, .ref a1), (3, .int x54), (4, .int x17), (5, .int x3)] [.int x56] g57 (am_ri r)) h ?_ (fun j58 hj58 h => ?_)
                              · intro x56 g57 r h
                                try dsimp only at h
                                refine ev_istore (ls' := [(8, .int x56), (0, .ref 36), (1, .ref a1), (3, .int x54), (4, .int x17), (5, .int x3)]) dX0_value_238 (by decide) rfl ?_
                                refine ev_iload 0 dX0_value_240 rfl ?_
                                refine ev_ldc dX0_value_242 kI_X0_69 ?_
                                refine ev_icmp_ne 250 dX0_value_244 (by decide) (fun c59 => ?_) (fun c59 => ?_)
                                · replace h := am_ifn c59 h
                                  refine ev_aload_n 1 dX0_value_250 rfl ?_
                                  refine ev_gf (v := .ref 38) dX0_value_251 (fun h9 => (h9.2.1 36 _ rfl).2) 2 (by decide) (by decide) kF_X0_15 (fun h9 => congrArg va_rf (h9.2.2 36 2 38 rfl)) ?_
                                  refine ev_iload_n 3 dX0_value_254 rfl ?_
                                  refine ev_iconst dX0_value_255 rfl ?_
                                  refine ev_isub dX0_value_256 ?_
                                  refine ev_iload 0 dX0_value_257 rfl ?_
                                  obtain ⟨c60, h⟩ := am_gd_elim h
                                  refine ev_iast dX0_value_259 (fun h9 => (h9.2.1 38 _ rfl).2) (am_in_vp c60) ?_
                                  refine am_let_elim (P := fun g61 => am_Ev zc MX0_value 1 260 [(8, .int x56), (0, .ref 36), (1, .ref a1), (3, .int x54), (4, .int x17), (5, .int x3)] [] g61 (am_ri r)) h fun g61 h => ?_
                                  refine ev_sub [1, 2, 3, 4, 5] rfl ?_
                                  exact hj23 _ _ _ _ h
                                · replace h := am_ifp c59 h
                                  refine ev_ldc dX0_value_247 kI_X0_69 ?_
                                  cases h
                                  exact ev_iret dX0_value_249 rfl
                              · refine ev_icmp_ge 217 dX0_value_209 (by decide) (fun c55 => ?_) (fun c55 => ?_)
                                · replace h := am_ifp c55 h
                                  refine ev_iload 3 dX0_value_217 rfl ?_
                                  refine ev_aload_n 4 dX0_value_219 rfl ?_
                                  refine ev_gf (v := .ref 38) dX0_value_220 (fun h9 => (h9.2.1 36 _ rfl).2) 2 (by decide) (by decide) kF_X0_15 (fun h9 => congrArg va_rf (h9.2.2 36 2 38 rfl)) ?_
                                  refine ev_iload_n 0 dX0_value_223 rfl ?_
                                  refine ev_iconst dX0_value_224 rfl ?_
                                  refine ev_isub dX0_value_225 ?_
                                  obtain ⟨c62, h⟩ := am_gd_elim h
                                  refine ev_iald dX0_value_226 (fun h9 => (h9.2.1 38 _ rfl).2) (am_in_vp c62) ?_
                                  refine ev_i2l dX0_value_227 ?_
                                  refine ev_aload_n 4 dX0_value_228 rfl ?_
                                  refine ev_gf (v := .ref 38) dX0_value_229 (fun h9 => (h9.2.1 36 _ rfl).2) 2 (by decide) (by decide) kF_X0_15 (fun h9 => congrArg va_rf (h9.2.2 36 2 38 rfl)) ?_
                                  refine ev_iload_n 0 dX0_value_232 rfl ?_
                                  obtain ⟨c63, h⟩ := am_gd_elim h
                                  refine ev_iald dX0_value_233 (fun h9 => (h9.2.1 38 _ rfl).2) (am_in_vp c63) ?_
                                  refine ev_i2l dX0_value_234 ?_
                                  obtain ⟨v64, g65, e66, h⟩ := am_bd_elim h
                                  refine ev_callSi (v := v64) [.int x13, .long ((am_I g4 38 (x54 - (1 : Int32)).toNatClampNeg).toInt64), .long ((am_I g4 38 x54.toNatClampNeg).toInt64)] [] dX0_value_235 (tX0_joined e66) (by decide) mo_X0_joined kM_X0_105 ks_X0_joined (Nat.le_of_ble_eq_true rfl) ?_
                                  refine ev_sub [4, 5, 0, 1, 6] rfl ?_
                                  exact hj58 _ _ _ h
                                · replace h := am_ifn c55 h
                                  refine ev_ldc dX0_value_212 kI_X0_69 ?_
                                  refine ev_goto 238 dX0_value_214 (by decide) ?_
                                  refine ev_sub [4, 5, 0, 1, 6] rfl ?_
                                  exact hj58 _ _ _ h
                            · replace h := am_ifp c53 h
                              refine ev_sub [3, 4, 5, 0, 6, 2, 1] rfl ?_
                              exact hj45  _ _ h
                      · replace h := am_ifp c42 h
                        refine ev_aload_n 3 dX0_value_136 rfl ?_
                        refine ev_gf (v := .ref 38) dX0_value_137 (fun h9 => (h9.2.1 36 _ rfl).2) 2 (by decide) (by decide) kF_X0_15 (fun h9 => congrArg va_rf (h9.2.2 36 2 38 rfl)) ?_
                        refine ev_iload_n 5 dX0_value_140 rfl ?_
                        refine ev_iconst dX0_value_141 rfl ?_
                        refine ev_isub dX0_value_142 ?_
                        refine ev_iconst dX0_value_143 rfl ?_
                        refine ev_aload_n 3 dX0_value_144 rfl ?_
                        refine ev_gf (v := .ref 38) dX0_value_145 (fun h9 => (h9.2.1 36 _ rfl).2) 2 (by decide) (by decide) kF_X0_15 (fun h9 => congrArg va_rf (h9.2.2 36 2 38 rfl)) ?_
                        refine ev_iload_n 5 dX0_value_148 rfl ?_
                        refine ev_iconst dX0_value_149 rfl ?_
                        refine ev_isub dX0_value_150 ?_
                        obtain ⟨c67, h⟩ := am_gd_elim h
                        refine ev_iald dX0_value_151 (fun h9 => (h9.2.1 38 _ rfl).2) (am_in_vp c67) ?_
                        refine ev_isub dX0_value_152 ?_
                        obtain ⟨c68, h⟩ := am_gd_elim h
                        refine ev_iast dX0_value_153 (fun h9 => (h9.2.1 38 _ rfl).2) (am_in_vp c68) ?_
                        refine am_let_elim (P := fun g69 => am_Ev zc MX0_value 1 154 [(4, .int x17), (7, .int x16), (6, .int x13), (0, .ref 36), (1, .ref a1), (3, .int x1), (5, .int x3)] [] g69 (am_ri r)) h fun g69 h => ?_
                        refine ev_goto 260 dX0_value_154 (by decide) ?_
                        refine ev_sub [3, 4, 5, 0, 6] rfl ?_
                        exact hj23 _ _ _ _ h
                    · replace h := am_ifn c41 h
                      refine ev_ldc dX0_value_127 kI_X0_69 ?_
                      cases h
                      exact ev_iret dX0_value_129 rfl
                  · replace h := am_ifp c40 h
                    refine ev_sub [3, 4, 5, 0, 6, 2, 1] rfl ?_
                    exact hj26  _ _ h
          · replace h := am_ifp c18 h
            refine ev_goto 266 dX0_value_55 (by decide) ?_
            refine ev_sub [3, 5] rfl ?_
            exact hk _ _ _ h
set_option maxRecDepth 100000 in
set_option maxHeartbeats 4000000 in
theorem eX0_value (a1 : Nat) (a2 : Int32) (g : am_G) (r : Int32 × am_G) (h : fX0_value a1 a2 g = some r) : am_Ev zc MX0_value 1 0 [(0, .ref 36), (1, .ref a1), (2, .int a2)] [] g (am_ri r) := by
  unfold fX0_value at h
  refine ev_iconst dX0_value_0 rfl ?_
  refine ev_istore_n (ls' := [(3, .int (0 : Int32)), (0, .ref 36), (1, .ref a1), (2, .int a2)]) dX0_value_1 rfl (by decide) rfl ?_
  refine ev_iload_n 3 dX0_value_2 rfl ?_
  refine ev_istore (ls' := [(4, .int a2), (3, .int (0 : Int32)), (0, .ref 36), (1, .ref a1), (2, .int a2)]) dX0_value_3 (by decide) rfl ?_
  refine ev_iconst dX0_value_5 rfl ?_
  refine ev_istore (ls' := [(5, .int (0 : Int32)), (4, .int a2), (3, .int (0 : Int32)), (0, .ref 36), (1, .ref a1), (2, .int a2)]) dX0_value_6 (by decide) rfl ?_
  refine ev_sub [3, 4, 2, 1, 0] rfl ?_
  refine tfX0_value_L8 a1 ?_ _ _ _ _ _ _ h
  intro x70 g71 r h
  try dsimp only at h
  refine ev_iload_n 1 dX0_value_266 rfl ?_
  refine ev_if_le 279 dX0_value_267 (by decide) (fun c72 => ?_) (fun c72 => ?_)
  · replace h := am_ifp c72 h
    refine ev_ldc dX0_value_279 kI_X0_69 ?_
    cases h
    exact ev_iret dX0_value_281 rfl
  · replace h := am_ifn c72 h
    refine ev_aload_n 0 dX0_value_270 rfl ?_
    refine ev_gf (v := .ref 38) dX0_value_271 (fun h9 => (h9.2.1 36 _ rfl).2) 2 (by decide) (by decide) kF_X0_15 (fun h9 => congrArg va_rf (h9.2.2 36 2 38 rfl)) ?_
    refine ev_iconst dX0_value_274 rfl ?_
    obtain ⟨c73, h⟩ := am_gd_elim h
    refine ev_iald dX0_value_275 (fun h9 => (h9.2.1 38 _ rfl).2) (am_in_vp c73) ?_
    refine ev_goto 281 dX0_value_276 (by decide) ?_
    cases h
    exact ev_iret dX0_value_281 rfl
theorem tX0_value {a1 : Nat} {a2 : Int32} {g : am_G} {r : Int32 × am_G} (h : fX0_value a1 a2 g = some r) : am_Mt zc MX0_value 1 [.ref 36, .ref a1, .int a2] g (am_ri r) := am_Mt.of rfl (Nat.le_of_ble_eq_true rfl) (eX0_value _ _ _ _ h)
def fX6_sumOf (a0 : Nat) (a1 : Int32) (a2 : Int32) (g : am_G) : Option (Int32 × am_G) :=
  am_gd (decide (am_S g a0 = (6, 3))) <|
  am_oc (am_P g a0 0) (fun p2 =>
  am_gd (decide ((am_S g p2).1 = 20)) <|
  am_gd (am_in (((a1 * (6 : Int32)) + (1 : Int32)) + a2) ((am_S g p2).2)) <|
  some (am_I g p2 (((a1 * (6 : Int32)) + (1 : Int32)) + a2).toNatClampNeg, g)) none
set_option maxRecDepth 100000 in
set_option maxHeartbeats 4000000 in
theorem eX6_sumOf (a0 : Nat) (a1 : Int32) (a2 : Int32) (g : am_G) (r : Int32 × am_G) (h : fX6_sumOf a0 a1 a2 g = some r) : am_Ev zc MX6_sumOf 0 0 [(0, .ref a0), (1, .int a1), (2, .int a2)] [] g (am_ri r) := by
  unfold fX6_sumOf at h
  refine ev_aload_n 0 dX6_sumOf_0 rfl ?_
  obtain ⟨c1, h⟩ := am_gd_elim h
  refine am_oc_elim h (fun p2 e3 h => ?_) (fun _ h => nomatch h)
  refine ev_gf (v := .ref p2) dX6_sumOf_1 (fun _ => am_sh c1) 0 (by decide) (by decide) kF_X6_7 (fun _ => congrArg va_rf e3) ?_
  refine ev_iload_n 1 dX6_sumOf_4 rfl ?_
  refine ev_bipush dX6_sumOf_5 rfl ?_
  refine ev_imul dX6_sumOf_7 ?_
  refine ev_iconst dX6_sumOf_8 rfl ?_
  refine ev_iadd dX6_sumOf_9 ?_
  refine ev_iload_n 2 dX6_sumOf_10 rfl ?_
  refine ev_iadd dX6_sumOf_11 ?_
  obtain ⟨c4, h⟩ := am_gd_elim h
  obtain ⟨c5, h⟩ := am_gd_elim h
  refine ev_iald dX6_sumOf_12 (fun _ => am_shk c4) (am_in_vp c5) ?_
  cases h
  exact ev_iret dX6_sumOf_13 rfl
theorem tX6_sumOf {a0 : Nat} {a1 : Int32} {a2 : Int32} {g : am_G} {r : Int32 × am_G} (h : fX6_sumOf a0 a1 a2 g = some r) : am_Mt zc MX6_sumOf 0 [.ref a0, .int a1, .int a2] g (am_ri r) := am_Mt.of rfl (Nat.le_of_ble_eq_true rfl) (eX6_sumOf _ _ _ _ _ h)
def fX0_lastTold_L22 (a1 : Int32) (p4 : Nat) : Nat → Int32 → am_G → Option (Int32 × am_G)
  | 0, _, _ => none
  | n + 1, x8, g9 =>
    if x8 < 0 then (
      some ((-2147483648 : Int32), g9))
    else (
      am_gd (decide (am_S g9 p4 = (6, 3))) <|
      am_bd (fX6_kindOf p4 x8 g9) fun v11 g12 =>
      am_jn (fun  (g16 : am_G) =>
        am_let (x8 + (-1 : Int32)) fun x18 =>
        fX0_lastTold_L22 a1 p4 n x18 g16) fun j17 =>
      if v11 = a1 then (
        am_gd (decide (am_S g12 p4 = (6, 3))) <|
        am_bd (fX6_testOf p4 x8 g12) fun v19 g20 =>
        am_jn (fun  (g24 : am_G) =>
          am_jn (fun (x27 : Int32) (g28 : am_G) =>
            if x27 = (-2147483648 : Int32) then (
              j17 g28)
            else (
              some (x27, g28))) fun j29 =>
          if a1 = (4 : Int32) then (
            j29 (1 : Int32) g24)
          else (
            am_gd (decide (am_S g24 p4 = (6, 3))) <|
            am_oc (am_P g24 p4 1) (fun p32 =>
            am_gd (decide (am_S g24 p4 = (6, 3))) <|
            am_bd (fX6_sumOf p4 x8 (0 : Int32) g24) fun v34 g35 =>
            am_bd (fX0_value p32 v34 g35) fun v38 g39 =>
            j29 v38 g39) none)) fun j25 =>
        if v19 = (-1 : Int32) then (
          j25 g20)
        else (
          am_gd (decide (am_S g20 p4 = (6, 3))) <|
          am_oc (am_P g20 p4 1) (fun p42 =>
          am_bd (fX0_value p42 v19 g20) fun v44 g45 =>
          if v44 = (1 : Int32) then (
            j25 g45)
          else (
            j17 g45)) none))
      else (
        j17 g12))
def fX0_lastTold (a1 : Int32) (g : am_G) : Option (Int32 × am_G) :=
  am_bd (fX9_lawInForce g) fun o1 g2 =>
  am_oc (o1) (fun p4 =>
    am_gd (decide (am_S g2 p4 = (6, 3))) <|
    am_let ((am_I g2 p4 2) - (1 : Int32)) fun x7 =>
    fX0_lastTold_L22 a1 p4 am_fu x7 g2)
   (
    some ((-2147483648 : Int32), g2))
set_option maxRecDepth 100000 in
set_option maxHeartbeats 4000000 in
theorem tfX0_lastTold_L22  (a1 : Int32) (p4 : Nat) : ∀ (n : Nat) (x8 : Int32) (g9 : am_G) (r : Int32 × am_G), fX0_lastTold_L22 a1 p4 n x8 g9 = some r → am_Ev zc MX0_lastTold 2 22 [(0, .ref 36), (1, .int a1), (2, .ref p4), (3, .int x8)] [] g9 (am_ri r) := by
  intro n
  induction n with
  | zero => intro x8 g9 r h; exact nomatch (show (none : Option (Int32 × am_G)) = some r from h)
  | succ n ih =>
    intro x8 g9 r h
    rw [fX0_lastTold_L22] at h
    refine ev_iload_n 3 dX0_lastTold_22 rfl ?_
    refine ev_if_lt 109 dX0_lastTold_23 (by decide) (fun c10 => ?_) (fun c10 => ?_)
    · replace h := am_ifp c10 h
      refine ev_ldc dX0_lastTold_109 kI_X0_69 ?_
      cases h
      exact ev_iret dX0_lastTold_111 rfl
    · replace h := am_ifn c10 h
      refine ev_aload_n 2 dX0_lastTold_26 rfl ?_
      refine ev_iload_n 3 dX0_lastTold_27 rfl ?_
      obtain ⟨c14, h⟩ := am_gd_elim h
      obtain ⟨v11, g12, e13, h⟩ := am_bd_elim h
      refine ev_callVi (v := v11) [.int x8] [] dX0_lastTold_28 (tX6_kindOf e13) (by decide) mo_X6_kindOf kM_X0_89 ki_X6_kindOf kv_X6_kindOf (fun _ => am_sh c14) (by decide) rfl (Nat.le_of_ble_eq_true rfl) ?_
      refine ev_iload_n 1 dX0_lastTold_31 rfl ?_
      refine am_jn_elim (fun q9 => ∀  (g16 : am_G) (r : Int32 × am_G), q9  g16 = some r → am_Ev zc MX0_lastTold 2 103 [(0, .ref 36), (1, .int a1), (2, .ref p4), (3, .int x8)] [] g16 (am_ri r)) h ?_ (fun j17 hj17 h => ?_)
      · intro  g16 r h
        try dsimp only at h
        obtain ⟨x18, ex18, h⟩ := am_let_ex h
        refine ev_iinc (ls' := [(3, .int x18), (0, .ref 36), (1, .int a1), (2, .ref p4)]) 3 dX0_lastTold_103 rfl ex18 (by decide) rfl ?_
        refine ev_goto 22 dX0_lastTold_106 (by decide) ?_
        refine ev_sub [1, 2, 3, 0] rfl ?_
        exact ih _ _ _ h
      · refine ev_icmp_eq 38 dX0_lastTold_32 (by decide) (fun c15 => ?_) (fun c15 => ?_)
        · replace h := am_ifp c15 h
          refine ev_aload_n 2 dX0_lastTold_38 rfl ?_
          refine ev_iload_n 3 dX0_lastTold_39 rfl ?_
          obtain ⟨c22, h⟩ := am_gd_elim h
          obtain ⟨v19, g20, e21, h⟩ := am_bd_elim h
          refine ev_callVi (v := v19) [.int x8] [] dX0_lastTold_40 (tX6_testOf e21) (by decide) mo_X6_testOf kM_X0_92 ki_X6_testOf kv_X6_testOf (fun _ => am_sh c22) (by decide) rfl (Nat.le_of_ble_eq_true rfl) ?_
          refine ev_istore (ls' := [(4, .int v19), (0, .ref 36), (1, .int a1), (2, .ref p4), (3, .int x8)]) dX0_lastTold_43 (by decide) rfl ?_
          refine ev_iload 0 dX0_lastTold_45 rfl ?_
          refine ev_iconst dX0_lastTold_47 rfl ?_
          refine am_jn_elim (fun q9 => ∀  (g24 : am_G) (r : Int32 × am_G), q9  g24 = some r → am_Ev zc MX0_lastTold 2 68 [(0, .ref 36), (1, .int a1), (2, .ref p4), (3, .int x8)] [] g24 (am_ri r)) h ?_ (fun j25 hj25 h => ?_)
          · intro  g24 r h
            try dsimp only at h
            refine ev_iload_n 1 dX0_lastTold_68 rfl ?_
            refine ev_iconst dX0_lastTold_69 rfl ?_
            refine am_jn_elim (fun q9 => ∀ (x27 : Int32) (g28 : am_G) (r : Int32 × am_G), q9 x27 g28 = some r → am_Ev zc MX0_lastTold 2 91 [(0, .ref 36), (1, .int a1), (2, .ref p4), (3, .int x8)] [.int x27] g28 (am_ri r)) h ?_ (fun j29 hj29 h => ?_)
            · intro x27 g28 r h
              try dsimp only at h
              refine ev_istore (ls' := [(5, .int x27), (0, .ref 36), (1, .int a1), (2, .ref p4), (3, .int x8)]) dX0_lastTold_91 (by decide) rfl ?_
              refine ev_iload 0 dX0_lastTold_93 rfl ?_
              refine ev_ldc dX0_lastTold_95 kI_X0_69 ?_
              refine ev_icmp_eq 103 dX0_lastTold_97 (by decide) (fun c30 => ?_) (fun c30 => ?_)
              · replace h := am_ifp c30 h
                refine ev_sub [1, 2, 3, 4] rfl ?_
                exact hj17  _ _ h
              · replace h := am_ifn c30 h
                refine ev_iload 0 dX0_lastTold_100 rfl ?_
                cases h
                exact ev_iret dX0_lastTold_102 rfl
            · refine ev_icmp_ne 77 dX0_lastTold_70 (by decide) (fun c26 => ?_) (fun c26 => ?_)
              · replace h := am_ifn c26 h
                refine ev_aload_n 0 dX0_lastTold_77 rfl ?_
                refine ev_aload_n 2 dX0_lastTold_78 rfl ?_
                obtain ⟨c31, h⟩ := am_gd_elim h
                refine am_oc_elim h (fun p32 e33 h => ?_) (fun _ h => nomatch h)
                refine ev_gf (v := .ref p32) dX0_lastTold_79 (fun _ => am_sh c31) 1 (by decide) (by decide) kF_X0_95 (fun _ => congrArg va_rf e33) ?_
                refine ev_aload_n 2 dX0_lastTold_82 rfl ?_
                refine ev_iload_n 3 dX0_lastTold_83 rfl ?_
                refine ev_iconst dX0_lastTold_84 rfl ?_
                obtain ⟨c37, h⟩ := am_gd_elim h
                obtain ⟨v34, g35, e36, h⟩ := am_bd_elim h
                refine ev_callVi (v := v34) [.int x8, .int (0 : Int32)] [.ref p32, .ref 36] dX0_lastTold_85 (tX6_sumOf e36) (by decide) mo_X6_sumOf kM_X0_102 ki_X6_sumOf kv_X6_sumOf (fun _ => am_sh c37) (by decide) rfl (Nat.le_of_ble_eq_true rfl) ?_
                obtain ⟨v38, g39, e40, h⟩ := am_bd_elim h
                refine ev_callVi (v := v38) [.ref p32, .int v34] [] dX0_lastTold_88 (tX0_value e40) (by decide) mo_X0_value kM_X0_98 ki_X0_value kv_X0_value (fun h9 => (h9.2.1 36 _ rfl).2) (by decide) rfl (Nat.le_of_ble_eq_true rfl) ?_
                refine ev_sub [0, 1, 2, 3] rfl ?_
                exact hj29 _ _ _ h
              · replace h := am_ifp c26 h
                refine ev_iconst dX0_lastTold_73 rfl ?_
                refine ev_goto 91 dX0_lastTold_74 (by decide) ?_
                refine ev_sub [0, 1, 2, 3] rfl ?_
                exact hj29 _ _ _ h
          · refine ev_icmp_eq 68 dX0_lastTold_48 (by decide) (fun c23 => ?_) (fun c23 => ?_)
            · replace h := am_ifp c23 h
              refine ev_sub [1, 2, 3, 4] rfl ?_
              exact hj25  _ _ h
            · replace h := am_ifn c23 h
              refine ev_aload_n 1 dX0_lastTold_51 rfl ?_
              refine ev_aload_n 3 dX0_lastTold_52 rfl ?_
              obtain ⟨c41, h⟩ := am_gd_elim h
              refine am_oc_elim h (fun p42 e43 h => ?_) (fun _ h => nomatch h)
              refine ev_gf (v := .ref p42) dX0_lastTold_53 (fun _ => am_sh c41) 1 (by decide) (by decide) kF_X0_95 (fun _ => congrArg va_rf e43) ?_
              refine ev_iload 0 dX0_lastTold_56 rfl ?_
              obtain ⟨v44, g45, e46, h⟩ := am_bd_elim h
              refine ev_callVi (v := v44) [.ref p42, .int v19] [] dX0_lastTold_58 (tX0_value e46) (by decide) mo_X0_value kM_X0_98 ki_X0_value kv_X0_value (fun h9 => (h9.2.1 36 _ rfl).2) (by decide) rfl (Nat.le_of_ble_eq_true rfl) ?_
              refine ev_iconst dX0_lastTold_61 rfl ?_
              refine ev_icmp_eq 68 dX0_lastTold_62 (by decide) (fun c47 => ?_) (fun c47 => ?_)
              · replace h := am_ifp c47 h
                refine ev_sub [1, 2, 3, 4] rfl ?_
                exact hj25  _ _ h
              · replace h := am_ifn c47 h
                refine ev_goto 103 dX0_lastTold_65 (by decide) ?_
                refine ev_sub [1, 2, 3, 4] rfl ?_
                exact hj17  _ _ h
        · replace h := am_ifn c15 h
          refine ev_goto 103 dX0_lastTold_35 (by decide) ?_
          refine ev_sub [0, 1, 2, 3] rfl ?_
          exact hj17  _ _ h
set_option maxRecDepth 100000 in
set_option maxHeartbeats 4000000 in
theorem eX0_lastTold (a1 : Int32) (g : am_G) (r : Int32 × am_G) (h : fX0_lastTold a1 g = some r) : am_Ev zc MX0_lastTold 2 0 [(0, .ref 36), (1, .int a1)] [] g (am_ri r) := by
  unfold fX0_lastTold at h
  refine ev_aload_n 0 dX0_lastTold_0 rfl ?_
  refine ev_gf (v := .ref 1) dX0_lastTold_1 (fun h9 => (h9.2.1 36 _ rfl).2) 0 (by decide) (by decide) kF_X0_18 (fun h9 => congrArg va_rf (h9.2.2 36 0 1 rfl)) ?_
  obtain ⟨o1, g2, e3, h⟩ := am_bd_elim h
  refine am_oc_elim h (fun p4 e5 h => ?_) (fun e5 h => ?_)
  · refine ev_callVq (v := p4) [] [] dX0_lastTold_4 (am_rq_s (tX9_lawInForce e3) e5) (by decide) mo_X9_lawInForce kM_X0_80 ki_X9_lawInForce kv_X9_lawInForce (fun h9 => (h9.2.1 1 _ rfl).2) (by decide) rfl (Nat.le_of_ble_eq_true rfl) ?_
    refine ev_astore_n (ls' := [(2, .ref p4), (0, .ref 36), (1, .int a1)]) dX0_lastTold_7 rfl (by decide) rfl ?_
    refine ev_aload_n 0 dX0_lastTold_8 rfl ?_
    refine ev_ifnonnull 15 dX0_lastTold_9 (by decide) ?_
    refine ev_aload_n 0 dX0_lastTold_15 rfl ?_
    obtain ⟨c6, h⟩ := am_gd_elim h
    refine ev_gf (v := .int (am_I g2 p4 2)) dX0_lastTold_16 (fun _ => am_sh c6) 2 (by decide) (by decide) kF_X0_84 (fun _ => rfl) ?_
    refine ev_iconst dX0_lastTold_19 rfl ?_
    refine ev_isub dX0_lastTold_20 ?_
    refine am_let_elim (P := fun x7 => am_Ev zc MX0_lastTold 2 21 [(2, .ref p4), (0, .ref 36), (1, .int a1)] [.int x7] g2 (am_ri r)) h fun x7 h => ?_
    refine ev_istore_n (ls' := [(3, .int x7), (2, .ref p4), (0, .ref 36), (1, .int a1)]) dX0_lastTold_21 rfl (by decide) rfl ?_
    refine ev_sub [2, 3, 1, 0] rfl ?_
    exact tfX0_lastTold_L22 a1 p4 _ _ _ _ h
  · refine ev_callVz [] [] dX0_lastTold_4 (am_rq_n (tX9_lawInForce e3) e5) (by decide) mo_X9_lawInForce kM_X0_80 ki_X9_lawInForce kv_X9_lawInForce (fun h9 => (h9.2.1 1 _ rfl).2) (by decide) rfl (Nat.le_of_ble_eq_true rfl) ?_
    refine ev_astore_nN (ls' := [(2, .null), (0, .ref 36), (1, .int a1)]) dX0_lastTold_7 rfl (by decide) rfl ?_
    refine ev_aload_nN 0 dX0_lastTold_8 rfl ?_
    refine ev_ifnonnullN dX0_lastTold_9 ?_
    refine ev_ldc dX0_lastTold_12 kI_X0_69 ?_
    cases h
    exact ev_iret dX0_lastTold_14 rfl
theorem tX0_lastTold {a1 : Int32} {g : am_G} {r : Int32 × am_G} (h : fX0_lastTold a1 g = some r) : am_Mt zc MX0_lastTold 2 [.ref 36, .int a1] g (am_ri r) := am_Mt.of rfl (Nat.le_of_ble_eq_true rfl) (eX0_lastTold _ _ _ h)
def fX11_nearest (a0 : Int32) (a1 : Int32) (a2 : Int32) (g : am_G) : Option (Int32 × am_G) :=
  some (am_max a1 (am_min a2 a0), g)
set_option maxRecDepth 100000 in
set_option maxHeartbeats 4000000 in
theorem eX11_nearest (a0 : Int32) (a1 : Int32) (a2 : Int32) (g : am_G) (r : Int32 × am_G) (h : fX11_nearest a0 a1 a2 g = some r) : am_Ev zc MX11_nearest 0 0 [(0, .int a0), (1, .int a1), (2, .int a2)] [] g (am_ri r) := by
  unfold fX11_nearest at h
  refine ev_iload_n 1 dX11_nearest_0 rfl ?_
  refine ev_iload_n 2 dX11_nearest_1 rfl ?_
  refine ev_iload_n 0 dX11_nearest_2 rfl ?_
  refine ev_min dX11_nearest_3 kM_X11_424 k_minS kS_Math k_minC (Nat.le_of_ble_eq_true rfl) ?_
  refine ev_max dX11_nearest_6 kM_X11_343 k_maxS kS_Math k_maxC (Nat.le_of_ble_eq_true rfl) ?_
  cases h
  exact ev_iret dX11_nearest_9 rfl
theorem tX11_nearest {a0 : Int32} {a1 : Int32} {a2 : Int32} {g : am_G} {r : Int32 × am_G} (h : fX11_nearest a0 a1 a2 g = some r) : am_Mt zc MX11_nearest 0 [.int a0, .int a1, .int a2] g (am_ri r) := am_Mt.of rfl (Nat.le_of_ble_eq_true rfl) (eX11_nearest _ _ _ _ _ h)
def fX0_shakes (a1 : Int32) (a2 : Int32) (g : am_G) : Option (Int32 × am_G) :=
  am_gd (am_in (17 : Int32) 40) <|
  am_gd (am_in ((a1 * (4 : Int32)) + (am_I g 37 (17 : Int32).toNatClampNeg)) 24) <|
  am_gd (am_in (18 : Int32) 40) <|
  am_let (am_si g 37 (18 : Int32).toNatClampNeg (am_I g 11 ((a1 * (4 : Int32)) + (am_I g 37 (17 : Int32).toNatClampNeg)).toNatClampNeg)) fun g4 =>
  am_gd (am_in (19 : Int32) 40) <|
  am_let (am_si g4 37 (19 : Int32).toNatClampNeg a1) fun g6 =>
  am_gd (am_in (21 : Int32) 40) <|
  am_let (am_si g6 37 (21 : Int32).toNatClampNeg a2) fun g8 =>
  am_bd (fX0_lastTold (1 : Int32) g8) fun v9 g10 =>
  if v9 = (-2147483648 : Int32) then (
    am_gd (am_in (15 : Int32) 40) <|
    am_gd (am_in (13 : Int32) 40) <|
    am_gd (am_in (18 : Int32) 40) <|
    some (am_max (0 : Int32) (((am_I g10 37 (15 : Int32).toNatClampNeg) * (am_I g10 37 (13 : Int32).toNatClampNeg)) - (am_I g10 37 (18 : Int32).toNatClampNeg)), g10))
  else (
    am_bd (fX11_nearest v9 (0 : Int32) (999 : Int32) g10) fun v13 g14 =>
    some (v13, g14))
set_option maxRecDepth 100000 in
set_option maxHeartbeats 4000000 in
theorem eX0_shakes (a1 : Int32) (a2 : Int32) (g : am_G) (r : Int32 × am_G) (h : fX0_shakes a1 a2 g = some r) : am_Ev zc MX0_shakes 3 0 [(0, .ref 36), (1, .int a1), (2, .int a2)] [] g (am_ri r) := by
  unfold fX0_shakes at h
  refine ev_aload_n 0 dX0_shakes_0 rfl ?_
  refine ev_gf (v := .ref 37) dX0_shakes_1 (fun h9 => (h9.2.1 36 _ rfl).2) 1 (by decide) (by decide) kF_X0_9 (fun h9 => congrArg va_rf (h9.2.2 36 1 37 rfl)) ?_
  refine ev_bipush dX0_shakes_4 rfl ?_
  refine ev_aload_n 0 dX0_shakes_6 rfl ?_
  refine ev_gf (v := .ref 1) dX0_shakes_7 (fun h9 => (h9.2.1 36 _ rfl).2) 0 (by decide) (by decide) kF_X0_18 (fun h9 => congrArg va_rf (h9.2.2 36 0 1 rfl)) ?_
  refine ev_gf (v := .ref 11) dX0_shakes_10 (fun h9 => (h9.2.1 1 _ rfl).2) 4 (by decide) (by decide) kF_X0_62 (fun h9 => congrArg va_rf (h9.2.2 1 4 11 rfl)) ?_
  refine ev_iload_n 1 dX0_shakes_13 rfl ?_
  refine ev_iconst dX0_shakes_14 rfl ?_
  refine ev_imul dX0_shakes_15 ?_
  refine ev_aload_n 0 dX0_shakes_16 rfl ?_
  refine ev_gf (v := .ref 37) dX0_shakes_17 (fun h9 => (h9.2.1 36 _ rfl).2) 1 (by decide) (by decide) kF_X0_9 (fun h9 => congrArg va_rf (h9.2.2 36 1 37 rfl)) ?_
  refine ev_bipush dX0_shakes_20 rfl ?_
  obtain ⟨c1, h⟩ := am_gd_elim h
  refine ev_iald dX0_shakes_22 (fun h9 => (h9.2.1 37 _ rfl).2) (am_in_vp c1) ?_
  refine ev_iadd dX0_shakes_23 ?_
  obtain ⟨c2, h⟩ := am_gd_elim h
  refine ev_iald dX0_shakes_24 (fun h9 => (h9.2.1 11 _ rfl).2) (am_in_vp c2) ?_
  obtain ⟨c3, h⟩ := am_gd_elim h
  refine ev_iast dX0_shakes_25 (fun h9 => (h9.2.1 37 _ rfl).2) (am_in_vp c3) ?_
  refine am_let_elim (P := fun g4 => am_Ev zc MX0_shakes 3 26 [(0, .ref 36), (1, .int a1), (2, .int a2)] [] g4 (am_ri r)) h fun g4 h => ?_
  refine ev_aload_n 0 dX0_shakes_26 rfl ?_
  refine ev_gf (v := .ref 37) dX0_shakes_27 (fun h9 => (h9.2.1 36 _ rfl).2) 1 (by decide) (by decide) kF_X0_9 (fun h9 => congrArg va_rf (h9.2.2 36 1 37 rfl)) ?_
  refine ev_bipush dX0_shakes_30 rfl ?_
  refine ev_iload_n 1 dX0_shakes_32 rfl ?_
  obtain ⟨c5, h⟩ := am_gd_elim h
  refine ev_iast dX0_shakes_33 (fun h9 => (h9.2.1 37 _ rfl).2) (am_in_vp c5) ?_
  refine am_let_elim (P := fun g6 => am_Ev zc MX0_shakes 3 34 [(0, .ref 36), (1, .int a1), (2, .int a2)] [] g6 (am_ri r)) h fun g6 h => ?_
  refine ev_aload_n 0 dX0_shakes_34 rfl ?_
  refine ev_gf (v := .ref 37) dX0_shakes_35 (fun h9 => (h9.2.1 36 _ rfl).2) 1 (by decide) (by decide) kF_X0_9 (fun h9 => congrArg va_rf (h9.2.2 36 1 37 rfl)) ?_
  refine ev_bipush dX0_shakes_38 rfl ?_
  refine ev_iload_n 2 dX0_shakes_40 rfl ?_
  obtain ⟨c7, h⟩ := am_gd_elim h
  refine ev_iast dX0_shakes_41 (fun h9 => (h9.2.1 37 _ rfl).2) (am_in_vp c7) ?_
  refine am_let_elim (P := fun g8 => am_Ev zc MX0_shakes 3 42 [(0, .ref 36), (1, .int a1), (2, .int a2)] [] g8 (am_ri r)) h fun g8 h => ?_
  refine ev_aload_n 0 dX0_shakes_42 rfl ?_
  refine ev_iconst dX0_shakes_43 rfl ?_
  obtain ⟨v9, g10, e11, h⟩ := am_bd_elim h
  refine ev_callVi (v := v9) [.int (1 : Int32)] [] dX0_shakes_44 (tX0_lastTold e11) (by decide) mo_X0_lastTold kM_X0_65 ki_X0_lastTold kv_X0_lastTold (fun h9 => (h9.2.1 36 _ rfl).2) (by decide) rfl (Nat.le_of_ble_eq_true rfl) ?_
  refine ev_istore_n (ls' := [(3, .int v9), (0, .ref 36), (1, .int a1), (2, .int a2)]) dX0_shakes_47 rfl (by decide) rfl ?_
  refine ev_iload_n 0 dX0_shakes_48 rfl ?_
  refine ev_ldc dX0_shakes_49 kI_X0_69 ?_
  refine ev_icmp_ne 82 dX0_shakes_51 (by decide) (fun c12 => ?_) (fun c12 => ?_)
  · replace h := am_ifn c12 h
    refine ev_iload_n 0 dX0_shakes_82 rfl ?_
    refine ev_iconst dX0_shakes_83 rfl ?_
    refine ev_sipush dX0_shakes_84 rfl ?_
    obtain ⟨v13, g14, e15, h⟩ := am_bd_elim h
    refine ev_callSNi (v := v13) [.int v9, .int (0 : Int32), .int (999 : Int32)] [] dX0_shakes_87 (tX11_nearest e15) (by decide) mo_X11_nearest kN_X0_76 ks_X11_nearest (Nat.le_of_ble_eq_true rfl) ?_
    cases h
    exact ev_iret dX0_shakes_90 rfl
  · replace h := am_ifp c12 h
    refine ev_iconst dX0_shakes_54 rfl ?_
    refine ev_aload_n 1 dX0_shakes_55 rfl ?_
    refine ev_gf (v := .ref 37) dX0_shakes_56 (fun h9 => (h9.2.1 36 _ rfl).2) 1 (by decide) (by decide) kF_X0_9 (fun h9 => congrArg va_rf (h9.2.2 36 1 37 rfl)) ?_
    refine ev_bipush dX0_shakes_59 rfl ?_
    obtain ⟨c16, h⟩ := am_gd_elim h
    refine ev_iald dX0_shakes_61 (fun h9 => (h9.2.1 37 _ rfl).2) (am_in_vp c16) ?_
    refine ev_aload_n 1 dX0_shakes_62 rfl ?_
    refine ev_gf (v := .ref 37) dX0_shakes_63 (fun h9 => (h9.2.1 36 _ rfl).2) 1 (by decide) (by decide) kF_X0_9 (fun h9 => congrArg va_rf (h9.2.2 36 1 37 rfl)) ?_
    refine ev_bipush dX0_shakes_66 rfl ?_
    obtain ⟨c17, h⟩ := am_gd_elim h
    refine ev_iald dX0_shakes_68 (fun h9 => (h9.2.1 37 _ rfl).2) (am_in_vp c17) ?_
    refine ev_imul dX0_shakes_69 ?_
    refine ev_aload_n 1 dX0_shakes_70 rfl ?_
    refine ev_gf (v := .ref 37) dX0_shakes_71 (fun h9 => (h9.2.1 36 _ rfl).2) 1 (by decide) (by decide) kF_X0_9 (fun h9 => congrArg va_rf (h9.2.2 36 1 37 rfl)) ?_
    refine ev_bipush dX0_shakes_74 rfl ?_
    obtain ⟨c18, h⟩ := am_gd_elim h
    refine ev_iald dX0_shakes_76 (fun h9 => (h9.2.1 37 _ rfl).2) (am_in_vp c18) ?_
    refine ev_isub dX0_shakes_77 ?_
    refine ev_max dX0_shakes_78 kM_X0_70 k_maxS kS_Math k_maxC (Nat.le_of_ble_eq_true rfl) ?_
    cases h
    exact ev_iret dX0_shakes_81 rfl
theorem tX0_shakes {a1 : Int32} {a2 : Int32} {g : am_G} {r : Int32 × am_G} (h : fX0_shakes a1 a2 g = some r) : am_Mt zc MX0_shakes 3 [.ref 36, .int a1, .int a2] g (am_ri r) := am_Mt.of rfl (Nat.le_of_ble_eq_true rfl) (eX0_shakes _ _ _ _ h)
def fX0_bars (g : am_G) : Option (Int32 × am_G) :=
  am_gd (am_in (18 : Int32) 40) <|
  am_let (am_si g 37 (18 : Int32).toNatClampNeg (-1 : Int32)) fun g2 =>
  am_gd (am_in (19 : Int32) 40) <|
  am_let (am_si g2 37 (19 : Int32).toNatClampNeg (-1 : Int32)) fun g4 =>
  am_gd (am_in (21 : Int32) 40) <|
  am_let (am_si g4 37 (21 : Int32).toNatClampNeg (-1 : Int32)) fun g6 =>
  am_bd (fX0_lastTold (4 : Int32) g6) fun v7 g8 =>
  if v7 = (-2147483648 : Int32) then (
    some ((0 : Int32), g8))
  else (
    some ((1 : Int32), g8))
set_option maxRecDepth 100000 in
set_option maxHeartbeats 4000000 in
theorem eX0_bars (g : am_G) (r : Int32 × am_G) (h : fX0_bars g = some r) : am_Ev zc MX0_bars 3 0 [(0, .ref 36)] [] g (am_ri r) := by
  unfold fX0_bars at h
  refine ev_aload_n 0 dX0_bars_0 rfl ?_
  refine ev_gf (v := .ref 37) dX0_bars_1 (fun h9 => (h9.2.1 36 _ rfl).2) 1 (by decide) (by decide) kF_X0_9 (fun h9 => congrArg va_rf (h9.2.2 36 1 37 rfl)) ?_
  refine ev_bipush dX0_bars_4 rfl ?_
  refine ev_iconst dX0_bars_6 rfl ?_
  obtain ⟨c1, h⟩ := am_gd_elim h
  refine ev_iast dX0_bars_7 (fun h9 => (h9.2.1 37 _ rfl).2) (am_in_vp c1) ?_
  refine am_let_elim (P := fun g2 => am_Ev zc MX0_bars 3 8 [(0, .ref 36)] [] g2 (am_ri r)) h fun g2 h => ?_
  refine ev_aload_n 0 dX0_bars_8 rfl ?_
  refine ev_gf (v := .ref 37) dX0_bars_9 (fun h9 => (h9.2.1 36 _ rfl).2) 1 (by decide) (by decide) kF_X0_9 (fun h9 => congrArg va_rf (h9.2.2 36 1 37 rfl)) ?_
  refine ev_bipush dX0_bars_12 rfl ?_
  refine ev_iconst dX0_bars_14 rfl ?_
  obtain ⟨c3, h⟩ := am_gd_elim h
  refine ev_iast dX0_bars_15 (fun h9 => (h9.2.1 37 _ rfl).2) (am_in_vp c3) ?_
  refine am_let_elim (P := fun g4 => am_Ev zc MX0_bars 3 16 [(0, .ref 36)] [] g4 (am_ri r)) h fun g4 h => ?_
  refine ev_aload_n 0 dX0_bars_16 rfl ?_
  refine ev_gf (v := .ref 37) dX0_bars_17 (fun h9 => (h9.2.1 36 _ rfl).2) 1 (by decide) (by decide) kF_X0_9 (fun h9 => congrArg va_rf (h9.2.2 36 1 37 rfl)) ?_
  refine ev_bipush dX0_bars_20 rfl ?_
  refine ev_iconst dX0_bars_22 rfl ?_
  obtain ⟨c5, h⟩ := am_gd_elim h
  refine ev_iast dX0_bars_23 (fun h9 => (h9.2.1 37 _ rfl).2) (am_in_vp c5) ?_
  refine am_let_elim (P := fun g6 => am_Ev zc MX0_bars 3 24 [(0, .ref 36)] [] g6 (am_ri r)) h fun g6 h => ?_
  refine ev_aload_n 0 dX0_bars_24 rfl ?_
  refine ev_iconst dX0_bars_25 rfl ?_
  obtain ⟨v7, g8, e9, h⟩ := am_bd_elim h
  refine ev_callVi (v := v7) [.int (4 : Int32)] [] dX0_bars_26 (tX0_lastTold e9) (by decide) mo_X0_lastTold kM_X0_65 ki_X0_lastTold kv_X0_lastTold (fun h9 => (h9.2.1 36 _ rfl).2) (by decide) rfl (Nat.le_of_ble_eq_true rfl) ?_
  refine ev_ldc dX0_bars_29 kI_X0_69 ?_
  refine ev_icmp_eq 38 dX0_bars_31 (by decide) (fun c10 => ?_) (fun c10 => ?_)
  · replace h := am_ifp c10 h
    refine ev_iconst dX0_bars_38 rfl ?_
    cases h
    exact ev_zret dX0_bars_39 rfl rfl
  · replace h := am_ifn c10 h
    refine ev_iconst dX0_bars_34 rfl ?_
    refine ev_goto 39 dX0_bars_35 (by decide) ?_
    cases h
    exact ev_zret dX0_bars_39 rfl rfl
theorem tX0_bars {g : am_G} {r : Int32 × am_G} (h : fX0_bars g = some r) : am_Mt zc MX0_bars 3 [.ref 36] g (am_ri r) := am_Mt.of rfl (Nat.le_of_ble_eq_true rfl) (eX0_bars _ _ h)
def fX0_falls (g : am_G) : Option (Int32 × am_G) :=
  am_bd (fX0_lastTold (2 : Int32) g) fun v1 g2 =>
  if v1 = (-2147483648 : Int32) then (
    some ((10 : Int32), g2))
  else (
    am_bd (fX11_nearest v1 (0 : Int32) (99 : Int32) g2) fun v5 g6 =>
    some (v5, g6))
set_option maxRecDepth 100000 in
set_option maxHeartbeats 4000000 in
theorem eX0_falls (g : am_G) (r : Int32 × am_G) (h : fX0_falls g = some r) : am_Ev zc MX0_falls 3 0 [(0, .ref 36)] [] g (am_ri r) := by
  unfold fX0_falls at h
  refine ev_aload_n 0 dX0_falls_0 rfl ?_
  refine ev_iconst dX0_falls_1 rfl ?_
  obtain ⟨v1, g2, e3, h⟩ := am_bd_elim h
  refine ev_callVi (v := v1) [.int (2 : Int32)] [] dX0_falls_2 (tX0_lastTold e3) (by decide) mo_X0_lastTold kM_X0_65 ki_X0_lastTold kv_X0_lastTold (fun h9 => (h9.2.1 36 _ rfl).2) (by decide) rfl (Nat.le_of_ble_eq_true rfl) ?_
  refine ev_istore_n (ls' := [(1, .int v1), (0, .ref 36)]) dX0_falls_5 rfl (by decide) rfl ?_
  refine ev_iload_n 0 dX0_falls_6 rfl ?_
  refine ev_ldc dX0_falls_7 kI_X0_69 ?_
  refine ev_icmp_ne 17 dX0_falls_9 (by decide) (fun c4 => ?_) (fun c4 => ?_)
  · replace h := am_ifn c4 h
    refine ev_iload_n 0 dX0_falls_17 rfl ?_
    refine ev_iconst dX0_falls_18 rfl ?_
    refine ev_bipush dX0_falls_19 rfl ?_
    obtain ⟨v5, g6, e7, h⟩ := am_bd_elim h
    refine ev_callSNi (v := v5) [.int v1, .int (0 : Int32), .int (99 : Int32)] [] dX0_falls_21 (tX11_nearest e7) (by decide) mo_X11_nearest kN_X0_76 ks_X11_nearest (Nat.le_of_ble_eq_true rfl) ?_
    cases h
    exact ev_iret dX0_falls_24 rfl
  · replace h := am_ifp c4 h
    refine ev_bipush dX0_falls_12 rfl ?_
    refine ev_goto 24 dX0_falls_14 (by decide) ?_
    cases h
    exact ev_iret dX0_falls_24 rfl
theorem tX0_falls {g : am_G} {r : Int32 × am_G} (h : fX0_falls g = some r) : am_Mt zc MX0_falls 3 [.ref 36] g (am_ri r) := am_Mt.of rfl (Nat.le_of_ble_eq_true rfl) (eX0_falls _ _ h)
def fX0_thaws (g : am_G) : Option (Int32 × am_G) :=
  am_bd (fX0_lastTold (3 : Int32) g) fun v1 g2 =>
  if v1 = (-2147483648 : Int32) then (
    some ((0 : Int32), g2))
  else (
    am_bd (fX11_nearest v1 (0 : Int32) (99 : Int32) g2) fun v5 g6 =>
    some (v5, g6))
set_option maxRecDepth 100000 in
set_option maxHeartbeats 4000000 in
theorem eX0_thaws (g : am_G) (r : Int32 × am_G) (h : fX0_thaws g = some r) : am_Ev zc MX0_thaws 3 0 [(0, .ref 36)] [] g (am_ri r) := by
  unfold fX0_thaws at h
  refine ev_aload_n 0 dX0_thaws_0 rfl ?_
  refine ev_iconst dX0_thaws_1 rfl ?_
  obtain ⟨v1, g2, e3, h⟩ := am_bd_elim h
  refine ev_callVi (v := v1) [.int (3 : Int32)] [] dX0_thaws_2 (tX0_lastTold e3) (by decide) mo_X0_lastTold kM_X0_65 ki_X0_lastTold kv_X0_lastTold (fun h9 => (h9.2.1 36 _ rfl).2) (by decide) rfl (Nat.le_of_ble_eq_true rfl) ?_
  refine ev_istore_n (ls' := [(1, .int v1), (0, .ref 36)]) dX0_thaws_5 rfl (by decide) rfl ?_
  refine ev_iload_n 0 dX0_thaws_6 rfl ?_
  refine ev_ldc dX0_thaws_7 kI_X0_69 ?_
  refine ev_icmp_ne 16 dX0_thaws_9 (by decide) (fun c4 => ?_) (fun c4 => ?_)
  · replace h := am_ifn c4 h
    refine ev_iload_n 0 dX0_thaws_16 rfl ?_
    refine ev_iconst dX0_thaws_17 rfl ?_
    refine ev_bipush dX0_thaws_18 rfl ?_
    obtain ⟨v5, g6, e7, h⟩ := am_bd_elim h
    refine ev_callSNi (v := v5) [.int v1, .int (0 : Int32), .int (99 : Int32)] [] dX0_thaws_20 (tX11_nearest e7) (by decide) mo_X11_nearest kN_X0_76 ks_X11_nearest (Nat.le_of_ble_eq_true rfl) ?_
    cases h
    exact ev_iret dX0_thaws_23 rfl
  · replace h := am_ifp c4 h
    refine ev_iconst dX0_thaws_12 rfl ?_
    refine ev_goto 23 dX0_thaws_13 (by decide) ?_
    cases h
    exact ev_iret dX0_thaws_23 rfl
theorem tX0_thaws {g : am_G} {r : Int32 × am_G} (h : fX0_thaws g = some r) : am_Mt zc MX0_thaws 3 [.ref 36] g (am_ri r) := am_Mt.of rfl (Nat.le_of_ble_eq_true rfl) (eX0_thaws _ _ h)
def fX1_init (fx : Nat) (a0 : Nat) (a1 : Nat) (a2 : Nat) (g : am_G) : Option (Unit × am_G) :=
  am_let (am_n g) fun p1 =>
  am_let (am_new g 22 48) fun g2 =>
  am_gd (decide (am_S g2 a0 = (1, 15))) <|
  am_gd (decide (fx ≤ a0)) <|
  am_let (am_sp g2 a0 2 (some p1)) fun g4 =>
  am_let (am_n g4) fun p6 =>
  am_let (am_new g4 22 6) fun g7 =>
  am_gd (decide (am_S g7 a0 = (1, 15))) <|
  am_gd (decide (fx ≤ a0)) <|
  am_let (am_sp g7 a0 3 (some p6)) fun g9 =>
  am_let (am_n g9) fun p11 =>
  am_let (am_new g9 20 24) fun g12 =>
  am_gd (decide (am_S g12 a0 = (1, 15))) <|
  am_gd (decide (fx ≤ a0)) <|
  am_let (am_sp g12 a0 4 (some p11)) fun g14 =>
  am_let (am_n g14) fun p16 =>
  am_let (am_new g14 20 24) fun g17 =>
  am_gd (decide (am_S g17 a0 = (1, 15))) <|
  am_gd (decide (fx ≤ a0)) <|
  am_let (am_sp g17 a0 5 (some p16)) fun g19 =>
  am_let (am_n g19) fun p21 =>
  am_let (am_new g19 20 6) fun g22 =>
  am_gd (decide (am_S g22 a0 = (1, 15))) <|
  am_gd (decide (fx ≤ a0)) <|
  am_let (am_sp g22 a0 6 (some p21)) fun g24 =>
  am_let (am_n g24) fun p26 =>
  am_let (am_new g24 20 1152) fun g27 =>
  am_gd (decide (am_S g27 a0 = (1, 15))) <|
  am_gd (decide (fx ≤ a0)) <|
  am_let (am_sp g27 a0 7 (some p26)) fun g29 =>
  am_let (am_n g29) fun p31 =>
  am_let (am_new g29 20 24) fun g32 =>
  am_gd (decide (am_S g32 a0 = (1, 15))) <|
  am_gd (decide (fx ≤ a0)) <|
  am_let (am_sp g32 a0 8 (some p31)) fun g34 =>
  am_let (am_n g34) fun p36 =>
  am_let (am_new g34 20 24) fun g37 =>
  am_gd (decide (am_S g37 a0 = (1, 15))) <|
  am_gd (decide (fx ≤ a0)) <|
  am_let (am_sp g37 a0 9 (some p36)) fun g39 =>
  am_let (am_n g39) fun p41 =>
  am_let (am_new g39 20 18) fun g42 =>
  am_gd (decide (am_S g42 a0 = (1, 15))) <|
  am_gd (decide (fx ≤ a0)) <|
  am_let (am_sp g42 a0 10 (some p41)) fun g44 =>
  am_let (am_n g44) fun p46 =>
  am_let (am_new g44 20 3) fun g47 =>
  am_gd (decide (am_S g47 a0 = (1, 15))) <|
  am_gd (decide (fx ≤ a0)) <|
  am_let (am_sp g47 a0 11 (some p46)) fun g49 =>
  am_gd (decide (am_S g49 a0 = (1, 15))) <|
  am_gd (decide (fx ≤ a0)) <|
  am_let (am_sp g49 a0 0 (some a1)) fun g52 =>
  am_gd (decide (am_S g52 a0 = (1, 15))) <|
  am_gd (decide (fx ≤ a0)) <|
  am_let (am_sp g52 a0 1 (some a2)) fun g55 =>
  some ((), g55)
set_option maxRecDepth 100000 in
set_option maxHeartbeats 4000000 in
theorem eX1_init {Z : am_Z} {fx : Nat} (hF : ∀ g : am_G, am_ok Z g → ∀ k, Z.2 (am_n g) k = none) (hZ : ∀ a k, fx ≤ a → Z.2 a k = none) (a0 : Nat) (a1 : Nat) (a2 : Nat) (g : am_G) (r : Unit × am_G) (h : fX1_init fx a0 a1 a2 g = some r) : am_Ev Z MX1_init 0 0 [(0, .ref a0), (1, .ref a1), (2, .ref a2)] [] g (am_rv r) := by
  unfold fX1_init at h
  refine ev_aload_n 0 dX1_init_0 rfl ?_
  refine ev_objInit dX1_init_1 kM_X1_3 k_objI k_objC (Nat.le_of_ble_eq_true rfl) ?_
  refine ev_aload_n 0 dX1_init_4 rfl ?_
  refine ev_bipush dX1_init_5 rfl ?_
  refine ev_newa 22 48 dX1_init_7 (fun h9 => hF _ h9) (by decide) (by decide) kA_boolean (by decide) rfl (by decide) ?_
  refine am_let_elim (P := fun p1 => am_Ev Z MX1_init 0 9 [(0, .ref a0), (1, .ref a1), (2, .ref a2)] [.ref p1, .ref a0] (am_new g 22 48) (am_rv r)) h fun p1 h => ?_
  refine am_let_elim (P := fun g2 => am_Ev Z MX1_init 0 9 [(0, .ref a0), (1, .ref a1), (2, .ref a2)] [.ref p1, .ref a0] g2 (am_rv r)) h fun g2 h => ?_
  obtain ⟨c3, h⟩ := am_gd_elim h
  obtain ⟨c5, h⟩ := am_gd_elim h
  refine ev_pfr dX1_init_9 (fun _ => am_sh c3) 2 (by decide) (by decide) kF_X1_11 rfl ⟨rfl, rfl⟩ (hZ _ _ (of_decide_eq_true c5)) (fun _ => rfl) (fun _ => rfl) (fun _ => rfl) ?_
  refine am_let_elim (P := fun g4 => am_Ev Z MX1_init 0 12 [(0, .ref a0), (1, .ref a1), (2, .ref a2)] [] g4 (am_rv r)) h fun g4 h => ?_
  refine ev_aload_n 0 dX1_init_12 rfl ?_
  refine ev_bipush dX1_init_13 rfl ?_
  refine ev_newa 22 6 dX1_init_15 (fun h9 => hF _ h9) (by decide) (by decide) kA_boolean (by decide) rfl (by decide) ?_
  refine am_let_elim (P := fun p6 => am_Ev Z MX1_init 0 17 [(0, .ref a0), (1, .ref a1), (2, .ref a2)] [.ref p6, .ref a0] (am_new g4 22 6) (am_rv r)) h fun p6 h => ?_
  refine am_let_elim (P := fun g7 => am_Ev Z MX1_init 0 17 [(0, .ref a0), (1, .ref a1), (2, .ref a2)] [.ref p6, .ref a0] g7 (am_rv r)) h fun g7 h => ?_
  obtain ⟨c8, h⟩ := am_gd_elim h
  obtain ⟨c10, h⟩ := am_gd_elim h
  refine ev_pfr dX1_init_17 (fun _ => am_sh c8) 3 (by decide) (by decide) kF_X1_15 rfl ⟨rfl, rfl⟩ (hZ _ _ (of_decide_eq_true c10)) (fun _ => rfl) (fun _ => rfl) (fun _ => rfl) ?_
  refine am_let_elim (P := fun g9 => am_Ev Z MX1_init 0 20 [(0, .ref a0), (1, .ref a1), (2, .ref a2)] [] g9 (am_rv r)) h fun g9 h => ?_
  refine ev_aload_n 0 dX1_init_20 rfl ?_
  refine ev_bipush dX1_init_21 rfl ?_
  refine ev_newa 20 24 dX1_init_23 (fun h9 => hF _ h9) (by decide) (by decide) kA_int (by decide) rfl (by decide) ?_
  refine am_let_elim (P := fun p11 => am_Ev Z MX1_init 0 25 [(0, .ref a0), (1, .ref a1), (2, .ref a2)] [.ref p11, .ref a0] (am_new g9 20 24) (am_rv r)) h fun p11 h => ?_
  refine am_let_elim (P := fun g12 => am_Ev Z MX1_init 0 25 [(0, .ref a0), (1, .ref a1), (2, .ref a2)] [.ref p11, .ref a0] g12 (am_rv r)) h fun g12 h => ?_
  obtain ⟨c13, h⟩ := am_gd_elim h
  obtain ⟨c15, h⟩ := am_gd_elim h
  refine ev_pfr dX1_init_25 (fun _ => am_sh c13) 4 (by decide) (by decide) kF_X1_18 rfl ⟨rfl, rfl⟩ (hZ _ _ (of_decide_eq_true c15)) (fun _ => rfl) (fun _ => rfl) (fun _ => rfl) ?_
  refine am_let_elim (P := fun g14 => am_Ev Z MX1_init 0 28 [(0, .ref a0), (1, .ref a1), (2, .ref a2)] [] g14 (am_rv r)) h fun g14 h => ?_
  refine ev_aload_n 0 dX1_init_28 rfl ?_
  refine ev_bipush dX1_init_29 rfl ?_
  refine ev_newa 20 24 dX1_init_31 (fun h9 => hF _ h9) (by decide) (by decide) kA_int (by decide) rfl (by decide) ?_
  refine am_let_elim (P := fun p16 => am_Ev Z MX1_init 0 33 [(0, .ref a0), (1, .ref a1), (2, .ref a2)] [.ref p16, .ref a0] (am_new g14 20 24) (am_rv r)) h fun p16 h => ?_
  refine am_let_elim (P := fun g17 => am_Ev Z MX1_init 0 33 [(0, .ref a0), (1, .ref a1), (2, .ref a2)] [.ref p16, .ref a0] g17 (am_rv r)) h fun g17 h => ?_
  obtain ⟨c18, h⟩ := am_gd_elim h
  obtain ⟨c20, h⟩ := am_gd_elim h
  refine ev_pfr dX1_init_33 (fun _ => am_sh c18) 5 (by decide) (by decide) kF_X1_22 rfl ⟨rfl, rfl⟩ (hZ _ _ (of_decide_eq_true c20)) (fun _ => rfl) (fun _ => rfl) (fun _ => rfl) ?_
  refine am_let_elim (P := fun g19 => am_Ev Z MX1_init 0 36 [(0, .ref a0), (1, .ref a1), (2, .ref a2)] [] g19 (am_rv r)) h fun g19 h => ?_
  refine ev_aload_n 0 dX1_init_36 rfl ?_
  refine ev_bipush dX1_init_37 rfl ?_
  refine ev_newa 20 6 dX1_init_39 (fun h9 => hF _ h9) (by decide) (by decide) kA_int (by decide) rfl (by decide) ?_
  refine am_let_elim (P := fun p21 => am_Ev Z MX1_init 0 41 [(0, .ref a0), (1, .ref a1), (2, .ref a2)] [.ref p21, .ref a0] (am_new g19 20 6) (am_rv r)) h fun p21 h => ?_
  refine am_let_elim (P := fun g22 => am_Ev Z MX1_init 0 41 [(0, .ref a0), (1, .ref a1), (2, .ref a2)] [.ref p21, .ref a0] g22 (am_rv r)) h fun g22 h => ?_
  obtain ⟨c23, h⟩ := am_gd_elim h
  obtain ⟨c25, h⟩ := am_gd_elim h
  refine ev_pfr dX1_init_41 (fun _ => am_sh c23) 6 (by decide) (by decide) kF_X1_25 rfl ⟨rfl, rfl⟩ (hZ _ _ (of_decide_eq_true c25)) (fun _ => rfl) (fun _ => rfl) (fun _ => rfl) ?_
  refine am_let_elim (P := fun g24 => am_Ev Z MX1_init 0 44 [(0, .ref a0), (1, .ref a1), (2, .ref a2)] [] g24 (am_rv r)) h fun g24 h => ?_
  refine ev_aload_n 0 dX1_init_44 rfl ?_
  refine ev_sipush dX1_init_45 rfl ?_
  refine ev_newa 20 1152 dX1_init_48 (fun h9 => hF _ h9) (by decide) (by decide) kA_int (by decide) rfl (by decide) ?_
  refine am_let_elim (P := fun p26 => am_Ev Z MX1_init 0 50 [(0, .ref a0), (1, .ref a1), (2, .ref a2)] [.ref p26, .ref a0] (am_new g24 20 1152) (am_rv r)) h fun p26 h => ?_
  refine am_let_elim (P := fun g27 => am_Ev Z MX1_init 0 50 [(0, .ref a0), (1, .ref a1), (2, .ref a2)] [.ref p26, .ref a0] g27 (am_rv r)) h fun g27 h => ?_
  obtain ⟨c28, h⟩ := am_gd_elim h
  obtain ⟨c30, h⟩ := am_gd_elim h
  refine ev_pfr dX1_init_50 (fun _ => am_sh c28) 7 (by decide) (by decide) kF_X1_28 rfl ⟨rfl, rfl⟩ (hZ _ _ (of_decide_eq_true c30)) (fun _ => rfl) (fun _ => rfl) (fun _ => rfl) ?_
  refine am_let_elim (P := fun g29 => am_Ev Z MX1_init 0 53 [(0, .ref a0), (1, .ref a1), (2, .ref a2)] [] g29 (am_rv r)) h fun g29 h => ?_
  refine ev_aload_n 0 dX1_init_53 rfl ?_
  refine ev_bipush dX1_init_54 rfl ?_
  refine ev_newa 20 24 dX1_init_56 (fun h9 => hF _ h9) (by decide) (by decide) kA_int (by decide) rfl (by decide) ?_
  refine am_let_elim (P := fun p31 => am_Ev Z MX1_init 0 58 [(0, .ref a0), (1, .ref a1), (2, .ref a2)] [.ref p31, .ref a0] (am_new g29 20 24) (am_rv r)) h fun p31 h => ?_
  refine am_let_elim (P := fun g32 => am_Ev Z MX1_init 0 58 [(0, .ref a0), (1, .ref a1), (2, .ref a2)] [.ref p31, .ref a0] g32 (am_rv r)) h fun g32 h => ?_
  obtain ⟨c33, h⟩ := am_gd_elim h
  obtain ⟨c35, h⟩ := am_gd_elim h
  refine ev_pfr dX1_init_58 (fun _ => am_sh c33) 8 (by decide) (by decide) kF_X1_31 rfl ⟨rfl, rfl⟩ (hZ _ _ (of_decide_eq_true c35)) (fun _ => rfl) (fun _ => rfl) (fun _ => rfl) ?_
  refine am_let_elim (P := fun g34 => am_Ev Z MX1_init 0 61 [(0, .ref a0), (1, .ref a1), (2, .ref a2)] [] g34 (am_rv r)) h fun g34 h => ?_
  refine ev_aload_n 0 dX1_init_61 rfl ?_
  refine ev_bipush dX1_init_62 rfl ?_
  refine ev_newa 20 24 dX1_init_64 (fun h9 => hF _ h9) (by decide) (by decide) kA_int (by decide) rfl (by decide) ?_
  refine am_let_elim (P := fun p36 => am_Ev Z MX1_init 0 66 [(0, .ref a0), (1, .ref a1), (2, .ref a2)] [.ref p36, .ref a0] (am_new g34 20 24) (am_rv r)) h fun p36 h => ?_
  refine am_let_elim (P := fun g37 => am_Ev Z MX1_init 0 66 [(0, .ref a0), (1, .ref a1), (2, .ref a2)] [.ref p36, .ref a0] g37 (am_rv r)) h fun g37 h => ?_
  obtain ⟨c38, h⟩ := am_gd_elim h
  obtain ⟨c40, h⟩ := am_gd_elim h
  refine ev_pfr dX1_init_66 (fun _ => am_sh c38) 9 (by decide) (by decide) kF_X1_34 rfl ⟨rfl, rfl⟩ (hZ _ _ (of_decide_eq_true c40)) (fun _ => rfl) (fun _ => rfl) (fun _ => rfl) ?_
  refine am_let_elim (P := fun g39 => am_Ev Z MX1_init 0 69 [(0, .ref a0), (1, .ref a1), (2, .ref a2)] [] g39 (am_rv r)) h fun g39 h => ?_
  refine ev_aload_n 0 dX1_init_69 rfl ?_
  refine ev_bipush dX1_init_70 rfl ?_
  refine ev_newa 20 18 dX1_init_72 (fun h9 => hF _ h9) (by decide) (by decide) kA_int (by decide) rfl (by decide) ?_
  refine am_let_elim (P := fun p41 => am_Ev Z MX1_init 0 74 [(0, .ref a0), (1, .ref a1), (2, .ref a2)] [.ref p41, .ref a0] (am_new g39 20 18) (am_rv r)) h fun p41 h => ?_
  refine am_let_elim (P := fun g42 => am_Ev Z MX1_init 0 74 [(0, .ref a0), (1, .ref a1), (2, .ref a2)] [.ref p41, .ref a0] g42 (am_rv r)) h fun g42 h => ?_
  obtain ⟨c43, h⟩ := am_gd_elim h
  obtain ⟨c45, h⟩ := am_gd_elim h
  refine ev_pfr dX1_init_74 (fun _ => am_sh c43) 10 (by decide) (by decide) kF_X1_37 rfl ⟨rfl, rfl⟩ (hZ _ _ (of_decide_eq_true c45)) (fun _ => rfl) (fun _ => rfl) (fun _ => rfl) ?_
  refine am_let_elim (P := fun g44 => am_Ev Z MX1_init 0 77 [(0, .ref a0), (1, .ref a1), (2, .ref a2)] [] g44 (am_rv r)) h fun g44 h => ?_
  refine ev_aload_n 0 dX1_init_77 rfl ?_
  refine ev_iconst dX1_init_78 rfl ?_
  refine ev_newa 20 3 dX1_init_79 (fun h9 => hF _ h9) (by decide) (by decide) kA_int (by decide) rfl (by decide) ?_
  refine am_let_elim (P := fun p46 => am_Ev Z MX1_init 0 81 [(0, .ref a0), (1, .ref a1), (2, .ref a2)] [.ref p46, .ref a0] (am_new g44 20 3) (am_rv r)) h fun p46 h => ?_
  refine am_let_elim (P := fun g47 => am_Ev Z MX1_init 0 81 [(0, .ref a0), (1, .ref a1), (2, .ref a2)] [.ref p46, .ref a0] g47 (am_rv r)) h fun g47 h => ?_
  obtain ⟨c48, h⟩ := am_gd_elim h
  obtain ⟨c50, h⟩ := am_gd_elim h
  refine ev_pfr dX1_init_81 (fun _ => am_sh c48) 11 (by decide) (by decide) kF_X1_40 rfl ⟨rfl, rfl⟩ (hZ _ _ (of_decide_eq_true c50)) (fun _ => rfl) (fun _ => rfl) (fun _ => rfl) ?_
  refine am_let_elim (P := fun g49 => am_Ev Z MX1_init 0 84 [(0, .ref a0), (1, .ref a1), (2, .ref a2)] [] g49 (am_rv r)) h fun g49 h => ?_
  refine ev_aload_n 0 dX1_init_84 rfl ?_
  refine ev_aload_n 1 dX1_init_85 rfl ?_
  obtain ⟨c51, h⟩ := am_gd_elim h
  obtain ⟨c53, h⟩ := am_gd_elim h
  refine ev_pfr dX1_init_86 (fun _ => am_sh c51) 0 (by decide) (by decide) kF_X1_43 rfl ⟨rfl, rfl⟩ (hZ _ _ (of_decide_eq_true c53)) (fun _ => rfl) (fun _ => rfl) (fun _ => rfl) ?_
  refine am_let_elim (P := fun g52 => am_Ev Z MX1_init 0 89 [(0, .ref a0), (1, .ref a1), (2, .ref a2)] [] g52 (am_rv r)) h fun g52 h => ?_
  refine ev_aload_n 0 dX1_init_89 rfl ?_
  refine ev_aload_n 2 dX1_init_90 rfl ?_
  obtain ⟨c54, h⟩ := am_gd_elim h
  obtain ⟨c56, h⟩ := am_gd_elim h
  refine ev_pfr dX1_init_91 (fun _ => am_sh c54) 1 (by decide) (by decide) kF_X1_47 rfl ⟨rfl, rfl⟩ (hZ _ _ (of_decide_eq_true c56)) (fun _ => rfl) (fun _ => rfl) (fun _ => rfl) ?_
  refine am_let_elim (P := fun g55 => am_Ev Z MX1_init 0 94 [(0, .ref a0), (1, .ref a1), (2, .ref a2)] [] g55 (am_rv r)) h fun g55 h => ?_
  cases h
  exact ev_ret dX1_init_94 rfl
theorem tX1_init {Z : am_Z} {fx : Nat} (hF : ∀ g : am_G, am_ok Z g → ∀ k, Z.2 (am_n g) k = none) (hZ : ∀ a k, fx ≤ a → Z.2 a k = none) {a0 : Nat} {a1 : Nat} {a2 : Nat} {g : am_G} {r : Unit × am_G} (h : fX1_init fx a0 a1 a2 g = some r) : am_Mt Z MX1_init 0 [.ref a0, .ref a1, .ref a2] g (am_rv r) := am_Mt.of rfl (Nat.le_of_ble_eq_true rfl) (eX1_init hF hZ _ _ _ _ _ h)
def fJ7_fill_53178_L5 (fx : Nat) (a0 : Nat) (a1 : Int32) (x2 : Int32) : Nat → Int32 → am_G → Option (Unit × am_G)
  | 0, _, _ => none
  | n + 1, x3, g4 =>
    if x2 ≤ x3 then (
      some ((), g4))
    else (
      am_gd (decide ((am_S g4 a0).1 = 20)) <|
      am_gd (am_in x3 ((am_S g4 a0).2)) <|
      am_let (am_si g4 a0 x3.toNatClampNeg a1) fun g8 =>
      am_let (x3 + (1 : Int32)) fun x9 =>
      fJ7_fill_53178_L5 fx a0 a1 x2 n x9 g8)
def fJ7_fill_53178 (fx : Nat) (a0 : Nat) (a1 : Int32) (g : am_G) : Option (Unit × am_G) :=
  am_gd (decide ((am_S g a0).1 = 20)) <|
  am_let (Int32.ofNat ((am_S g a0).2)) fun x2 =>
  fJ7_fill_53178_L5 fx a0 a1 x2 am_fu (0 : Int32) g
set_option maxRecDepth 100000 in
set_option maxHeartbeats 4000000 in
theorem tfJ7_fill_53178_L5 {Z : am_Z} {fx : Nat} (hF : ∀ g : am_G, am_ok Z g → ∀ k, Z.2 (am_n g) k = none) (hZ : ∀ a k, fx ≤ a → Z.2 a k = none)  (a0 : Nat) (a1 : Int32) (x2 : Int32) : ∀ (n : Nat) (x3 : Int32) (g4 : am_G) (r : Unit × am_G), fJ7_fill_53178_L5 fx a0 a1 x2 n x3 g4 = some r → am_Ev Z MJ7_fill_53178 0 5 [(0, .ref a0), (1, .int a1), (2, .int x3), (3, .int x2)] [] g4 (am_rv r) := by
  intro n
  induction n with
  | zero => intro x3 g4 r h; exact nomatch (show (none : Option (Unit × am_G)) = some r from h)
  | succ n ih =>
    intro x3 g4 r h
    rw [fJ7_fill_53178_L5] at h
    refine ev_iload_n 2 dJ7_fill_53178_5 rfl ?_
    refine ev_iload_n 3 dJ7_fill_53178_6 rfl ?_
    refine ev_icmp_ge 20 dJ7_fill_53178_7 (by decide) (fun c5 => ?_) (fun c5 => ?_)
    · replace h := am_ifp c5 h
      cases h
      exact ev_ret dJ7_fill_53178_20 rfl
    · replace h := am_ifn c5 h
      refine ev_aload_n 0 dJ7_fill_53178_10 rfl ?_
      refine ev_iload_n 2 dJ7_fill_53178_11 rfl ?_
      refine ev_iload_n 1 dJ7_fill_53178_12 rfl ?_
      obtain ⟨c6, h⟩ := am_gd_elim h
      obtain ⟨c7, h⟩ := am_gd_elim h
      refine ev_iast dJ7_fill_53178_13 (fun _ => am_shk c6) (am_in_vp c7) ?_
      refine am_let_elim (P := fun g8 => am_Ev Z MJ7_fill_53178 0 14 [(0, .ref a0), (1, .int a1), (2, .int x3), (3, .int x2)] [] g8 (am_rv r)) h fun g8 h => ?_
      obtain ⟨x9, ex9, h⟩ := am_let_ex h
      refine ev_iinc (ls' := [(2, .int x9), (0, .ref a0), (1, .int a1), (3, .int x2)]) 2 dJ7_fill_53178_14 rfl ex9 (by decide) rfl ?_
      refine ev_goto 5 dJ7_fill_53178_17 (by decide) ?_
      refine ev_sub [1, 2, 0, 3] rfl ?_
      exact ih _ _ _ h
set_option maxRecDepth 100000 in
set_option maxHeartbeats 4000000 in
theorem eJ7_fill_53178 {Z : am_Z} {fx : Nat} (hF : ∀ g : am_G, am_ok Z g → ∀ k, Z.2 (am_n g) k = none) (hZ : ∀ a k, fx ≤ a → Z.2 a k = none) (a0 : Nat) (a1 : Int32) (g : am_G) (r : Unit × am_G) (h : fJ7_fill_53178 fx a0 a1 g = some r) : am_Ev Z MJ7_fill_53178 0 0 [(0, .ref a0), (1, .int a1)] [] g (am_rv r) := by
  unfold fJ7_fill_53178 at h
  refine ev_iconst dJ7_fill_53178_0 rfl ?_
  refine ev_istore_n (ls' := [(2, .int (0 : Int32)), (0, .ref a0), (1, .int a1)]) dJ7_fill_53178_1 rfl (by decide) rfl ?_
  refine ev_aload_n 1 dJ7_fill_53178_2 rfl ?_
  obtain ⟨c1, h⟩ := am_gd_elim h
  refine ev_alen dJ7_fill_53178_3 (fun _ => am_shk c1) ?_
  refine am_let_elim (P := fun x2 => am_Ev Z MJ7_fill_53178 0 4 [(2, .int (0 : Int32)), (0, .ref a0), (1, .int a1)] [.int x2] g (am_rv r)) h fun x2 h => ?_
  refine ev_istore_n (ls' := [(3, .int x2), (2, .int (0 : Int32)), (0, .ref a0), (1, .int a1)]) dJ7_fill_53178_4 rfl (by decide) rfl ?_
  refine ev_sub [2, 3, 1, 0] rfl ?_
  exact tfJ7_fill_53178_L5 hF hZ a0 a1 x2 _ _ _ _ h
theorem tJ7_fill_53178 {Z : am_Z} {fx : Nat} (hF : ∀ g : am_G, am_ok Z g → ∀ k, Z.2 (am_n g) k = none) (hZ : ∀ a k, fx ≤ a → Z.2 a k = none) {a0 : Nat} {a1 : Int32} {g : am_G} {r : Unit × am_G} (h : fJ7_fill_53178 fx a0 a1 g = some r) : am_Mt Z MJ7_fill_53178 0 [.ref a0, .int a1] g (am_rv r) := am_Mt.of rfl (Nat.le_of_ble_eq_true rfl) (eJ7_fill_53178 hF hZ _ _ _ _ h)
def fX11_isSlope (a0 : Int32) (g : am_G) : Option (Int32 × am_G) :=
  am_bd (fX11_within a0 (0 : Int32) (5 : Int32) g) fun v1 g2 =>
  am_gd (am_zb v1) <|
  some (v1, g2)
set_option maxRecDepth 100000 in
set_option maxHeartbeats 4000000 in
theorem eX11_isSlope (a0 : Int32) (g : am_G) (r : Int32 × am_G) (h : fX11_isSlope a0 g = some r) : am_Ev zc MX11_isSlope 1 0 [(0, .int a0)] [] g (am_ri r) := by
  unfold fX11_isSlope at h
  refine ev_iload_n 0 dX11_isSlope_0 rfl ?_
  refine ev_iconst dX11_isSlope_1 rfl ?_
  refine ev_iconst dX11_isSlope_2 rfl ?_
  obtain ⟨v1, g2, e3, h⟩ := am_bd_elim h
  refine ev_callSi (v := v1) [.int a0, .int (0 : Int32), .int (5 : Int32)] [] dX11_isSlope_3 (tX11_within e3) (by decide) mo_X11_within kM_X11_136 ks_X11_within (Nat.le_of_ble_eq_true rfl) ?_
  obtain ⟨c4, h⟩ := am_gd_elim h
  cases h
  exact ev_zret dX11_isSlope_6 rfl (am_zb_n c4)
theorem tX11_isSlope {a0 : Int32} {g : am_G} {r : Int32 × am_G} (h : fX11_isSlope a0 g = some r) : am_Mt zc MX11_isSlope 1 [.int a0] g (am_ri r) := am_Mt.of rfl (Nat.le_of_ble_eq_true rfl) (eX11_isSlope _ _ _ h)
def fX1_begin_L45 (k : am_G → Option (Unit × am_G)) (a2 : Int32) : Nat → Int32 → am_G → Option (Unit × am_G)
  | 0, _, _ => none
  | n + 1, x7, g8 =>
    if (am_I g8 51 12) ≤ x7 then (
      k g8)
    else (
      am_bd (fX0_ofSaid (x7 / (3 : Int32)) a2 ((x7 - x7 / (3 : Int32) * (3 : Int32)) + (1 : Int32)) g8) fun u11 g12 =>
      am_bd (fX0_bars g12) fun v14 g15 =>
      am_jn (fun (x18 : Int32) (g19 : am_G) =>
        am_gd (am_in x7 48) <|
        am_gd (am_zb x18) <|
        am_let (am_si g19 52 x7.toNatClampNeg x18) fun g23 =>
        am_let (x7 + (1 : Int32)) fun x24 =>
        fX1_begin_L45 k a2 n x24 g23) fun j20 =>
      if v14 = 0 then (
        j20 (1 : Int32) g15)
      else (
        j20 (0 : Int32) g15))
def fX1_begin_L148 : Nat → Int32 → am_G → Option (Unit × am_G)
  | 0, _, _ => none
  | n + 1, x33, g34 =>
    if x33 < 0 then (
      some ((), g34))
    else (
      am_gd (am_in x33 6) <|
      am_let (am_I g34 9 x33.toNatClampNeg) fun x37 =>
      am_jn (fun (x39 : Int32) (g40 : am_G) =>
        am_gd (am_in x33 6) <|
        am_gd (am_zb x39) <|
        am_let (am_si g40 53 x33.toNatClampNeg x39) fun g44 =>
        am_let (x33 + (-1 : Int32)) fun x45 =>
        fX1_begin_L148 n x45 g44) fun j41 =>
      am_jn (fun  (g46 : am_G) =>
        j41 (1 : Int32) g46) fun j47 =>
      if x33 = (am_I g34 51 13) then (
        j47 g34)
      else (
        am_bd (fX11_isSlope x37 g34) fun v48 g49 =>
        am_jn (fun  (g52 : am_G) =>
          j41 (0 : Int32) g52) fun j53 =>
        if v48 = 0 then (
          j53 g49)
        else (
          if x37 ≤ x33 then (
            j53 g49)
          else (
            am_gd (am_in x37 6) <|
            if (am_I g49 53 x37.toNatClampNeg) = 0 then (
              j53 g49)
            else (
              j47 g49)))))
def fX1_begin (a1 : Int32) (a2 : Int32) (g : am_G) : Option (Unit × am_G) :=
  am_let (am_si g 51 13 a1) fun g1 =>
  am_let (am_si g1 51 14 a2) fun g2 =>
  am_let (am_si g2 51 12 ((am_I g2 12 4) * (3 : Int32))) fun g3 =>
  am_bd (fX0_onDay (am_I g3 2 5) g3) fun u4 g5 =>
  fX1_begin_L45 (fun  (g25 : am_G) =>
    am_bd (fJ7_fill_53178 zc_n 56 (0 : Int32) g25) fun u26 g27 =>
    am_gd (am_co (0 : Int32) (0 : Int32) (6 : Int32) 6 24) <|
    am_let (am_cp g27 3 58 (0 : Int32).toNatClampNeg (0 : Int32).toNatClampNeg (6 : Int32).toNatClampNeg) fun g30 =>
    am_gd (am_co (0 : Int32) (0 : Int32) (6 : Int32) 6 24) <|
    am_let (am_cp g30 4 59 (0 : Int32).toNatClampNeg (0 : Int32).toNatClampNeg (6 : Int32).toNatClampNeg) fun g32 =>
    fX1_begin_L148 am_fu (5 : Int32) g32) a2 am_fu (0 : Int32) g5
set_option maxRecDepth 100000 in
set_option maxHeartbeats 4000000 in
theorem tfX1_begin_L45  {k : am_G → Option (Unit × am_G)} (a2 : Int32) (hk : ∀  (g9 : am_G) (r : Unit × am_G), k  g9 = some r → am_Ev zc MX1_begin 4 96 [(0, .ref 51)] [] g9 (am_rv r)) : ∀ (n : Nat) (x7 : Int32) (g8 : am_G) (r : Unit × am_G), fX1_begin_L45 k a2 n x7 g8 = some r → am_Ev zc MX1_begin 4 45 [(0, .ref 51), (2, .int a2), (3, .int x7)] [] g8 (am_rv r) := by
  intro n
  induction n with
  | zero => intro x7 g8 r h; exact nomatch (show (none : Option (Unit × am_G)) = some r from h)
  | succ n ih =>
    intro x7 g8 r h
    rw [fX1_begin_L45] at h
    refine ev_iload_n 2 dX1_begin_45 rfl ?_
    refine ev_aload_n 0 dX1_begin_46 rfl ?_
    refine ev_gf (v := .int (am_I g8 51 12)) dX1_begin_47 (fun h9 => (h9.2.1 51 _ rfl).2) 12 (by decide) (by decide) kF_X1_69 (fun _ => rfl) ?_
    refine ev_icmp_ge 96 dX1_begin_50 (by decide) (fun c10 => ?_) (fun c10 => ?_)
    · replace h := am_ifp c10 h
      refine ev_sub [0] rfl ?_
      exact hk  _ _ h
    · replace h := am_ifn c10 h
      refine ev_aload_n 0 dX1_begin_53 rfl ?_
      refine ev_gf (v := .ref 36) dX1_begin_54 (fun h9 => (h9.2.1 51 _ rfl).2) 1 (by decide) (by decide) kF_X1_47 (fun h9 => congrArg va_rf (h9.2.2 51 1 36 rfl)) ?_
      refine ev_iload_n 2 dX1_begin_57 rfl ?_
      refine ev_iconst dX1_begin_58 rfl ?_
      refine ev_idiv dX1_begin_59 (by decide) ?_
      refine ev_iload_n 1 dX1_begin_60 rfl ?_
      refine ev_iload_n 2 dX1_begin_61 rfl ?_
      refine ev_iconst dX1_begin_62 rfl ?_
      refine ev_irem dX1_begin_63 (by decide) ?_
      refine ev_iconst dX1_begin_64 rfl ?_
      refine ev_iadd dX1_begin_65 ?_
      obtain ⟨u11, g12, e13, h⟩ := am_bd_elim h
      refine ev_callVv [.int (x7 / (3 : Int32)), .int a2, .int ((x7 - x7 / (3 : Int32) * (3 : Int32)) + (1 : Int32))] [] dX1_begin_66 (tX0_ofSaid e13) (by decide) mo_X0_ofSaid kM_X1_87 ki_X0_ofSaid kv_X0_ofSaid (fun h9 => (h9.2.1 36 _ rfl).2) (by decide) rfl (Nat.le_of_ble_eq_true rfl) ?_
      refine ev_aload_n 0 dX1_begin_69 rfl ?_
      refine ev_gf (v := .ref 52) dX1_begin_70 (fun h9 => (h9.2.1 51 _ rfl).2) 2 (by decide) (by decide) kF_X1_11 (fun h9 => congrArg va_rf (h9.2.2 51 2 52 rfl)) ?_
      refine ev_iload_n 2 dX1_begin_73 rfl ?_
      refine ev_aload_n 0 dX1_begin_74 rfl ?_
      refine ev_gf (v := .ref 36) dX1_begin_75 (fun h9 => (h9.2.1 51 _ rfl).2) 1 (by decide) (by decide) kF_X1_47 (fun h9 => congrArg va_rf (h9.2.2 51 1 36 rfl)) ?_
      obtain ⟨v14, g15, e16, h⟩ := am_bd_elim h
      refine ev_callVi (v := v14) [] [.int x7, .ref 52] dX1_begin_78 (tX0_bars e16) (by decide) mo_X0_bars kM_X1_91 ki_X0_bars kv_X0_bars (fun h9 => (h9.2.1 36 _ rfl).2) (by decide) rfl (Nat.le_of_ble_eq_true rfl) ?_
      refine am_jn_elim (fun q9 => ∀ (x18 : Int32) (g19 : am_G) (r : Unit × am_G), q9 x18 g19 = some r → am_Ev zc MX1_begin 4 89 [(0, .ref 51), (2, .int a2), (3, .int x7)] [.int x18, .int x7, .ref 52] g19 (am_rv r)) h ?_ (fun j20 hj20 h => ?_)
      · intro x18 g19 r h
        try dsimp only at h
        obtain ⟨c21, h⟩ := am_gd_elim h
        obtain ⟨c22, h⟩ := am_gd_elim h
        refine ev_zast' dX1_begin_89 (fun h9 => (h9.2.1 52 _ rfl).2) c22 (am_in_vp c21) ?_
        refine am_let_elim (P := fun g23 => am_Ev zc MX1_begin 4 90 [(0, .ref 51), (2, .int a2), (3, .int x7)] [] g23 (am_rv r)) h fun g23 h => ?_
        obtain ⟨x24, ex24, h⟩ := am_let_ex h
        refine ev_iinc (ls' := [(3, .int x24), (0, .ref 51), (2, .int a2)]) 2 dX1_begin_90 rfl ex24 (by decide) rfl ?_
        refine ev_goto 45 dX1_begin_93 (by decide) ?_
        refine ev_sub [1, 2, 0] rfl ?_
        exact ih _ _ _ h
      · refine ev_if_ne 88 dX1_begin_81 (by decide) (fun c17 => ?_) (fun c17 => ?_)
        · replace h := am_ifn c17 h
          refine ev_iconst dX1_begin_88 rfl ?_
          refine ev_sub [0, 1, 2] rfl ?_
          exact hj20 _ _ _ h
        · replace h := am_ifp c17 h
          refine ev_iconst dX1_begin_84 rfl ?_
          refine ev_goto 89 dX1_begin_85 (by decide) ?_
          refine ev_sub [0, 1, 2] rfl ?_
          exact hj20 _ _ _ h
set_option maxRecDepth 100000 in
set_option maxHeartbeats 4000000 in
theorem tfX1_begin_L148  : ∀ (n : Nat) (x33 : Int32) (g34 : am_G) (r : Unit × am_G), fX1_begin_L148 n x33 g34 = some r → am_Ev zc MX1_begin 4 148 [(0, .ref 51), (3, .int x33)] [] g34 (am_rv r) := by
  intro n
  induction n with
  | zero => intro x33 g34 r h; exact nomatch (show (none : Option (Unit × am_G)) = some r from h)
  | succ n ih =>
    intro x33 g34 r h
    rw [fX1_begin_L148] at h
    refine ev_iload_n 1 dX1_begin_148 rfl ?_
    refine ev_if_lt 212 dX1_begin_149 (by decide) (fun c35 => ?_) (fun c35 => ?_)
    · replace h := am_ifp c35 h
      cases h
      exact ev_ret dX1_begin_212 rfl
    · replace h := am_ifn c35 h
      refine ev_aload_n 0 dX1_begin_152 rfl ?_
      refine ev_gf (v := .ref 1) dX1_begin_153 (fun h9 => (h9.2.1 51 _ rfl).2) 0 (by decide) (by decide) kF_X1_43 (fun h9 => congrArg va_rf (h9.2.2 51 0 1 rfl)) ?_
      refine ev_gf (v := .ref 9) dX1_begin_156 (fun h9 => (h9.2.1 1 _ rfl).2) 2 (by decide) (by decide) kF_X1_109 (fun h9 => congrArg va_rf (h9.2.2 1 2 9 rfl)) ?_
      refine ev_iload_n 1 dX1_begin_159 rfl ?_
      obtain ⟨c36, h⟩ := am_gd_elim h
      refine ev_iald dX1_begin_160 (fun h9 => (h9.2.1 9 _ rfl).2) (am_in_vp c36) ?_
      refine am_let_elim (P := fun x37 => am_Ev zc MX1_begin 4 161 [(0, .ref 51), (3, .int x33)] [.int x37] g34 (am_rv r)) h fun x37 h => ?_
      refine ev_istore (ls' := [(4, .int x37), (0, .ref 51), (3, .int x33)]) dX1_begin_161 (by decide) rfl ?_
      refine ev_aload_n 1 dX1_begin_163 rfl ?_
      refine ev_gf (v := .ref 53) dX1_begin_164 (fun h9 => (h9.2.1 51 _ rfl).2) 3 (by decide) (by decide) kF_X1_15 (fun h9 => congrArg va_rf (h9.2.2 51 3 53 rfl)) ?_
      refine ev_iload_n 2 dX1_begin_167 rfl ?_
      refine ev_iload_n 2 dX1_begin_168 rfl ?_
      refine ev_aload_n 1 dX1_begin_169 rfl ?_
      refine ev_gf (v := .int (am_I g34 51 13)) dX1_begin_170 (fun h9 => (h9.2.1 51 _ rfl).2) 13 (by decide) (by decide) kF_X1_51 (fun _ => rfl) ?_
      refine am_jn_elim (fun q9 => ∀ (x39 : Int32) (g40 : am_G) (r : Unit × am_G), q9 x39 g40 = some r → am_Ev zc MX1_begin 4 205 [(0, .ref 51), (3, .int x33)] [.int x39, .int x33, .ref 53] g40 (am_rv r)) h ?_ (fun j41 hj41 h => ?_)
      · intro x39 g40 r h
        try dsimp only at h
        obtain ⟨c42, h⟩ := am_gd_elim h
        obtain ⟨c43, h⟩ := am_gd_elim h
        refine ev_zast' dX1_begin_205 (fun h9 => (h9.2.1 53 _ rfl).2) c43 (am_in_vp c42) ?_
        refine am_let_elim (P := fun g44 => am_Ev zc MX1_begin 4 206 [(0, .ref 51), (3, .int x33)] [] g44 (am_rv r)) h fun g44 h => ?_
        obtain ⟨x45, ex45, h⟩ := am_let_ex h
        refine ev_iinc (ls' := [(3, .int x45), (0, .ref 51)]) 1 dX1_begin_206 rfl ex45 (by decide) rfl ?_
        refine ev_goto 148 dX1_begin_209 (by decide) ?_
        refine ev_sub [1, 0] rfl ?_
        exact ih _ _ _ h
      · refine am_jn_elim (fun q9 => ∀  (g46 : am_G) (r : Unit × am_G), q9  g46 = some r → am_Ev zc MX1_begin 4 200 [(0, .ref 51), (3, .int x33)] [.int x33, .ref 53] g46 (am_rv r)) h ?_ (fun j47 hj47 h => ?_)
        · intro  g46 r h
          try dsimp only at h
          refine ev_iconst dX1_begin_200 rfl ?_
          refine ev_goto 205 dX1_begin_201 (by decide) ?_
          refine ev_sub [0, 1] rfl ?_
          exact hj41 _ _ _ h
        · refine ev_icmp_eq 200 dX1_begin_173 (by decide) (fun c38 => ?_) (fun c38 => ?_)
          · replace h := am_ifp c38 h
            refine ev_sub [1, 2] rfl ?_
            exact hj47  _ _ h
          · replace h := am_ifn c38 h
            refine ev_iload 0 dX1_begin_176 rfl ?_
            obtain ⟨v48, g49, e50, h⟩ := am_bd_elim h
            refine ev_callSNi (v := v48) [.int x37] [.int x33, .ref 53] dX1_begin_178 (tX11_isSlope e50) (by decide) mo_X11_isSlope kN_X1_112 ks_X11_isSlope (Nat.le_of_ble_eq_true rfl) ?_
            refine am_jn_elim (fun q9 => ∀  (g52 : am_G) (r : Unit × am_G), q9  g52 = some r → am_Ev zc MX1_begin 4 204 [(0, .ref 51), (3, .int x33)] [.int x33, .ref 53] g52 (am_rv r)) h ?_ (fun j53 hj53 h => ?_)
            · intro  g52 r h
              try dsimp only at h
              refine ev_iconst dX1_begin_204 rfl ?_
              refine ev_sub [0, 1] rfl ?_
              exact hj41 _ _ _ h
            · refine ev_if_eq 204 dX1_begin_181 (by decide) (fun c51 => ?_) (fun c51 => ?_)
              · replace h := am_ifp c51 h
                refine ev_sub [1, 2] rfl ?_
                exact hj53  _ _ h
              · replace h := am_ifn c51 h
                refine ev_iload 0 dX1_begin_184 rfl ?_
                refine ev_iload_n 2 dX1_begin_186 rfl ?_
                refine ev_icmp_le 204 dX1_begin_187 (by decide) (fun c54 => ?_) (fun c54 => ?_)
                · replace h := am_ifp c54 h
                  refine ev_sub [1, 2] rfl ?_
                  exact hj53  _ _ h
                · replace h := am_ifn c54 h
                  refine ev_aload_n 1 dX1_begin_190 rfl ?_
                  refine ev_gf (v := .ref 53) dX1_begin_191 (fun h9 => (h9.2.1 51 _ rfl).2) 3 (by decide) (by decide) kF_X1_15 (fun h9 => congrArg va_rf (h9.2.2 51 3 53 rfl)) ?_
                  refine ev_iload 0 dX1_begin_194 rfl ?_
                  obtain ⟨c55, h⟩ := am_gd_elim h
                  refine ev_zald dX1_begin_196 (fun h9 => (h9.2.1 53 _ rfl).2) (am_in_vp c55) ?_
                  refine ev_if_eq 204 dX1_begin_197 (by decide) (fun c56 => ?_) (fun c56 => ?_)
                  · replace h := am_ifp c56 h
                    refine ev_sub [1, 2] rfl ?_
                    exact hj53  _ _ h
                  · replace h := am_ifn c56 h
                    refine ev_sub [1, 2] rfl ?_
                    exact hj47  _ _ h
set_option maxRecDepth 100000 in
set_option maxHeartbeats 4000000 in
theorem eX1_begin (a1 : Int32) (a2 : Int32) (g : am_G) (r : Unit × am_G) (h : fX1_begin a1 a2 g = some r) : am_Ev zc MX1_begin 4 0 [(0, .ref 51), (1, .int a1), (2, .int a2)] [] g (am_rv r) := by
  unfold fX1_begin at h
  refine ev_aload_n 0 dX1_begin_0 rfl ?_
  refine ev_iload_n 1 dX1_begin_1 rfl ?_
  refine ev_pfi dX1_begin_2 (fun h9 => (h9.2.1 51 _ rfl).2) 13 (by decide) (by decide) kF_X1_51 rfl rfl rfl (fun _ => rfl) ?_
  refine am_let_elim (P := fun g1 => am_Ev zc MX1_begin 4 5 [(0, .ref 51), (1, .int a1), (2, .int a2)] [] g1 (am_rv r)) h fun g1 h => ?_
  refine ev_aload_n 0 dX1_begin_5 rfl ?_
  refine ev_iload_n 2 dX1_begin_6 rfl ?_
  refine ev_pfi dX1_begin_7 (fun h9 => (h9.2.1 51 _ rfl).2) 14 (by decide) (by decide) kF_X1_55 rfl rfl rfl (fun _ => rfl) ?_
  refine am_let_elim (P := fun g2 => am_Ev zc MX1_begin 4 10 [(0, .ref 51), (1, .int a1), (2, .int a2)] [] g2 (am_rv r)) h fun g2 h => ?_
  refine ev_aload_n 0 dX1_begin_10 rfl ?_
  refine ev_aload_n 0 dX1_begin_11 rfl ?_
  refine ev_gf (v := .ref 1) dX1_begin_12 (fun h9 => (h9.2.1 51 _ rfl).2) 0 (by decide) (by decide) kF_X1_43 (fun h9 => congrArg va_rf (h9.2.2 51 0 1 rfl)) ?_
  refine ev_gf (v := .ref 12) dX1_begin_15 (fun h9 => (h9.2.1 1 _ rfl).2) 5 (by decide) (by decide) kF_X1_58 (fun h9 => congrArg va_rf (h9.2.2 1 5 12 rfl)) ?_
  refine ev_gf (v := .int (am_I g2 12 4)) dX1_begin_18 (fun h9 => (h9.2.1 12 _ rfl).2) 4 (by decide) (by decide) kF_X1_64 (fun _ => rfl) ?_
  refine ev_iconst dX1_begin_21 rfl ?_
  refine ev_imul dX1_begin_22 ?_
  refine ev_pfi dX1_begin_23 (fun h9 => (h9.2.1 51 _ rfl).2) 12 (by decide) (by decide) kF_X1_69 rfl rfl rfl (fun _ => rfl) ?_
  refine am_let_elim (P := fun g3 => am_Ev zc MX1_begin 4 26 [(0, .ref 51), (1, .int a1), (2, .int a2)] [] g3 (am_rv r)) h fun g3 h => ?_
  refine ev_aload_n 0 dX1_begin_26 rfl ?_
  refine ev_gf (v := .ref 36) dX1_begin_27 (fun h9 => (h9.2.1 51 _ rfl).2) 1 (by decide) (by decide) kF_X1_47 (fun h9 => congrArg va_rf (h9.2.2 51 1 36 rfl)) ?_
  refine ev_aload_n 0 dX1_begin_30 rfl ?_
  refine ev_gf (v := .ref 1) dX1_begin_31 (fun h9 => (h9.2.1 51 _ rfl).2) 0 (by decide) (by decide) kF_X1_43 (fun h9 => congrArg va_rf (h9.2.2 51 0 1 rfl)) ?_
  refine ev_gf (v := .ref 2) dX1_begin_34 (fun h9 => (h9.2.1 1 _ rfl).2) 0 (by decide) (by decide) kF_X1_72 (fun h9 => congrArg va_rf (h9.2.2 1 0 2 rfl)) ?_
  refine ev_gf (v := .int (am_I g3 2 5)) dX1_begin_37 (fun h9 => (h9.2.1 2 _ rfl).2) 5 (by decide) (by decide) kF_X1_76 (fun _ => rfl) ?_
  obtain ⟨u4, g5, e6, h⟩ := am_bd_elim h
  refine ev_callVv [.int (am_I g3 2 5)] [] dX1_begin_40 (tX0_onDay e6) (by decide) mo_X0_onDay kM_X1_81 ki_X0_onDay kv_X0_onDay (fun h9 => (h9.2.1 36 _ rfl).2) (by decide) rfl (Nat.le_of_ble_eq_true rfl) ?_
  refine ev_iconst dX1_begin_43 rfl ?_
  refine ev_istore_n (ls' := [(3, .int (0 : Int32)), (0, .ref 51), (1, .int a1), (2, .int a2)]) dX1_begin_44 rfl (by decide) rfl ?_
  refine ev_sub [1, 3, 0] rfl ?_
  refine tfX1_begin_L45 a2 ?_ _ _ _ _ h
  intro  g25 r h
  try dsimp only at h
  refine ev_aload_n 0 dX1_begin_96 rfl ?_
  refine ev_gf (v := .ref 56) dX1_begin_97 (fun h9 => (h9.2.1 51 _ rfl).2) 6 (by decide) (by decide) kF_X1_25 (fun h9 => congrArg va_rf (h9.2.2 51 6 56 rfl)) ?_
  refine ev_iconst dX1_begin_100 rfl ?_
  obtain ⟨u26, g27, e28, h⟩ := am_bd_elim h
  refine ev_callSv [.ref 56, .int (0 : Int32)] [] dX1_begin_101 (tJ7_fill_53178 (fun _ h9 => zc_fresh h9) zc_free e28) (by decide) mo_J7_fill_53178 kM_X1_95 ks_J7_fill_53178 (Nat.le_of_ble_eq_true rfl) ?_
  refine ev_aload_n 0 dX1_begin_104 rfl ?_
  refine ev_gf (v := .ref 1) dX1_begin_105 (fun h9 => (h9.2.1 51 _ rfl).2) 0 (by decide) (by decide) kF_X1_43 (fun h9 => congrArg va_rf (h9.2.2 51 0 1 rfl)) ?_
  refine ev_gf (v := .ref 2) dX1_begin_108 (fun h9 => (h9.2.1 1 _ rfl).2) 0 (by decide) (by decide) kF_X1_72 (fun h9 => congrArg va_rf (h9.2.2 1 0 2 rfl)) ?_
  refine ev_gf (v := .ref 3) dX1_begin_111 (fun h9 => (h9.2.1 2 _ rfl).2) 0 (by decide) (by decide) kF_X1_101 (fun h9 => congrArg va_rf (h9.2.2 2 0 3 rfl)) ?_
  refine ev_iconst dX1_begin_114 rfl ?_
  refine ev_aload_n 0 dX1_begin_115 rfl ?_
  refine ev_gf (v := .ref 58) dX1_begin_116 (fun h9 => (h9.2.1 51 _ rfl).2) 8 (by decide) (by decide) kF_X1_31 (fun h9 => congrArg va_rf (h9.2.2 51 8 58 rfl)) ?_
  refine ev_iconst dX1_begin_119 rfl ?_
  refine ev_bipush dX1_begin_120 rfl ?_
  obtain ⟨c29, h⟩ := am_gd_elim h
  refine ev_copyi dX1_begin_122 kM_X1_102 k_cpN k_cpS kS_System (fun h9 => (h9.2.1 3 _ rfl).2) (fun h9 => (h9.2.1 58 _ rfl).2) (am_co_elim c29).1 (am_co_elim c29).2.1 (am_co_elim c29).2.2.1 (am_co_elim c29).2.2.2.1 (am_co_elim c29).2.2.2.2 (Nat.le_of_ble_eq_true rfl) ?_
  refine am_let_elim (P := fun g30 => am_Ev zc MX1_begin 4 125 [(0, .ref 51)] [] g30 (am_rv r)) h fun g30 h => ?_
  refine ev_aload_n 0 dX1_begin_125 rfl ?_
  refine ev_gf (v := .ref 1) dX1_begin_126 (fun h9 => (h9.2.1 51 _ rfl).2) 0 (by decide) (by decide) kF_X1_43 (fun h9 => congrArg va_rf (h9.2.2 51 0 1 rfl)) ?_
  refine ev_gf (v := .ref 2) dX1_begin_129 (fun h9 => (h9.2.1 1 _ rfl).2) 0 (by decide) (by decide) kF_X1_72 (fun h9 => congrArg va_rf (h9.2.2 1 0 2 rfl)) ?_
  refine ev_gf (v := .ref 4) dX1_begin_132 (fun h9 => (h9.2.1 2 _ rfl).2) 1 (by decide) (by decide) kF_X1_108 (fun h9 => congrArg va_rf (h9.2.2 2 1 4 rfl)) ?_
  refine ev_iconst dX1_begin_135 rfl ?_
  refine ev_aload_n 0 dX1_begin_136 rfl ?_
  refine ev_gf (v := .ref 59) dX1_begin_137 (fun h9 => (h9.2.1 51 _ rfl).2) 9 (by decide) (by decide) kF_X1_34 (fun h9 => congrArg va_rf (h9.2.2 51 9 59 rfl)) ?_
  refine ev_iconst dX1_begin_140 rfl ?_
  refine ev_bipush dX1_begin_141 rfl ?_
  obtain ⟨c31, h⟩ := am_gd_elim h
  refine ev_copyi dX1_begin_143 kM_X1_102 k_cpN k_cpS kS_System (fun h9 => (h9.2.1 4 _ rfl).2) (fun h9 => (h9.2.1 59 _ rfl).2) (am_co_elim c31).1 (am_co_elim c31).2.1 (am_co_elim c31).2.2.1 (am_co_elim c31).2.2.2.1 (am_co_elim c31).2.2.2.2 (Nat.le_of_ble_eq_true rfl) ?_
  refine am_let_elim (P := fun g32 => am_Ev zc MX1_begin 4 146 [(0, .ref 51)] [] g32 (am_rv r)) h fun g32 h => ?_
  refine ev_iconst dX1_begin_146 rfl ?_
  refine ev_istore_n (ls' := [(3, .int (5 : Int32)), (0, .ref 51)]) dX1_begin_147 rfl (by decide) rfl ?_
  refine ev_sub [1, 0] rfl ?_
  exact tfX1_begin_L148 _ _ _ _ h
theorem tX1_begin {a1 : Int32} {a2 : Int32} {g : am_G} {r : Unit × am_G} (h : fX1_begin a1 a2 g = some r) : am_Mt zc MX1_begin 4 [.ref 51, .int a1, .int a2] g (am_rv r) := am_Mt.of rfl (Nat.le_of_ble_eq_true rfl) (eX1_begin _ _ _ _ h)
