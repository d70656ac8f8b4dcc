def fJ7_copyOf_59c91 (fx : Nat) (a0 : Nat) (a1 : Int32) (g : am_G) : Option (Option Nat × am_G) :=
  am_gd (decide ((am_S g a0).1 = 20)) <|
  if a1 = (Int32.ofNat ((am_S g a0).2)) then (
    am_gd (decide ((am_S g a0).1 = 20)) <|
    am_let (am_n g) fun p12 =>
    am_let (am_cln g a0) fun g13 =>
    am_gd (decide ((am_S g13 p12).1 = 20)) <|
    some (some p12, g13))
  else (
    am_gd (am_in a1 1000001) <|
    am_let (am_n g) fun p3 =>
    am_let (am_new g 20 a1.toNatClampNeg) fun g4 =>
    am_gd (decide ((am_S g4 a0).1 = 20)) <|
    am_gd (decide ((am_S g4 a0).1 = 20)) <|
    am_gd (decide ((am_S g4 p3).1 = 20)) <|
    am_gd (am_co (0 : Int32) (0 : Int32) (am_min (Int32.ofNat ((am_S g4 a0).2)) a1) ((am_S g4 a0).2) ((am_S g4 p3).2)) <|
    am_let (am_cp g4 a0 p3 (0 : Int32).toNatClampNeg (0 : Int32).toNatClampNeg (am_min (Int32.ofNat ((am_S g4 a0).2)) a1).toNatClampNeg) fun g10 =>
    some (some p3, g10))
set_option maxRecDepth 100000 in
set_option maxHeartbeats 4000000 in
theorem eJ7_copyOf_59c91 {Z : am_Z} {fx : Nat} (hF : ∀ g : am_G, am_ok Z g → ∀ k, Z.2 (am_n g) k = none) (hZ : ∀ a k, fx ≤ a → Z.2 a k = none) (a0 : Nat) (a1 : Int32) (g : am_G) (r : Option Nat × am_G) (h : fJ7_copyOf_59c91 fx a0 a1 g = some r) : am_Ev Z MJ7_copyOf_59c91 0 0 [(0, .ref a0), (1, .int a1)] [] g (am_rq r) := by
  unfold fJ7_copyOf_59c91 at h
  refine ev_iload_n 1 dJ7_copyOf_59c91_0 rfl ?_
  refine ev_aload_n 0 dJ7_copyOf_59c91_1 rfl ?_
  obtain ⟨c1, h⟩ := am_gd_elim h
  refine ev_alen dJ7_copyOf_59c91_2 (fun _ => am_shk c1) ?_
  refine ev_icmp_ne 14 dJ7_copyOf_59c91_3 (by decide) (fun c2 => ?_) (fun c2 => ?_)
  · replace h := am_ifn c2 h
    refine ev_iload_n 1 dJ7_copyOf_59c91_14 rfl ?_
    obtain ⟨c5, h⟩ := am_gd_elim h
    refine ev_newa 20 a1.toNatClampNeg dJ7_copyOf_59c91_15 (fun h9 => hF _ h9) (by decide) (by decide) kA_int (am_in_ge c5) rfl (am_in_le c5) ?_
    refine am_let_elim (P := fun p3 => am_Ev Z MJ7_copyOf_59c91 0 17 [(0, .ref a0), (1, .int a1)] [.ref p3] (am_new g 20 a1.toNatClampNeg) (am_rq r)) h fun p3 h => ?_
    refine am_let_elim (P := fun g4 => am_Ev Z MJ7_copyOf_59c91 0 17 [(0, .ref a0), (1, .int a1)] [.ref p3] g4 (am_rq r)) h fun g4 h => ?_
    refine ev_astore_n (ls' := [(2, .ref p3), (0, .ref a0), (1, .int a1)]) dJ7_copyOf_59c91_17 rfl (by decide) rfl ?_
    refine ev_aload_n 1 dJ7_copyOf_59c91_18 rfl ?_
    refine ev_iconst dJ7_copyOf_59c91_19 rfl ?_
    refine ev_aload_n 0 dJ7_copyOf_59c91_20 rfl ?_
    refine ev_iconst dJ7_copyOf_59c91_21 rfl ?_
    refine ev_aload_n 1 dJ7_copyOf_59c91_22 rfl ?_
    obtain ⟨c6, h⟩ := am_gd_elim h
    refine ev_alen dJ7_copyOf_59c91_23 (fun _ => am_shk c6) ?_
    refine ev_iload_n 2 dJ7_copyOf_59c91_24 rfl ?_
    refine ev_min dJ7_copyOf_59c91_25 kM_java_util_Arrays_304 k_minS kS_Math k_minC (Nat.le_of_ble_eq_true rfl) ?_
    obtain ⟨c7, h⟩ := am_gd_elim h
    obtain ⟨c8, h⟩ := am_gd_elim h
    obtain ⟨c9, h⟩ := am_gd_elim h
    refine ev_copyi dJ7_copyOf_59c91_28 kM_java_util_Arrays_150 k_cpN k_cpS kS_System (fun _ => am_shk c7) (fun _ => am_shk c8) (am_co_elim c9).1 (am_co_elim c9).2.1 (am_co_elim c9).2.2.1 (am_co_elim c9).2.2.2.1 (am_co_elim c9).2.2.2.2 (Nat.le_of_ble_eq_true rfl) ?_
    refine am_let_elim (P := fun g10 => am_Ev Z MJ7_copyOf_59c91 0 31 [(2, .ref p3), (0, .ref a0), (1, .int a1)] [] g10 (am_rq r)) h fun g10 h => ?_
    refine ev_aload_n 0 dJ7_copyOf_59c91_31 rfl ?_
    cases h
    exact ev_aret dJ7_copyOf_59c91_32 rfl (Or.inr ⟨_, rfl⟩)
  · replace h := am_ifp c2 h
    refine ev_aload_n 0 dJ7_copyOf_59c91_6 rfl ?_
    obtain ⟨c11, h⟩ := am_gd_elim h
    refine ev_clone dJ7_copyOf_59c91_7 kM_java_util_Arrays_316 kc_same kc_nat kc_inst kc_sel kc_cast (fun h9 => hF _ h9) (fun _ => am_shk c11) (Nat.le_of_ble_eq_true rfl) ?_
    refine am_let_elim (P := fun p12 => am_Ev Z MJ7_copyOf_59c91 0 10 [(0, .ref a0), (1, .int a1)] [.ref p12] (am_cln g a0) (am_rq r)) h fun p12 h => ?_
    refine am_let_elim (P := fun g13 => am_Ev Z MJ7_copyOf_59c91 0 10 [(0, .ref a0), (1, .int a1)] [.ref p12] g13 (am_rq r)) h fun g13 h => ?_
    obtain ⟨c14, h⟩ := am_gd_elim h
    refine ev_castI dJ7_copyOf_59c91_10 kC_java_util_Arrays_317 (fun _ => am_shk c14) ?_
    cases h
    exact ev_aret dJ7_copyOf_59c91_13 rfl (Or.inr ⟨_, rfl⟩)
theorem tJ7_copyOf_59c91 {Z : am_Z} {fx : Nat} (hF : ∀ g : am_G, am_ok Z g → ∀ k, Z.2 (am_n g) k = none) (hZ : ∀ a k, fx ≤ a → Z.2 a k = none) {a0 : Nat} {a1 : Int32} {g : am_G} {r : Option Nat × am_G} (h : fJ7_copyOf_59c91 fx a0 a1 g = some r) : am_Mt Z MJ7_copyOf_59c91 0 [.ref a0, .int a1] g (am_rq r) := am_Mt.of rfl (Nat.le_of_ble_eq_true rfl) (eJ7_copyOf_59c91 hF hZ _ _ _ _ h)
def fX6_trimmed (a1 : Int32) (g : am_G) : Option (Option Nat × am_G) :=
  am_let (am_n g) fun p1 =>
  am_let (am_new g 6 3) fun g2 =>
  am_bd (fJ7_copyOf_59c91 zc_n 34 ((am_I g2 33 2) * (6 : Int32)) g2) fun o3 g4 =>
  am_oc (o3) (fun p6 =>
    am_bd (fJ7_copyOf_59c91 zc_n 35 a1 g4) fun o8 g9 =>
    am_oc (o8) (fun p11 =>
      am_bd (fX6_init zc_n p1 p6 p11 (am_I g9 33 2) g9) fun u13 g14 =>
      some (some p1, g14))
     (
      none))
   (
    am_bd (fJ7_copyOf_59c91 zc_n 35 a1 g4) fun o16 g17 =>
    am_oc (o16) (fun p19 =>
      none)
     (
      none))
set_option maxRecDepth 100000 in
set_option maxHeartbeats 4000000 in
theorem eX6_trimmed (a1 : Int32) (g : am_G) (r : Option Nat × am_G) (h : fX6_trimmed a1 g = some r) : am_Ev zc MX6_trimmed 1 0 [(0, .ref 33), (1, .int a1)] [] g (am_rq r) := by
  unfold fX6_trimmed at h
  refine ev_new 6 dX6_trimmed_0 zc_fresh (by decide) kC_X6_8 ?_
  refine am_let_elim (P := fun p1 => am_Ev zc MX6_trimmed 1 3 [(0, .ref 33), (1, .int a1)] [.ref p1] (am_new g 6 3) (am_rq r)) h fun p1 h => ?_
  refine am_let_elim (P := fun g2 => am_Ev zc MX6_trimmed 1 3 [(0, .ref 33), (1, .int a1)] [.ref p1] g2 (am_rq r)) h fun g2 h => ?_
  refine ev_dup dX6_trimmed_3 rfl ?_
  refine ev_aload_n 0 dX6_trimmed_4 rfl ?_
  refine ev_gf (v := .ref 34) dX6_trimmed_5 (fun h9 => (h9.2.1 33 _ rfl).2) 0 (by decide) (by decide) kF_X6_7 (fun h9 => congrArg va_rf (h9.2.2 33 0 34 rfl)) ?_
  refine ev_aload_n 0 dX6_trimmed_8 rfl ?_
  refine ev_gf (v := .int (am_I g2 33 2)) dX6_trimmed_9 (fun h9 => (h9.2.1 33 _ rfl).2) 2 (by decide) (by decide) kF_X6_16 (fun _ => rfl) ?_
  refine ev_bipush dX6_trimmed_12 rfl ?_
  refine ev_imul dX6_trimmed_14 ?_
  obtain ⟨o3, g4, e5, h⟩ := am_bd_elim h
  refine am_oc_elim h (fun p6 e7 h => ?_) (fun e7 h => ?_)
  · refine ev_callSq (v := p6) [.ref 34, .int ((am_I g2 33 2) * (6 : Int32))] [.ref p1, .ref p1] dX6_trimmed_15 (am_rq_s (tJ7_copyOf_59c91 (fun _ h9 => zc_fresh h9) zc_free e5) e7) (by decide) mo_J7_copyOf_59c91 kM_X6_20 ks_J7_copyOf_59c91 (Nat.le_of_ble_eq_true rfl) ?_
    refine ev_aload_n 0 dX6_trimmed_18 rfl ?_
    refine ev_gf (v := .ref 35) dX6_trimmed_19 (fun h9 => (h9.2.1 33 _ rfl).2) 1 (by decide) (by decide) kF_X6_13 (fun h9 => congrArg va_rf (h9.2.2 33 1 35 rfl)) ?_
    refine ev_iload_n 1 dX6_trimmed_22 rfl ?_
    obtain ⟨o8, g9, e10, h⟩ := am_bd_elim h
    refine am_oc_elim h (fun p11 e12 h => ?_) (fun e12 h => ?_)
    · refine ev_callSq (v := p11) [.ref 35, .int a1] [.ref p6, .ref p1, .ref p1] dX6_trimmed_23 (am_rq_s (tJ7_copyOf_59c91 (fun _ h9 => zc_fresh h9) zc_free e10) e12) (by decide) mo_J7_copyOf_59c91 kM_X6_20 ks_J7_copyOf_59c91 (Nat.le_of_ble_eq_true rfl) ?_
      refine ev_aload_n 0 dX6_trimmed_26 rfl ?_
      refine ev_gf (v := .int (am_I g9 33 2)) dX6_trimmed_27 (fun h9 => (h9.2.1 33 _ rfl).2) 2 (by decide) (by decide) kF_X6_16 (fun _ => rfl) ?_
      obtain ⟨u13, g14, e15, h⟩ := am_bd_elim h
      refine ev_callI (as := [.ref p6, .ref p11, .int (am_I g9 33 2)]) (rest := [.ref p1]) dX6_trimmed_30 (tX6_init (fun _ h9 => zc_fresh h9) zc_free e15) (by decide) mo_X6_init kM_X6_26 ki_X6_init ⟨rfl, rfl⟩ (Nat.le_of_ble_eq_true rfl) ?_
      cases h
      exact ev_aret dX6_trimmed_33 rfl (Or.inl ⟨_, rfl⟩)
    · refine ev_callSz [.ref 35, .int a1] [.ref p6, .ref p1, .ref p1] dX6_trimmed_23 (am_rq_n (tJ7_copyOf_59c91 (fun _ h9 => zc_fresh h9) zc_free e10) e12) (by decide) mo_J7_copyOf_59c91 kM_X6_20 ks_J7_copyOf_59c91 (Nat.le_of_ble_eq_true rfl) ?_
      refine ev_aload_n 0 dX6_trimmed_26 rfl ?_
      refine ev_gf (v := .int (am_I g9 33 2)) dX6_trimmed_27 (fun h9 => (h9.2.1 33 _ rfl).2) 2 (by decide) (by decide) kF_X6_16 (fun _ => rfl) ?_
      cases h
  · refine ev_callSz [.ref 34, .int ((am_I g2 33 2) * (6 : Int32))] [.ref p1, .ref p1] dX6_trimmed_15 (am_rq_n (tJ7_copyOf_59c91 (fun _ h9 => zc_fresh h9) zc_free e5) e7) (by decide) mo_J7_copyOf_59c91 kM_X6_20 ks_J7_copyOf_59c91 (Nat.le_of_ble_eq_true rfl) ?_
    refine ev_aload_n 0 dX6_trimmed_18 rfl ?_
    refine ev_gf (v := .ref 35) dX6_trimmed_19 (fun h9 => (h9.2.1 33 _ rfl).2) 1 (by decide) (by decide) kF_X6_13 (fun h9 => congrArg va_rf (h9.2.2 33 1 35 rfl)) ?_
    refine ev_iload_n 1 dX6_trimmed_22 rfl ?_
    obtain ⟨o16, g17, e18, h⟩ := am_bd_elim h
    refine am_oc_elim h (fun p19 e20 h => ?_) (fun e20 h => ?_)
    · refine ev_callSq (v := p19) [.ref 35, .int a1] [.null, .ref p1, .ref p1] dX6_trimmed_23 (am_rq_s (tJ7_copyOf_59c91 (fun _ h9 => zc_fresh h9) zc_free e18) e20) (by decide) mo_J7_copyOf_59c91 kM_X6_20 ks_J7_copyOf_59c91 (Nat.le_of_ble_eq_true rfl) ?_
      refine ev_aload_n 0 dX6_trimmed_26 rfl ?_
      refine ev_gf (v := .int (am_I g17 33 2)) dX6_trimmed_27 (fun h9 => (h9.2.1 33 _ rfl).2) 2 (by decide) (by decide) kF_X6_16 (fun _ => rfl) ?_
      cases h
    · refine ev_callSz [.ref 35, .int a1] [.null, .ref p1, .ref p1] dX6_trimmed_23 (am_rq_n (tJ7_copyOf_59c91 (fun _ h9 => zc_fresh h9) zc_free e18) e20) (by decide) mo_J7_copyOf_59c91 kM_X6_20 ks_J7_copyOf_59c91 (Nat.le_of_ble_eq_true rfl) ?_
      refine ev_aload_n 0 dX6_trimmed_26 rfl ?_
      refine ev_gf (v := .int (am_I g17 33 2)) dX6_trimmed_27 (fun h9 => (h9.2.1 33 _ rfl).2) 2 (by decide) (by decide) kF_X6_16 (fun _ => rfl) ?_
      cases h
theorem tX6_trimmed {a1 : Int32} {g : am_G} {r : Option Nat × am_G} (h : fX6_trimmed a1 g = some r) : am_Mt zc MX6_trimmed 1 [.ref 33, .int a1] g (am_rq r) := am_Mt.of rfl (Nat.le_of_ble_eq_true rfl) (eX6_trimmed _ _ _ h)
def fX6_timesOf (a0 : Nat) (a1 : Int32) (g : am_G) : Option (Int32 × am_G) :=
  am_gd (decide (am_S g a0 = (6, 3))) <|
  am_oc (am_P g a0 0) (fun p2 =>
  am_gd (decide ((am_S g p2).1 = 20)) <|
  am_gd (am_in ((a1 * (6 : Int32)) + (5 : Int32)) ((am_S g p2).2)) <|
  some (am_I g p2 ((a1 * (6 : Int32)) + (5 : Int32)).toNatClampNeg, g)) none
set_option maxRecDepth 100000 in
set_option maxHeartbeats 4000000 in
theorem eX6_timesOf (a0 : Nat) (a1 : Int32) (g : am_G) (r : Int32 × am_G) (h : fX6_timesOf a0 a1 g = some r) : am_Ev zc MX6_timesOf 0 0 [(0, .ref a0), (1, .int a1)] [] g (am_ri r) := by
  unfold fX6_timesOf at h
  refine ev_aload_n 0 dX6_timesOf_0 rfl ?_
  obtain ⟨c1, h⟩ := am_gd_elim h
  refine am_oc_elim h (fun p2 e3 h => ?_) (fun _ h => nomatch h)
  refine ev_gf (v := .ref p2) dX6_timesOf_1 (fun _ => am_sh c1) 0 (by decide) (by decide) kF_X6_7 (fun _ => congrArg va_rf e3) ?_
  refine ev_iload_n 1 dX6_timesOf_4 rfl ?_
  refine ev_bipush dX6_timesOf_5 rfl ?_
  refine ev_imul dX6_timesOf_7 ?_
  refine ev_iconst dX6_timesOf_8 rfl ?_
  refine ev_iadd dX6_timesOf_9 ?_
  obtain ⟨c4, h⟩ := am_gd_elim h
  obtain ⟨c5, h⟩ := am_gd_elim h
  refine ev_iald dX6_timesOf_10 (fun _ => am_shk c4) (am_in_vp c5) ?_
  cases h
  exact ev_iret dX6_timesOf_11 rfl
theorem tX6_timesOf {a0 : Nat} {a1 : Int32} {g : am_G} {r : Int32 × am_G} (h : fX6_timesOf a0 a1 g = some r) : am_Mt zc MX6_timesOf 0 [.ref a0, .int a1] g (am_ri r) := am_Mt.of rfl (Nat.le_of_ble_eq_true rfl) (eX6_timesOf _ _ _ _ h)
def fX7_init (fx : Nat) (a0 : Nat) (a1 : Nat) (a2 : Nat) (g : am_G) : Option (Unit × am_G) :=
  am_let (am_n g) fun p1 =>
  am_let (am_new g 20 16) fun g2 =>
  am_gd (decide (am_S g2 a0 = (7, 6))) <|
  am_gd (decide (fx ≤ a0)) <|
  am_let (am_sp g2 a0 2 (some p1)) fun g4 =>
  am_let (am_n g4) fun p6 =>
  am_let (am_new g4 22 1024) fun g7 =>
  am_gd (decide (am_S g7 a0 = (7, 6))) <|
  am_gd (decide (fx ≤ a0)) <|
  am_let (am_sp g7 a0 3 (some p6)) fun g9 =>
  am_gd (decide (am_S g9 a0 = (7, 6))) <|
  am_gd (decide (fx ≤ a0)) <|
  am_let (am_sp g9 a0 0 (some a1)) fun g12 =>
  am_gd (decide (am_S g12 a0 = (7, 6))) <|
  am_gd (decide (fx ≤ a0)) <|
  am_let (am_sp g12 a0 1 (some a2)) fun g15 =>
  some ((), g15)
set_option maxRecDepth 100000 in
set_option maxHeartbeats 4000000 in
theorem eX7_init {Z : am_Z} {fx : Nat} (hF : ∀ g : am_G, am_ok Z g → ∀ k, Z.2 (am_n g) k = none) (hZ : ∀ a k, fx ≤ a → Z.2 a k = none) (a0 : Nat) (a1 : Nat) (a2 : Nat) (g : am_G) (r : Unit × am_G) (h : fX7_init fx a0 a1 a2 g = some r) : am_Ev Z MX7_init 0 0 [(0, .ref a0), (1, .ref a1), (2, .ref a2)] [] g (am_rv r) := by
  unfold fX7_init at h
  refine ev_aload_n 0 dX7_init_0 rfl ?_
  refine ev_objInit dX7_init_1 kM_X7_3 k_objI k_objC (Nat.le_of_ble_eq_true rfl) ?_
  refine ev_aload_n 0 dX7_init_4 rfl ?_
  refine ev_bipush dX7_init_5 rfl ?_
  refine ev_newa 20 16 dX7_init_7 (fun h9 => hF _ h9) (by decide) (by decide) kA_int (by decide) rfl (by decide) ?_
  refine am_let_elim (P := fun p1 => am_Ev Z MX7_init 0 9 [(0, .ref a0), (1, .ref a1), (2, .ref a2)] [.ref p1, .ref a0] (am_new g 20 16) (am_rv r)) h fun p1 h => ?_
  refine am_let_elim (P := fun g2 => am_Ev Z MX7_init 0 9 [(0, .ref a0), (1, .ref a1), (2, .ref a2)] [.ref p1, .ref a0] g2 (am_rv r)) h fun g2 h => ?_
  obtain ⟨c3, h⟩ := am_gd_elim h
  obtain ⟨c5, h⟩ := am_gd_elim h
  refine ev_pfr dX7_init_9 (fun _ => am_sh c3) 2 (by decide) (by decide) kF_X7_9 rfl ⟨rfl, rfl⟩ (hZ _ _ (of_decide_eq_true c5)) (fun _ => rfl) (fun _ => rfl) (fun _ => rfl) ?_
  refine am_let_elim (P := fun g4 => am_Ev Z MX7_init 0 12 [(0, .ref a0), (1, .ref a1), (2, .ref a2)] [] g4 (am_rv r)) h fun g4 h => ?_
  refine ev_aload_n 0 dX7_init_12 rfl ?_
  refine ev_sipush dX7_init_13 rfl ?_
  refine ev_newa 22 1024 dX7_init_16 (fun h9 => hF _ h9) (by decide) (by decide) kA_boolean (by decide) rfl (by decide) ?_
  refine am_let_elim (P := fun p6 => am_Ev Z MX7_init 0 18 [(0, .ref a0), (1, .ref a1), (2, .ref a2)] [.ref p6, .ref a0] (am_new g4 22 1024) (am_rv r)) h fun p6 h => ?_
  refine am_let_elim (P := fun g7 => am_Ev Z MX7_init 0 18 [(0, .ref a0), (1, .ref a1), (2, .ref a2)] [.ref p6, .ref a0] g7 (am_rv r)) h fun g7 h => ?_
  obtain ⟨c8, h⟩ := am_gd_elim h
  obtain ⟨c10, h⟩ := am_gd_elim h
  refine ev_pfr dX7_init_18 (fun _ => am_sh c8) 3 (by decide) (by decide) kF_X7_15 rfl ⟨rfl, rfl⟩ (hZ _ _ (of_decide_eq_true c10)) (fun _ => rfl) (fun _ => rfl) (fun _ => rfl) ?_
  refine am_let_elim (P := fun g9 => am_Ev Z MX7_init 0 21 [(0, .ref a0), (1, .ref a1), (2, .ref a2)] [] g9 (am_rv r)) h fun g9 h => ?_
  refine ev_aload_n 0 dX7_init_21 rfl ?_
  refine ev_aload_n 1 dX7_init_22 rfl ?_
  obtain ⟨c11, h⟩ := am_gd_elim h
  obtain ⟨c13, h⟩ := am_gd_elim h
  refine ev_pfr dX7_init_23 (fun _ => am_sh c11) 0 (by decide) (by decide) kF_X7_19 rfl ⟨rfl, rfl⟩ (hZ _ _ (of_decide_eq_true c13)) (fun _ => rfl) (fun _ => rfl) (fun _ => rfl) ?_
  refine am_let_elim (P := fun g12 => am_Ev Z MX7_init 0 26 [(0, .ref a0), (1, .ref a1), (2, .ref a2)] [] g12 (am_rv r)) h fun g12 h => ?_
  refine ev_aload_n 0 dX7_init_26 rfl ?_
  refine ev_aload_n 2 dX7_init_27 rfl ?_
  obtain ⟨c14, h⟩ := am_gd_elim h
  obtain ⟨c16, h⟩ := am_gd_elim h
  refine ev_pfr dX7_init_28 (fun _ => am_sh c14) 1 (by decide) (by decide) kF_X7_23 rfl ⟨rfl, rfl⟩ (hZ _ _ (of_decide_eq_true c16)) (fun _ => rfl) (fun _ => rfl) (fun _ => rfl) ?_
  refine am_let_elim (P := fun g15 => am_Ev Z MX7_init 0 31 [(0, .ref a0), (1, .ref a1), (2, .ref a2)] [] g15 (am_rv r)) h fun g15 h => ?_
  cases h
  exact ev_ret dX7_init_31 rfl
theorem tX7_init {Z : am_Z} {fx : Nat} (hF : ∀ g : am_G, am_ok Z g → ∀ k, Z.2 (am_n g) k = none) (hZ : ∀ a k, fx ≤ a → Z.2 a k = none) {a0 : Nat} {a1 : Nat} {a2 : Nat} {g : am_G} {r : Unit × am_G} (h : fX7_init fx a0 a1 a2 g = some r) : am_Mt Z MX7_init 0 [.ref a0, .ref a1, .ref a2] g (am_rv r) := am_Mt.of rfl (Nat.le_of_ble_eq_true rfl) (eX7_init hF hZ _ _ _ _ _ h)
def fX7_prepare_L19 (a1 : Int32) (a2 : Int32) : Nat → Int32 → am_G → Option (Unit × am_G)
  | 0, _, _ => none
  | n + 1, x4, g5 =>
    if (am_I g5 12 4) ≤ x4 then (
      some ((), g5))
    else (
      am_bd (fX0_ofSaid x4 a2 (1 : Int32) g5) fun u7 g8 =>
      am_bd (fX0_bars g8) fun v10 g11 =>
      am_jn (fun (x14 : Int32) (g15 : am_G) =>
        am_gd (am_in x4 16) <|
        am_let (am_si g15 63 x4.toNatClampNeg x14) fun g18 =>
        am_let (x4 + (1 : Int32)) fun x19 =>
        fX7_prepare_L19 a1 a2 n x19 g18) fun j16 =>
      if v10 = 0 then (
        am_gd (am_in a1 6) <|
        am_bd (fX0_shakes a1 (am_I g11 3 a1.toNatClampNeg) g11) fun v21 g22 =>
        j16 v21 g22)
      else (
        j16 (0 : Int32) g11))
def fX7_prepare (a1 : Int32) (a2 : Int32) (g : am_G) : Option (Unit × am_G) :=
  am_bd (fX0_onDay (am_I g 2 5) g) fun u1 g2 =>
  fX7_prepare_L19 a1 a2 am_fu (0 : Int32) g2
set_option maxRecDepth 100000 in
set_option maxHeartbeats 4000000 in
theorem tfX7_prepare_L19  (a1 : Int32) (a2 : Int32) : ∀ (n : Nat) (x4 : Int32) (g5 : am_G) (r : Unit × am_G), fX7_prepare_L19 a1 a2 n x4 g5 = some r → am_Ev zc MX7_prepare 4 19 [(0, .ref 62), (1, .int a1), (2, .int a2), (3, .int x4)] [] g5 (am_rv r) := by
  intro n
  induction n with
  | zero => intro x4 g5 r h; exact nomatch (show (none : Option (Unit × am_G)) = some r from h)
  | succ n ih =>
    intro x4 g5 r h
    rw [fX7_prepare_L19] at h
    refine ev_iload_n 3 dX7_prepare_19 rfl ?_
    refine ev_aload_n 0 dX7_prepare_20 rfl ?_
    refine ev_gf (v := .ref 1) dX7_prepare_21 (fun h9 => (h9.2.1 62 _ rfl).2) 0 (by decide) (by decide) kF_X7_19 (fun h9 => congrArg va_rf (h9.2.2 62 0 1 rfl)) ?_
    refine ev_gf (v := .ref 12) dX7_prepare_24 (fun h9 => (h9.2.1 1 _ rfl).2) 5 (by decide) (by decide) kF_X7_45 (fun h9 => congrArg va_rf (h9.2.2 1 5 12 rfl)) ?_
    refine ev_gf (v := .int (am_I g5 12 4)) dX7_prepare_27 (fun h9 => (h9.2.1 12 _ rfl).2) 4 (by decide) (by decide) kF_X7_49 (fun _ => rfl) ?_
    refine ev_icmp_ge 89 dX7_prepare_30 (by decide) (fun c6 => ?_) (fun c6 => ?_)
    · replace h := am_ifp c6 h
      cases h
      exact ev_ret dX7_prepare_89 rfl
    · replace h := am_ifn c6 h
      refine ev_aload_n 0 dX7_prepare_33 rfl ?_
      refine ev_gf (v := .ref 36) dX7_prepare_34 (fun h9 => (h9.2.1 62 _ rfl).2) 1 (by decide) (by decide) kF_X7_23 (fun h9 => congrArg va_rf (h9.2.2 62 1 36 rfl)) ?_
      refine ev_iload_n 3 dX7_prepare_37 rfl ?_
      refine ev_iload_n 2 dX7_prepare_38 rfl ?_
      refine ev_iconst dX7_prepare_39 rfl ?_
      obtain ⟨u7, g8, e9, h⟩ := am_bd_elim h
      refine ev_callVv [.int x4, .int a2, .int (1 : Int32)] [] dX7_prepare_40 (tX0_ofSaid e9) (by decide) mo_X0_ofSaid kM_X7_54 ki_X0_ofSaid kv_X0_ofSaid (fun h9 => (h9.2.1 36 _ rfl).2) (by decide) rfl (Nat.le_of_ble_eq_true rfl) ?_
      refine ev_aload_n 0 dX7_prepare_43 rfl ?_
      refine ev_gf (v := .ref 63) dX7_prepare_44 (fun h9 => (h9.2.1 62 _ rfl).2) 2 (by decide) (by decide) kF_X7_9 (fun h9 => congrArg va_rf (h9.2.2 62 2 63 rfl)) ?_
      refine ev_iload_n 3 dX7_prepare_47 rfl ?_
      refine ev_aload_n 0 dX7_prepare_48 rfl ?_
      refine ev_gf (v := .ref 36) dX7_prepare_49 (fun h9 => (h9.2.1 62 _ rfl).2) 1 (by decide) (by decide) kF_X7_23 (fun h9 => congrArg va_rf (h9.2.2 62 1 36 rfl)) ?_
      obtain ⟨v10, g11, e12, h⟩ := am_bd_elim h
      refine ev_callVi (v := v10) [] [.int x4, .ref 63] dX7_prepare_52 (tX0_bars e12) (by decide) mo_X0_bars kM_X7_58 ki_X0_bars kv_X0_bars (fun h9 => (h9.2.1 36 _ rfl).2) (by decide) rfl (Nat.le_of_ble_eq_true rfl) ?_
      refine am_jn_elim (fun q9 => ∀ (x14 : Int32) (g15 : am_G) (r : Unit × am_G), q9 x14 g15 = some r → am_Ev zc MX7_prepare 4 82 [(0, .ref 62), (1, .int a1), (2, .int a2), (3, .int x4)] [.int x14, .int x4, .ref 63] g15 (am_rv r)) h ?_ (fun j16 hj16 h => ?_)
      · intro x14 g15 r h
        try dsimp only at h
        obtain ⟨c17, h⟩ := am_gd_elim h
        refine ev_iast dX7_prepare_82 (fun h9 => (h9.2.1 63 _ rfl).2) (am_in_vp c17) ?_
        refine am_let_elim (P := fun g18 => am_Ev zc MX7_prepare 4 83 [(0, .ref 62), (1, .int a1), (2, .int a2), (3, .int x4)] [] g18 (am_rv r)) h fun g18 h => ?_
        obtain ⟨x19, ex19, h⟩ := am_let_ex h
        refine ev_iinc (ls' := [(3, .int x19), (0, .ref 62), (1, .int a1), (2, .int a2)]) 3 dX7_prepare_83 rfl ex19 (by decide) rfl ?_
        refine ev_goto 19 dX7_prepare_86 (by decide) ?_
        refine ev_sub [1, 2, 3, 0] rfl ?_
        exact ih _ _ _ h
      · refine ev_if_eq 62 dX7_prepare_55 (by decide) (fun c13 => ?_) (fun c13 => ?_)
        · replace h := am_ifp c13 h
          refine ev_aload_n 0 dX7_prepare_62 rfl ?_
          refine ev_gf (v := .ref 36) dX7_prepare_63 (fun h9 => (h9.2.1 62 _ rfl).2) 1 (by decide) (by decide) kF_X7_23 (fun h9 => congrArg va_rf (h9.2.2 62 1 36 rfl)) ?_
          refine ev_iload_n 1 dX7_prepare_66 rfl ?_
          refine ev_aload_n 0 dX7_prepare_67 rfl ?_
          refine ev_gf (v := .ref 1) dX7_prepare_68 (fun h9 => (h9.2.1 62 _ rfl).2) 0 (by decide) (by decide) kF_X7_19 (fun h9 => congrArg va_rf (h9.2.2 62 0 1 rfl)) ?_
          refine ev_gf (v := .ref 2) dX7_prepare_71 (fun h9 => (h9.2.1 1 _ rfl).2) 0 (by decide) (by decide) kF_X7_27 (fun h9 => congrArg va_rf (h9.2.2 1 0 2 rfl)) ?_
          refine ev_gf (v := .ref 3) dX7_prepare_74 (fun h9 => (h9.2.1 2 _ rfl).2) 0 (by decide) (by decide) kF_X7_62 (fun h9 => congrArg va_rf (h9.2.2 2 0 3 rfl)) ?_
          refine ev_iload_n 1 dX7_prepare_77 rfl ?_
          obtain ⟨c20, h⟩ := am_gd_elim h
          refine ev_iald dX7_prepare_78 (fun h9 => (h9.2.1 3 _ rfl).2) (am_in_vp c20) ?_
          obtain ⟨v21, g22, e23, h⟩ := am_bd_elim h
          refine ev_callVi (v := v21) [.int a1, .int (am_I g11 3 a1.toNatClampNeg)] [.int x4, .ref 63] dX7_prepare_79 (tX0_shakes e23) (by decide) mo_X0_shakes kM_X7_65 ki_X0_shakes kv_X0_shakes (fun h9 => (h9.2.1 36 _ rfl).2) (by decide) rfl (Nat.le_of_ble_eq_true rfl) ?_
          refine ev_sub [0, 1, 2, 3] rfl ?_
          exact hj16 _ _ _ h
        · replace h := am_ifn c13 h
          refine ev_iconst dX7_prepare_58 rfl ?_
          refine ev_goto 82 dX7_prepare_59 (by decide) ?_
          refine ev_sub [0, 1, 2, 3] rfl ?_
          exact hj16 _ _ _ h
set_option maxRecDepth 100000 in
set_option maxHeartbeats 4000000 in
theorem eX7_prepare (a1 : Int32) (a2 : Int32) (g : am_G) (r : Unit × am_G) (h : fX7_prepare a1 a2 g = some r) : am_Ev zc MX7_prepare 4 0 [(0, .ref 62), (1, .int a1), (2, .int a2)] [] g (am_rv r) := by
  unfold fX7_prepare at h
  refine ev_aload_n 0 dX7_prepare_0 rfl ?_
  refine ev_gf (v := .ref 36) dX7_prepare_1 (fun h9 => (h9.2.1 62 _ rfl).2) 1 (by decide) (by decide) kF_X7_23 (fun h9 => congrArg va_rf (h9.2.2 62 1 36 rfl)) ?_
  refine ev_aload_n 0 dX7_prepare_4 rfl ?_
  refine ev_gf (v := .ref 1) dX7_prepare_5 (fun h9 => (h9.2.1 62 _ rfl).2) 0 (by decide) (by decide) kF_X7_19 (fun h9 => congrArg va_rf (h9.2.2 62 0 1 rfl)) ?_
  refine ev_gf (v := .ref 2) dX7_prepare_8 (fun h9 => (h9.2.1 1 _ rfl).2) 0 (by decide) (by decide) kF_X7_27 (fun h9 => congrArg va_rf (h9.2.2 1 0 2 rfl)) ?_
  refine ev_gf (v := .int (am_I g 2 5)) dX7_prepare_11 (fun h9 => (h9.2.1 2 _ rfl).2) 5 (by decide) (by decide) kF_X7_33 (fun _ => rfl) ?_
  obtain ⟨u1, g2, e3, h⟩ := am_bd_elim h
  refine ev_callVv [.int (am_I g 2 5)] [] dX7_prepare_14 (tX0_onDay e3) (by decide) mo_X0_onDay kM_X7_39 ki_X0_onDay kv_X0_onDay (fun h9 => (h9.2.1 36 _ rfl).2) (by decide) rfl (Nat.le_of_ble_eq_true rfl) ?_
  refine ev_iconst dX7_prepare_17 rfl ?_
  refine ev_istore_n (ls' := [(3, .int (0 : Int32)), (0, .ref 62), (1, .int a1), (2, .int a2)]) dX7_prepare_18 rfl (by decide) rfl ?_
  refine ev_sub [1, 2, 3, 0] rfl ?_
  exact tfX7_prepare_L19 a1 a2 _ _ _ _ h
theorem tX7_prepare {a1 : Int32} {a2 : Int32} {g : am_G} {r : Unit × am_G} (h : fX7_prepare a1 a2 g = some r) : am_Mt zc MX7_prepare 4 [.ref 62, .int a1, .int a2] g (am_rv r) := am_Mt.of rfl (Nat.le_of_ble_eq_true rfl) (eX7_prepare _ _ _ _ h)
def fX7_isWinning (a1 : Int32) (a2 : Int32) (g : am_G) : Option (Int32 × am_G) :=
  am_gd (am_in a1 16) <|
  am_let (am_I g 63 a1.toNatClampNeg) fun x2 =>
  if x2 ≤ 0 then (
    some ((0 : Int32), g))
  else (
    if a2 < x2 then (
      some ((0 : Int32), g))
    else (
      am_gd (am_in ((a2 - x2) - (a2 - x2) / (1024 : Int32) * (1024 : Int32)) 1024) <|
      if (am_I g 64 ((a2 - x2) - (a2 - x2) / (1024 : Int32) * (1024 : Int32)).toNatClampNeg) = 0 then (
        some ((1 : Int32), g))
      else (
        some ((0 : Int32), g))))
set_option maxRecDepth 100000 in
set_option maxHeartbeats 4000000 in
theorem eX7_isWinning (a1 : Int32) (a2 : Int32) (g : am_G) (r : Int32 × am_G) (h : fX7_isWinning a1 a2 g = some r) : am_Ev zc MX7_isWinning 0 0 [(0, .ref 62), (1, .int a1), (2, .int a2)] [] g (am_ri r) := by
  unfold fX7_isWinning at h
  refine ev_aload_n 0 dX7_isWinning_0 rfl ?_
  refine ev_gf (v := .ref 63) dX7_isWinning_1 (fun h9 => (h9.2.1 62 _ rfl).2) 2 (by decide) (by decide) kF_X7_9 (fun h9 => congrArg va_rf (h9.2.2 62 2 63 rfl)) ?_
  refine ev_iload_n 1 dX7_isWinning_4 rfl ?_
  obtain ⟨c1, h⟩ := am_gd_elim h
  refine ev_iald dX7_isWinning_5 (fun h9 => (h9.2.1 63 _ rfl).2) (am_in_vp c1) ?_
  refine am_let_elim (P := fun x2 => am_Ev zc MX7_isWinning 0 6 [(0, .ref 62), (1, .int a1), (2, .int a2)] [.int x2] g (am_ri r)) h fun x2 h => ?_
  refine ev_istore_n (ls' := [(3, .int x2), (0, .ref 62), (1, .int a1), (2, .int a2)]) dX7_isWinning_6 rfl (by decide) rfl ?_
  refine ev_iload_n 0 dX7_isWinning_7 rfl ?_
  refine ev_if_le 35 dX7_isWinning_8 (by decide) (fun c3 => ?_) (fun c3 => ?_)
  · replace h := am_ifp c3 h
    refine ev_iconst dX7_isWinning_35 rfl ?_
    cases h
    exact ev_zret dX7_isWinning_36 rfl rfl
  · replace h := am_ifn c3 h
    refine ev_iload_n 0 dX7_isWinning_11 rfl ?_
    refine ev_iload_n 3 dX7_isWinning_12 rfl ?_
    refine ev_icmp_gt 35 dX7_isWinning_13 (by decide) (fun c4 => ?_) (fun c4 => ?_)
    · replace h := am_ifp c4 h
      refine ev_iconst dX7_isWinning_35 rfl ?_
      cases h
      exact ev_zret dX7_isWinning_36 rfl rfl
    · replace h := am_ifn c4 h
      refine ev_aload_n 1 dX7_isWinning_16 rfl ?_
      refine ev_gf (v := .ref 64) dX7_isWinning_17 (fun h9 => (h9.2.1 62 _ rfl).2) 3 (by decide) (by decide) kF_X7_15 (fun h9 => congrArg va_rf (h9.2.2 62 3 64 rfl)) ?_
      refine ev_iload_n 3 dX7_isWinning_20 rfl ?_
      refine ev_iload_n 0 dX7_isWinning_21 rfl ?_
      refine ev_isub dX7_isWinning_22 ?_
      refine ev_sipush dX7_isWinning_23 rfl ?_
      refine ev_irem dX7_isWinning_26 (by decide) ?_
      obtain ⟨c5, h⟩ := am_gd_elim h
      refine ev_zald dX7_isWinning_27 (fun h9 => (h9.2.1 64 _ rfl).2) (am_in_vp c5) ?_
      refine ev_if_ne 35 dX7_isWinning_28 (by decide) (fun c6 => ?_) (fun c6 => ?_)
      · replace h := am_ifn c6 h
        refine ev_iconst dX7_isWinning_35 rfl ?_
        cases h
        exact ev_zret dX7_isWinning_36 rfl rfl
      · replace h := am_ifp c6 h
        refine ev_iconst dX7_isWinning_31 rfl ?_
        refine ev_goto 36 dX7_isWinning_32 (by decide) ?_
        cases h
        exact ev_zret dX7_isWinning_36 rfl rfl
theorem tX7_isWinning {a1 : Int32} {a2 : Int32} {g : am_G} {r : Int32 × am_G} (h : fX7_isWinning a1 a2 g = some r) : am_Mt zc MX7_isWinning 0 [.ref 62, .int a1, .int a2] g (am_ri r) := am_Mt.of rfl (Nat.le_of_ble_eq_true rfl) (eX7_isWinning _ _ _ _ h)
def fX7_play_L20 (k : am_G → Option (Unit × am_G)) (a1 : Int32) (x1 : Int32) : Nat → Int32 → am_G → Option (Unit × am_G)
  | 0, _, _ => none
  | n + 1, x7, g8 =>
    if (am_I g8 12 4) ≤ x7 then (
      k g8)
    else (
      am_gd (am_in (x1 - x1 / (1024 : Int32) * (1024 : Int32)) 1024) <|
      if (am_I g8 64 (x1 - x1 / (1024 : Int32) * (1024 : Int32)).toNatClampNeg) = 0 then (
        am_bd (fX7_isWinning x7 x1 g8) fun v13 g14 =>
        am_gd (am_in (x1 - x1 / (1024 : Int32) * (1024 : Int32)) 1024) <|
        am_gd (am_zb v13) <|
        am_let (am_si g14 64 (x1 - x1 / (1024 : Int32) * (1024 : Int32)).toNatClampNeg v13) fun g18 =>
        am_let (x7 + (1 : Int32)) fun x19 =>
        fX7_play_L20 k a1 x1 n x19 g18)
      else (
        k g8))
def fX7_play_L2 (k : am_G → Option (Unit × am_G)) (a1 : Int32) : Nat → Int32 → am_G → Option (Unit × am_G)
  | 0, _, _ => none
  | n + 1, x1, g2 =>
    if a1 ≤ x1 then (
      k g2)
    else (
      am_gd (am_in (x1 - x1 / (1024 : Int32) * (1024 : Int32)) 1024) <|
      am_let (am_si g2 64 (x1 - x1 / (1024 : Int32) * (1024 : Int32)).toNatClampNeg (0 : Int32)) fun g6 =>
      fX7_play_L20 (fun  (g20 : am_G) =>
        am_let (x1 + (1 : Int32)) fun x21 =>
        fX7_play_L2 k a1 n x21 g20) a1 x1 am_fu (0 : Int32) g6)
def fX7_play_L98 (a1 : Int32) : Nat → Int32 → am_G → Option (Unit × am_G)
  | 0, _, _ => none
  | n + 1, x26, g27 =>
    if x26 < 0 then (
      some ((), g27))
    else (
      am_bd (fX7_isWinning x26 a1 g27) fun v29 g30 =>
      am_jn (fun  (g33 : am_G) =>
        am_let (x26 + (-1 : Int32)) fun x35 =>
        fX7_play_L98 a1 n x35 g33) fun j34 =>
      if v29 = 0 then (
        j34 g30)
      else (
        am_let (am_si g30 62 4 ((am_I g30 62 4) + (1 : Int32))) fun g36 =>
        am_let (am_si g36 62 5 x26) fun g37 =>
        j34 g37))
def fX7_play (a1 : Int32) (g : am_G) : Option (Unit × am_G) :=
  fX7_play_L2 (fun  (g22 : am_G) =>
    am_let (am_si g22 62 4 (0 : Int32)) fun g23 =>
    am_let (am_si g23 62 5 (-1 : Int32)) fun g24 =>
    am_let ((am_I g24 12 4) - (1 : Int32)) fun x25 =>
    fX7_play_L98 a1 am_fu x25 g24) a1 am_fu (0 : Int32) g
set_option maxRecDepth 100000 in
set_option maxHeartbeats 4000000 in
theorem tfX7_play_L20  {k : am_G → Option (Unit × am_G)} (a1 : Int32) (x1 : Int32) (hk : ∀  (g9 : am_G) (r : Unit × am_G), k  g9 = some r → am_Ev zc MX7_play 1 69 [(0, .ref 62), (1, .int a1), (2, .int x1)] [] g9 (am_rv r)) : ∀ (n : Nat) (x7 : Int32) (g8 : am_G) (r : Unit × am_G), fX7_play_L20 k a1 x1 n x7 g8 = some r → am_Ev zc MX7_play 1 20 [(0, .ref 62), (1, .int a1), (2, .int x1), (3, .int x7)] [] g8 (am_rv r) := by
  intro n
  induction n with
  | zero => intro x7 g8 r h; exact nomatch (show (none : Option (Unit × am_G)) = some r from h)
  | succ n ih =>
    intro x7 g8 r h
    rw [fX7_play_L20] at h
    refine ev_iload_n 3 dX7_play_20 rfl ?_
    refine ev_aload_n 0 dX7_play_21 rfl ?_
    refine ev_gf (v := .ref 1) dX7_play_22 (fun h9 => (h9.2.1 62 _ rfl).2) 0 (by decide) (by decide) kF_X7_19 (fun h9 => congrArg va_rf (h9.2.2 62 0 1 rfl)) ?_
    refine ev_gf (v := .ref 12) dX7_play_25 (fun h9 => (h9.2.1 1 _ rfl).2) 5 (by decide) (by decide) kF_X7_45 (fun h9 => congrArg va_rf (h9.2.2 1 5 12 rfl)) ?_
    refine ev_gf (v := .int (am_I g8 12 4)) dX7_play_28 (fun h9 => (h9.2.1 12 _ rfl).2) 4 (by decide) (by decide) kF_X7_49 (fun _ => rfl) ?_
    refine ev_icmp_ge 69 dX7_play_31 (by decide) (fun c10 => ?_) (fun c10 => ?_)
    · replace h := am_ifp c10 h
      refine ev_sub [0, 1, 2] rfl ?_
      exact hk  _ _ h
    · replace h := am_ifn c10 h
      refine ev_aload_n 0 dX7_play_34 rfl ?_
      refine ev_gf (v := .ref 64) dX7_play_35 (fun h9 => (h9.2.1 62 _ rfl).2) 3 (by decide) (by decide) kF_X7_15 (fun h9 => congrArg va_rf (h9.2.2 62 3 64 rfl)) ?_
      refine ev_iload_n 2 dX7_play_38 rfl ?_
      refine ev_sipush dX7_play_39 rfl ?_
      refine ev_irem dX7_play_42 (by decide) ?_
      obtain ⟨c11, h⟩ := am_gd_elim h
      refine ev_zald dX7_play_43 (fun h9 => (h9.2.1 64 _ rfl).2) (am_in_vp c11) ?_
      refine ev_if_ne 69 dX7_play_44 (by decide) (fun c12 => ?_) (fun c12 => ?_)
      · replace h := am_ifn c12 h
        refine ev_sub [0, 1, 2] rfl ?_
        exact hk  _ _ h
      · replace h := am_ifp c12 h
        refine ev_aload_n 0 dX7_play_47 rfl ?_
        refine ev_gf (v := .ref 64) dX7_play_48 (fun h9 => (h9.2.1 62 _ rfl).2) 3 (by decide) (by decide) kF_X7_15 (fun h9 => congrArg va_rf (h9.2.2 62 3 64 rfl)) ?_
        refine ev_iload_n 2 dX7_play_51 rfl ?_
        refine ev_sipush dX7_play_52 rfl ?_
        refine ev_irem dX7_play_55 (by decide) ?_
        refine ev_aload_n 0 dX7_play_56 rfl ?_
        refine ev_iload_n 3 dX7_play_57 rfl ?_
        refine ev_iload_n 2 dX7_play_58 rfl ?_
        obtain ⟨v13, g14, e15, h⟩ := am_bd_elim h
        refine ev_callVi (v := v13) [.int x7, .int x1] [.int (x1 - x1 / (1024 : Int32) * (1024 : Int32)), .ref 64] dX7_play_59 (tX7_isWinning e15) (by decide) mo_X7_isWinning kM_X7_68 ki_X7_isWinning kv_X7_isWinning (fun h9 => (h9.2.1 62 _ rfl).2) (by decide) rfl (Nat.le_of_ble_eq_true rfl) ?_
        obtain ⟨c16, h⟩ := am_gd_elim h
        obtain ⟨c17, h⟩ := am_gd_elim h
        refine ev_zast' dX7_play_62 (fun h9 => (h9.2.1 64 _ rfl).2) c17 (am_in_vp c16) ?_
        refine am_let_elim (P := fun g18 => am_Ev zc MX7_play 1 63 [(0, .ref 62), (1, .int a1), (2, .int x1), (3, .int x7)] [] g18 (am_rv r)) h fun g18 h => ?_
        obtain ⟨x19, ex19, h⟩ := am_let_ex h
        refine ev_iinc (ls' := [(3, .int x19), (0, .ref 62), (1, .int a1), (2, .int x1)]) 3 dX7_play_63 rfl ex19 (by decide) rfl ?_
        refine ev_goto 20 dX7_play_66 (by decide) ?_
        refine ev_sub [1, 2, 3, 0] rfl ?_
        exact ih _ _ _ h
set_option maxRecDepth 100000 in
set_option maxHeartbeats 4000000 in
theorem tfX7_play_L2  {k : am_G → Option (Unit × am_G)} (a1 : Int32) (hk : ∀  (g3 : am_G) (r : Unit × am_G), k  g3 = some r → am_Ev zc MX7_play 1 75 [(0, .ref 62), (1, .int a1)] [] g3 (am_rv r)) : ∀ (n : Nat) (x1 : Int32) (g2 : am_G) (r : Unit × am_G), fX7_play_L2 k a1 n x1 g2 = some r → am_Ev zc MX7_play 1 2 [(0, .ref 62), (1, .int a1), (2, .int x1)] [] g2 (am_rv r) := by
  intro n
  induction n with
  | zero => intro x1 g2 r h; exact nomatch (show (none : Option (Unit × am_G)) = some r from h)
  | succ n ih =>
    intro x1 g2 r h
    rw [fX7_play_L2] at h
    refine ev_iload_n 2 dX7_play_2 rfl ?_
    refine ev_iload_n 1 dX7_play_3 rfl ?_
    refine ev_icmp_ge 75 dX7_play_4 (by decide) (fun c4 => ?_) (fun c4 => ?_)
    · replace h := am_ifp c4 h
      refine ev_sub [0, 1] rfl ?_
      exact hk  _ _ h
    · replace h := am_ifn c4 h
      refine ev_aload_n 0 dX7_play_7 rfl ?_
      refine ev_gf (v := .ref 64) dX7_play_8 (fun h9 => (h9.2.1 62 _ rfl).2) 3 (by decide) (by decide) kF_X7_15 (fun h9 => congrArg va_rf (h9.2.2 62 3 64 rfl)) ?_
      refine ev_iload_n 2 dX7_play_11 rfl ?_
      refine ev_sipush dX7_play_12 rfl ?_
      refine ev_irem dX7_play_15 (by decide) ?_
      refine ev_iconst dX7_play_16 rfl ?_
      obtain ⟨c5, h⟩ := am_gd_elim h
      refine ev_zast' dX7_play_17 (fun h9 => (h9.2.1 64 _ rfl).2) rfl (am_in_vp c5) ?_
      refine am_let_elim (P := fun g6 => am_Ev zc MX7_play 1 18 [(0, .ref 62), (1, .int a1), (2, .int x1)] [] g6 (am_rv r)) h fun g6 h => ?_
      refine ev_iconst dX7_play_18 rfl ?_
      refine ev_istore_n (ls' := [(3, .int (0 : Int32)), (0, .ref 62), (1, .int a1), (2, .int x1)]) dX7_play_19 rfl (by decide) rfl ?_
      refine ev_sub [1, 2, 3, 0] rfl ?_
      refine tfX7_play_L20 a1 x1 ?_ _ _ _ _ h
      intro  g20 r h
      try dsimp only at h
      obtain ⟨x21, ex21, h⟩ := am_let_ex h
      refine ev_iinc (ls' := [(2, .int x21), (0, .ref 62), (1, .int a1)]) 2 dX7_play_69 rfl ex21 (by decide) rfl ?_
      refine ev_goto 2 dX7_play_72 (by decide) ?_
      refine ev_sub [1, 2, 0] rfl ?_
      exact ih _ _ _ h
set_option maxRecDepth 100000 in
set_option maxHeartbeats 4000000 in
theorem tfX7_play_L98  (a1 : Int32) : ∀ (n : Nat) (x26 : Int32) (g27 : am_G) (r : Unit × am_G), fX7_play_L98 a1 n x26 g27 = some r → am_Ev zc MX7_play 1 98 [(0, .ref 62), (1, .int a1), (2, .int x26)] [] g27 (am_rv r) := by
  intro n
  induction n with
  | zero => intro x26 g27 r h; exact nomatch (show (none : Option (Unit × am_G)) = some r from h)
  | succ n ih =>
    intro x26 g27 r h
    rw [fX7_play_L98] at h
    refine ev_iload_n 2 dX7_play_98 rfl ?_
    refine ev_if_lt 132 dX7_play_99 (by decide) (fun c28 => ?_) (fun c28 => ?_)
    · replace h := am_ifp c28 h
      cases h
      exact ev_ret dX7_play_132 rfl
    · replace h := am_ifn c28 h
      refine ev_aload_n 0 dX7_play_102 rfl ?_
      refine ev_iload_n 2 dX7_play_103 rfl ?_
      refine ev_iload_n 1 dX7_play_104 rfl ?_
      obtain ⟨v29, g30, e31, h⟩ := am_bd_elim h
      refine ev_callVi (v := v29) [.int x26, .int a1] [] dX7_play_105 (tX7_isWinning e31) (by decide) mo_X7_isWinning kM_X7_68 ki_X7_isWinning kv_X7_isWinning (fun h9 => (h9.2.1 62 _ rfl).2) (by decide) rfl (Nat.le_of_ble_eq_true rfl) ?_
      refine am_jn_elim (fun q9 => ∀  (g33 : am_G) (r : Unit × am_G), q9  g33 = some r → am_Ev zc MX7_play 1 126 [(0, .ref 62), (1, .int a1), (2, .int x26)] [] g33 (am_rv r)) h ?_ (fun j34 hj34 h => ?_)
      · intro  g33 r h
        try dsimp only at h
        obtain ⟨x35, ex35, h⟩ := am_let_ex h
        refine ev_iinc (ls' := [(2, .int x35), (0, .ref 62), (1, .int a1)]) 2 dX7_play_126 rfl ex35 (by decide) rfl ?_
        refine ev_goto 98 dX7_play_129 (by decide) ?_
        refine ev_sub [1, 2, 0] rfl ?_
        exact ih _ _ _ h
      · refine ev_if_eq 126 dX7_play_108 (by decide) (fun c32 => ?_) (fun c32 => ?_)
        · replace h := am_ifp c32 h
          refine ev_sub [0, 1, 2] rfl ?_
          exact hj34  _ _ h
        · replace h := am_ifn c32 h
          refine ev_aload_n 0 dX7_play_111 rfl ?_
          refine ev_dup dX7_play_112 rfl ?_
          refine ev_gf (v := .int (am_I g30 62 4)) dX7_play_113 (fun h9 => (h9.2.1 62 _ rfl).2) 4 (by decide) (by decide) kF_X7_72 (fun _ => rfl) ?_
          refine ev_iconst dX7_play_116 rfl ?_
          refine ev_iadd dX7_play_117 ?_
          refine ev_pfi dX7_play_118 (fun h9 => (h9.2.1 62 _ rfl).2) 4 (by decide) (by decide) kF_X7_72 rfl rfl rfl (fun _ => rfl) ?_
          refine am_let_elim (P := fun g36 => am_Ev zc MX7_play 1 121 [(0, .ref 62), (1, .int a1), (2, .int x26)] [] g36 (am_rv r)) h fun g36 h => ?_
          refine ev_aload_n 0 dX7_play_121 rfl ?_
          refine ev_iload_n 2 dX7_play_122 rfl ?_
          refine ev_pfi dX7_play_123 (fun h9 => (h9.2.1 62 _ rfl).2) 5 (by decide) (by decide) kF_X7_75 rfl rfl rfl (fun _ => rfl) ?_
          refine am_let_elim (P := fun g37 => am_Ev zc MX7_play 1 126 [(0, .ref 62), (1, .int a1), (2, .int x26)] [] g37 (am_rv r)) h fun g37 h => ?_
          refine ev_sub [0, 1, 2] rfl ?_
          exact hj34  _ _ h
set_option maxRecDepth 100000 in
set_option maxHeartbeats 4000000 in
theorem eX7_play (a1 : Int32) (g : am_G) (r : Unit × am_G) (h : fX7_play a1 g = some r) : am_Ev zc MX7_play 1 0 [(0, .ref 62), (1, .int a1)] [] g (am_rv r) := by
  unfold fX7_play at h
  refine ev_iconst dX7_play_0 rfl ?_
  refine ev_istore_n (ls' := [(2, .int (0 : Int32)), (0, .ref 62), (1, .int a1)]) dX7_play_1 rfl (by decide) rfl ?_
  refine ev_sub [1, 2, 0] rfl ?_
  refine tfX7_play_L2 a1 ?_ _ _ _ _ h
  intro  g22 r h
  try dsimp only at h
  refine ev_aload_n 0 dX7_play_75 rfl ?_
  refine ev_iconst dX7_play_76 rfl ?_
  refine ev_pfi dX7_play_77 (fun h9 => (h9.2.1 62 _ rfl).2) 4 (by decide) (by decide) kF_X7_72 rfl rfl rfl (fun _ => rfl) ?_
  refine am_let_elim (P := fun g23 => am_Ev zc MX7_play 1 80 [(0, .ref 62), (1, .int a1)] [] g23 (am_rv r)) h fun g23 h => ?_
  refine ev_aload_n 0 dX7_play_80 rfl ?_
  refine ev_iconst dX7_play_81 rfl ?_
  refine ev_pfi dX7_play_82 (fun h9 => (h9.2.1 62 _ rfl).2) 5 (by decide) (by decide) kF_X7_75 rfl rfl rfl (fun _ => rfl) ?_
  refine am_let_elim (P := fun g24 => am_Ev zc MX7_play 1 85 [(0, .ref 62), (1, .int a1)] [] g24 (am_rv r)) h fun g24 h => ?_
  refine ev_aload_n 0 dX7_play_85 rfl ?_
  refine ev_gf (v := .ref 1) dX7_play_86 (fun h9 => (h9.2.1 62 _ rfl).2) 0 (by decide) (by decide) kF_X7_19 (fun h9 => congrArg va_rf (h9.2.2 62 0 1 rfl)) ?_
  refine ev_gf (v := .ref 12) dX7_play_89 (fun h9 => (h9.2.1 1 _ rfl).2) 5 (by decide) (by decide) kF_X7_45 (fun h9 => congrArg va_rf (h9.2.2 1 5 12 rfl)) ?_
  refine ev_gf (v := .int (am_I g24 12 4)) dX7_play_92 (fun h9 => (h9.2.1 12 _ rfl).2) 4 (by decide) (by decide) kF_X7_49 (fun _ => rfl) ?_
  refine ev_iconst dX7_play_95 rfl ?_
  refine ev_isub dX7_play_96 ?_
  refine am_let_elim (P := fun x25 => am_Ev zc MX7_play 1 97 [(0, .ref 62), (1, .int a1)] [.int x25] g24 (am_rv r)) h fun x25 h => ?_
  refine ev_istore_n (ls' := [(2, .int x25), (0, .ref 62), (1, .int a1)]) dX7_play_97 rfl (by decide) rfl ?_
  refine ev_sub [1, 2, 0] rfl ?_
  exact tfX7_play_L98 a1 _ _ _ _ h
theorem tX7_play {a1 : Int32} {g : am_G} {r : Unit × am_G} (h : fX7_play a1 g = some r) : am_Mt zc MX7_play 1 [.ref 62, .int a1] g (am_rv r) := am_Mt.of rfl (Nat.le_of_ble_eq_true rfl) (eX7_play _ _ _ h)
def fX8_init (fx : Nat) (a0 : Nat) (g : am_G) : Option (Unit × am_G) :=
  am_let (am_n g) fun p1 =>
  am_let (am_new g 24 16) fun g2 =>
  am_gd (decide (am_S g2 a0 = (8, 4))) <|
  am_gd (decide (fx ≤ a0)) <|
  am_let (am_sp g2 a0 0 (some p1)) fun g4 =>
  am_let (am_n g4) fun p6 =>
  am_let (am_new g4 20 16) fun g7 =>
  am_gd (decide (am_S g7 a0 = (8, 4))) <|
  am_gd (decide (fx ≤ a0)) <|
  am_let (am_sp g7 a0 1 (some p6)) fun g9 =>
  some ((), g9)
set_option maxRecDepth 100000 in
set_option maxHeartbeats 4000000 in
theorem eX8_init {Z : am_Z} {fx : Nat} (hF : ∀ g : am_G, am_ok Z g → ∀ k, Z.2 (am_n g) k = none) (hZ : ∀ a k, fx ≤ a → Z.2 a k = none) (a0 : Nat) (g : am_G) (r : Unit × am_G) (h : fX8_init fx a0 g = some r) : am_Ev Z MX8_init 0 0 [(0, .ref a0)] [] g (am_rv r) := by
  unfold fX8_init at h
  refine ev_aload_n 0 dX8_init_0 rfl ?_
  refine ev_objInit dX8_init_1 kM_X8_3 k_objI k_objC (Nat.le_of_ble_eq_true rfl) ?_
  refine ev_aload_n 0 dX8_init_4 rfl ?_
  refine ev_bipush dX8_init_5 rfl ?_
  refine ev_newq 24 16 dX8_init_7 (fun h9 => hF _ h9) (by decide) (by decide) kC_X8_9 (by decide) rfl (by decide) ?_
  refine am_let_elim (P := fun p1 => am_Ev Z MX8_init 0 10 [(0, .ref a0)] [.ref p1, .ref a0] (am_new g 24 16) (am_rv r)) h fun p1 h => ?_
  refine am_let_elim (P := fun g2 => am_Ev Z MX8_init 0 10 [(0, .ref a0)] [.ref p1, .ref a0] g2 (am_rv r)) h fun g2 h => ?_
  obtain ⟨c3, h⟩ := am_gd_elim h
  obtain ⟨c5, h⟩ := am_gd_elim h
  refine ev_pfr dX8_init_10 (fun _ => am_sh c3) 0 (by decide) (by decide) kF_X8_11 rfl ⟨rfl, rfl⟩ (hZ _ _ (of_decide_eq_true c5)) (fun _ => rfl) (fun _ => rfl) (fun _ => rfl) ?_
  refine am_let_elim (P := fun g4 => am_Ev Z MX8_init 0 13 [(0, .ref a0)] [] g4 (am_rv r)) h fun g4 h => ?_
  refine ev_aload_n 0 dX8_init_13 rfl ?_
  refine ev_bipush dX8_init_14 rfl ?_
  refine ev_newa 20 16 dX8_init_16 (fun h9 => hF _ h9) (by decide) (by decide) kA_int (by decide) rfl (by decide) ?_
  refine am_let_elim (P := fun p6 => am_Ev Z MX8_init 0 18 [(0, .ref a0)] [.ref p6, .ref a0] (am_new g4 20 16) (am_rv r)) h fun p6 h => ?_
  refine am_let_elim (P := fun g7 => am_Ev Z MX8_init 0 18 [(0, .ref a0)] [.ref p6, .ref a0] g7 (am_rv r)) h fun g7 h => ?_
  obtain ⟨c8, h⟩ := am_gd_elim h
  obtain ⟨c10, h⟩ := am_gd_elim h
  refine ev_pfr dX8_init_18 (fun _ => am_sh c8) 1 (by decide) (by decide) kF_X8_17 rfl ⟨rfl, rfl⟩ (hZ _ _ (of_decide_eq_true c10)) (fun _ => rfl) (fun _ => rfl) (fun _ => rfl) ?_
  refine am_let_elim (P := fun g9 => am_Ev Z MX8_init 0 21 [(0, .ref a0)] [] g9 (am_rv r)) h fun g9 h => ?_
  cases h
  exact ev_ret dX8_init_21 rfl
theorem tX8_init {Z : am_Z} {fx : Nat} (hF : ∀ g : am_G, am_ok Z g → ∀ k, Z.2 (am_n g) k = none) (hZ : ∀ a k, fx ≤ a → Z.2 a k = none) {a0 : Nat} {g : am_G} {r : Unit × am_G} (h : fX8_init fx a0 g = some r) : am_Mt Z MX8_init 0 [.ref a0] g (am_rv r) := am_Mt.of rfl (Nat.le_of_ble_eq_true rfl) (eX8_init hF hZ _ _ _ h)
def fX8_keep (a1 : Nat) (a2 : Int32) (g : am_G) : Option (Unit × am_G) :=
  am_gd (am_in (am_I g 26 2) 16) <|
  am_oc (am_P g 27 (am_I g 26 2).toNatClampNeg) (fun p2 =>
    am_gd (am_in (am_I g 26 2) 16) <|
    am_oc (am_P g 27 (am_I g 26 2).toNatClampNeg) (fun p5 =>
      am_gd (decide (am_S g p5 = (2, 8))) <|
      am_bd (fX2_copyFrom p5 a1 g) fun u7 g8 =>
      am_gd (am_in (am_I g8 26 2) 16) <|
      am_let (am_si g8 28 (am_I g8 26 2).toNatClampNeg a2) fun g12 =>
      am_let (am_si g12 26 2 (((am_I g12 26 2) + (1 : Int32)) - ((am_I g12 26 2) + (1 : Int32)) / (16 : Int32) * (16 : Int32))) fun g13 =>
      am_let (am_si g13 26 3 (am_min (16 : Int32) ((am_I g13 26 3) + (1 : Int32)))) fun g14 =>
      some ((), g14))
     (
      none))
   (
    am_let (am_n g) fun p15 =>
    am_let (am_new g 2 8) fun g16 =>
    am_bd (fX2_init zc_n p15 g16) fun u17 g18 =>
    am_gd (am_in (am_I g 26 2) 16) <|
    am_gd (decide (am_S g18 p15 = (2, 8))) <|
    am_let (am_sp g18 27 (am_I g 26 2).toNatClampNeg (some p15)) fun g22 =>
    am_gd (am_in (am_I g22 26 2) 16) <|
    am_oc (am_P g22 27 (am_I g22 26 2).toNatClampNeg) (fun p24 =>
      am_gd (decide (am_S g22 p24 = (2, 8))) <|
      am_bd (fX2_copyFrom p24 a1 g22) fun u26 g27 =>
      am_gd (am_in (am_I g27 26 2) 16) <|
      am_let (am_si g27 28 (am_I g27 26 2).toNatClampNeg a2) fun g31 =>
      am_let (am_si g31 26 2 (((am_I g31 26 2) + (1 : Int32)) - ((am_I g31 26 2) + (1 : Int32)) / (16 : Int32) * (16 : Int32))) fun g32 =>
      am_let (am_si g32 26 3 (am_min (16 : Int32) ((am_I g32 26 3) + (1 : Int32)))) fun g33 =>
      some ((), g33))
     (
      none))
set_option maxRecDepth 100000 in
set_option maxHeartbeats 4000000 in
theorem eX8_keep (a1 : Nat) (a2 : Int32) (g : am_G) (r : Unit × am_G) (h : fX8_keep a1 a2 g = some r) : am_Ev zc MX8_keep 1 0 [(0, .ref 26), (1, .ref a1), (2, .int a2)] [] g (am_rv r) := by
  unfold fX8_keep at h
  refine ev_aload_n 0 dX8_keep_0 rfl ?_
  refine ev_gf (v := .ref 27) dX8_keep_1 (fun h9 => (h9.2.1 26 _ rfl).2) 0 (by decide) (by decide) kF_X8_11 (fun h9 => congrArg va_rf (h9.2.2 26 0 27 rfl)) ?_
  refine ev_aload_n 0 dX8_keep_4 rfl ?_
  refine ev_gf (v := .int (am_I g 26 2)) dX8_keep_5 (fun h9 => (h9.2.1 26 _ rfl).2) 2 (by decide) (by decide) kF_X8_21 (fun _ => rfl) ?_
  obtain ⟨c1, h⟩ := am_gd_elim h
  refine am_oc_elim h (fun p2 e3 h => ?_) (fun e3 h => ?_)
  · refine ev_aald (v := .ref p2) dX8_keep_8 (fun h9 => (h9.2.1 27 _ rfl).2) (by decide) (by decide) (am_in_vp c1) (fun _ => congrArg va_rf e3) ?_
    refine ev_ifnonnull 28 dX8_keep_9 (by decide) ?_
    refine ev_aload_n 0 dX8_keep_28 rfl ?_
    refine ev_gf (v := .ref 27) dX8_keep_29 (fun h9 => (h9.2.1 26 _ rfl).2) 0 (by decide) (by decide) kF_X8_11 (fun h9 => congrArg va_rf (h9.2.2 26 0 27 rfl)) ?_
    refine ev_aload_n 0 dX8_keep_32 rfl ?_
    refine ev_gf (v := .int (am_I g 26 2)) dX8_keep_33 (fun h9 => (h9.2.1 26 _ rfl).2) 2 (by decide) (by decide) kF_X8_21 (fun _ => rfl) ?_
    obtain ⟨c4, h⟩ := am_gd_elim h
    refine am_oc_elim h (fun p5 e6 h => ?_) (fun e6 h => ?_)
    · refine ev_aald (v := .ref p5) dX8_keep_36 (fun h9 => (h9.2.1 27 _ rfl).2) (by decide) (by decide) (am_in_vp c4) (fun _ => congrArg va_rf e6) ?_
      refine ev_aload_n 1 dX8_keep_37 rfl ?_
      obtain ⟨c10, h⟩ := am_gd_elim h
      obtain ⟨u7, g8, e9, h⟩ := am_bd_elim h
      refine ev_callVv [.ref a1] [] dX8_keep_38 (tX2_copyFrom e9) (by decide) mo_X2_copyFrom kM_X8_26 ki_X2_copyFrom kv_X2_copyFrom (fun _ => am_sh c10) (by decide) rfl (Nat.le_of_ble_eq_true rfl) ?_
      refine ev_aload_n 0 dX8_keep_41 rfl ?_
      refine ev_gf (v := .ref 28) dX8_keep_42 (fun h9 => (h9.2.1 26 _ rfl).2) 1 (by decide) (by decide) kF_X8_17 (fun h9 => congrArg va_rf (h9.2.2 26 1 28 rfl)) ?_
      refine ev_aload_n 0 dX8_keep_45 rfl ?_
      refine ev_gf (v := .int (am_I g8 26 2)) dX8_keep_46 (fun h9 => (h9.2.1 26 _ rfl).2) 2 (by decide) (by decide) kF_X8_21 (fun _ => rfl) ?_
      refine ev_iload_n 2 dX8_keep_49 rfl ?_
      obtain ⟨c11, h⟩ := am_gd_elim h
      refine ev_iast dX8_keep_50 (fun h9 => (h9.2.1 28 _ rfl).2) (am_in_vp c11) ?_
      refine am_let_elim (P := fun g12 => am_Ev zc MX8_keep 1 51 [(0, .ref 26), (1, .ref a1), (2, .int a2)] [] g12 (am_rv r)) h fun g12 h => ?_
      refine ev_aload_n 0 dX8_keep_51 rfl ?_
      refine ev_aload_n 0 dX8_keep_52 rfl ?_
      refine ev_gf (v := .int (am_I g12 26 2)) dX8_keep_53 (fun h9 => (h9.2.1 26 _ rfl).2) 2 (by decide) (by decide) kF_X8_21 (fun _ => rfl) ?_
      refine ev_iconst dX8_keep_56 rfl ?_
      refine ev_iadd dX8_keep_57 ?_
      refine ev_bipush dX8_keep_58 rfl ?_
      refine ev_irem dX8_keep_60 (by decide) ?_
      refine ev_pfi dX8_keep_61 (fun h9 => (h9.2.1 26 _ rfl).2) 2 (by decide) (by decide) kF_X8_21 rfl rfl rfl (fun _ => rfl) ?_
      refine am_let_elim (P := fun g13 => am_Ev zc MX8_keep 1 64 [(0, .ref 26), (1, .ref a1), (2, .int a2)] [] g13 (am_rv r)) h fun g13 h => ?_
      refine ev_aload_n 0 dX8_keep_64 rfl ?_
      refine ev_bipush dX8_keep_65 rfl ?_
      refine ev_aload_n 0 dX8_keep_67 rfl ?_
      refine ev_gf (v := .int (am_I g13 26 3)) dX8_keep_68 (fun h9 => (h9.2.1 26 _ rfl).2) 3 (by decide) (by decide) kF_X8_30 (fun _ => rfl) ?_
      refine ev_iconst dX8_keep_71 rfl ?_
      refine ev_iadd dX8_keep_72 ?_
      refine ev_min dX8_keep_73 kM_X8_33 k_minS kS_Math k_minC (Nat.le_of_ble_eq_true rfl) ?_
      refine ev_pfi dX8_keep_76 (fun h9 => (h9.2.1 26 _ rfl).2) 3 (by decide) (by decide) kF_X8_30 rfl rfl rfl (fun _ => rfl) ?_
      refine am_let_elim (P := fun g14 => am_Ev zc MX8_keep 1 79 [(0, .ref 26), (1, .ref a1), (2, .int a2)] [] g14 (am_rv r)) h fun g14 h => ?_
      cases h
      exact ev_ret dX8_keep_79 rfl
    · refine ev_aald (v := .null) dX8_keep_36 (fun h9 => (h9.2.1 27 _ rfl).2) (by decide) (by decide) (am_in_vp c4) (fun _ => congrArg va_rf e6) ?_
      refine ev_aload_n 1 dX8_keep_37 rfl ?_
      cases h
  · refine ev_aald (v := .null) dX8_keep_8 (fun h9 => (h9.2.1 27 _ rfl).2) (by decide) (by decide) (am_in_vp c1) (fun _ => congrArg va_rf e3) ?_
    refine ev_ifnonnullN dX8_keep_9 ?_
    refine ev_aload_n 0 dX8_keep_12 rfl ?_
    refine ev_gf (v := .ref 27) dX8_keep_13 (fun h9 => (h9.2.1 26 _ rfl).2) 0 (by decide) (by decide) kF_X8_11 (fun h9 => congrArg va_rf (h9.2.2 26 0 27 rfl)) ?_
    refine ev_aload_n 0 dX8_keep_16 rfl ?_
    refine ev_gf (v := .int (am_I g 26 2)) dX8_keep_17 (fun h9 => (h9.2.1 26 _ rfl).2) 2 (by decide) (by decide) kF_X8_21 (fun _ => rfl) ?_
    refine ev_new 2 dX8_keep_20 zc_fresh (by decide) kC_X8_9 ?_
    refine am_let_elim (P := fun p15 => am_Ev zc MX8_keep 1 23 [(0, .ref 26), (1, .ref a1), (2, .int a2)] [.ref p15, .int (am_I g 26 2), .ref 27] (am_new g 2 8) (am_rv r)) h fun p15 h => ?_
    refine am_let_elim (P := fun g16 => am_Ev zc MX8_keep 1 23 [(0, .ref 26), (1, .ref a1), (2, .int a2)] [.ref p15, .int (am_I g 26 2), .ref 27] g16 (am_rv r)) h fun g16 h => ?_
    refine ev_dup dX8_keep_23 rfl ?_
    obtain ⟨u17, g18, e19, h⟩ := am_bd_elim h
    refine ev_callIN (as := []) (rest := [.ref p15, .int (am_I g 26 2), .ref 27]) dX8_keep_24 (tX2_init (fun _ h9 => zc_fresh h9) zc_free e19) (by decide) mo_X2_init kN_X8_25 ki_X2_init ⟨rfl, rfl⟩ (Nat.le_of_ble_eq_true rfl) ?_
    obtain ⟨c20, h⟩ := am_gd_elim h
    obtain ⟨c21, h⟩ := am_gd_elim h
    refine ev_aast dX8_keep_27 (fun h9 => (h9.2.1 27 _ rfl).2) (by decide) (by decide) (fun _ => am_sh c21) (am_in_vp c20) (fun _ => rfl) ?_
    refine am_let_elim (P := fun g22 => am_Ev zc MX8_keep 1 28 [(0, .ref 26), (1, .ref a1), (2, .int a2)] [] g22 (am_rv r)) h fun g22 h => ?_
    refine ev_aload_n 0 dX8_keep_28 rfl ?_
    refine ev_gf (v := .ref 27) dX8_keep_29 (fun h9 => (h9.2.1 26 _ rfl).2) 0 (by decide) (by decide) kF_X8_11 (fun h9 => congrArg va_rf (h9.2.2 26 0 27 rfl)) ?_
    refine ev_aload_n 0 dX8_keep_32 rfl ?_
    refine ev_gf (v := .int (am_I g22 26 2)) dX8_keep_33 (fun h9 => (h9.2.1 26 _ rfl).2) 2 (by decide) (by decide) kF_X8_21 (fun _ => rfl) ?_
    obtain ⟨c23, h⟩ := am_gd_elim h
    refine am_oc_elim h (fun p24 e25 h => ?_) (fun e25 h => ?_)
    · refine ev_aald (v := .ref p24) dX8_keep_36 (fun h9 => (h9.2.1 27 _ rfl).2) (by decide) (by decide) (am_in_vp c23) (fun _ => congrArg va_rf e25) ?_
      refine ev_aload_n 1 dX8_keep_37 rfl ?_
      obtain ⟨c29, h⟩ := am_gd_elim h
      obtain ⟨u26, g27, e28, h⟩ := am_bd_elim h
      refine ev_callVv [.ref a1] [] dX8_keep_38 (tX2_copyFrom e28) (by decide) mo_X2_copyFrom kM_X8_26 ki_X2_copyFrom kv_X2_copyFrom (fun _ => am_sh c29) (by decide) rfl (Nat.le_of_ble_eq_true rfl) ?_
      refine ev_aload_n 0 dX8_keep_41 rfl ?_
      refine ev_gf (v := .ref 28) dX8_keep_42 (fun h9 => (h9.2.1 26 _ rfl).2) 1 (by decide) (by decide) kF_X8_17 (fun h9 => congrArg va_rf (h9.2.2 26 1 28 rfl)) ?_
      refine ev_aload_n 0 dX8_keep_45 rfl ?_
      refine ev_gf (v := .int (am_I g27 26 2)) dX8_keep_46 (fun h9 => (h9.2.1 26 _ rfl).2) 2 (by decide) (by decide) kF_X8_21 (fun _ => rfl) ?_
      refine ev_iload_n 2 dX8_keep_49 rfl ?_
      obtain ⟨c30, h⟩ := am_gd_elim h
      refine ev_iast dX8_keep_50 (fun h9 => (h9.2.1 28 _ rfl).2) (am_in_vp c30) ?_
      refine am_let_elim (P := fun g31 => am_Ev zc MX8_keep 1 51 [(0, .ref 26), (1, .ref a1), (2, .int a2)] [] g31 (am_rv r)) h fun g31 h => ?_
      refine ev_aload_n 0 dX8_keep_51 rfl ?_
      refine ev_aload_n 0 dX8_keep_52 rfl ?_
      refine ev_gf (v := .int (am_I g31 26 2)) dX8_keep_53 (fun h9 => (h9.2.1 26 _ rfl).2) 2 (by decide) (by decide) kF_X8_21 (fun _ => rfl) ?_
      refine ev_iconst dX8_keep_56 rfl ?_
      refine ev_iadd dX8_keep_57 ?_
      refine ev_bipush dX8_keep_58 rfl ?_
      refine ev_irem dX8_keep_60 (by decide) ?_
      refine ev_pfi dX8_keep_61 (fun h9 => (h9.2.1 26 _ rfl).2) 2 (by decide) (by decide) kF_X8_21 rfl rfl rfl (fun _ => rfl) ?_
      refine am_let_elim (P := fun g32 => am_Ev zc MX8_keep 1 64 [(0, .ref 26), (1, .ref a1), (2, .int a2)] [] g32 (am_rv r)) h fun g32 h => ?_
      refine ev_aload_n 0 dX8_keep_64 rfl ?_
      refine ev_bipush dX8_keep_65 rfl ?_
      refine ev_aload_n 0 dX8_keep_67 rfl ?_
      refine ev_gf (v := .int (am_I g32 26 3)) dX8_keep_68 (fun h9 => (h9.2.1 26 _ rfl).2) 3 (by decide) (by decide) kF_X8_30 (fun _ => rfl) ?_
      refine ev_iconst dX8_keep_71 rfl ?_
      refine ev_iadd dX8_keep_72 ?_
      refine ev_min dX8_keep_73 kM_X8_33 k_minS kS_Math k_minC (Nat.le_of_ble_eq_true rfl) ?_
      refine ev_pfi dX8_keep_76 (fun h9 => (h9.2.1 26 _ rfl).2) 3 (by decide) (by decide) kF_X8_30 rfl rfl rfl (fun _ => rfl) ?_
      refine am_let_elim (P := fun g33 => am_Ev zc MX8_keep 1 79 [(0, .ref 26), (1, .ref a1), (2, .int a2)] [] g33 (am_rv r)) h fun g33 h => ?_
      cases h
      exact ev_ret dX8_keep_79 rfl
    · refine ev_aald (v := .null) dX8_keep_36 (fun h9 => (h9.2.1 27 _ rfl).2) (by decide) (by decide) (am_in_vp c23) (fun _ => congrArg va_rf e25) ?_
      refine ev_aload_n 1 dX8_keep_37 rfl ?_
      cases h
theorem tX8_keep {a1 : Nat} {a2 : Int32} {g : am_G} {r : Unit × am_G} (h : fX8_keep a1 a2 g = some r) : am_Mt zc MX8_keep 1 [.ref 26, .ref a1, .int a2] g (am_rv r) := am_Mt.of rfl (Nat.le_of_ble_eq_true rfl) (eX8_keep _ _ _ _ h)
def fX8_giveBack (a1 : Nat) (g : am_G) : Option (Int32 × am_G) :=
  am_let ((((am_I g 26 2) + (16 : Int32)) - (1 : Int32)) - (((am_I g 26 2) + (16 : Int32)) - (1 : Int32)) / (16 : Int32) * (16 : Int32)) fun x1 =>
  if (am_I g 26 3) = 0 then (
    some ((-1 : Int32), g))
  else (
    am_gd (am_in x1 16) <|
    am_oc (am_P g 27 x1.toNatClampNeg) (fun p4 =>
      am_gd (am_in x1 16) <|
      am_oc (am_P g 27 x1.toNatClampNeg) (fun p7 =>
        am_gd (decide (am_S g a1 = (2, 8))) <|
        am_bd (fX2_copyFrom a1 p7 g) fun u9 g10 =>
        am_let (am_si g10 26 2 x1) fun g13 =>
        am_let (am_si g13 26 3 ((am_I g13 26 3) - (1 : Int32))) fun g14 =>
        am_gd (am_in x1 16) <|
        some (am_I g14 28 x1.toNatClampNeg, g14))
       (
        none))
     (
      some ((-1 : Int32), g)))
set_option maxRecDepth 100000 in
set_option maxHeartbeats 4000000 in
theorem eX8_giveBack (a1 : Nat) (g : am_G) (r : Int32 × am_G) (h : fX8_giveBack a1 g = some r) : am_Ev zc MX8_giveBack 1 0 [(0, .ref 26), (1, .ref a1)] [] g (am_ri r) := by
  unfold fX8_giveBack at h
  refine ev_aload_n 0 dX8_giveBack_0 rfl ?_
  refine ev_gf (v := .int (am_I g 26 2)) dX8_giveBack_1 (fun h9 => (h9.2.1 26 _ rfl).2) 2 (by decide) (by decide) kF_X8_21 (fun _ => rfl) ?_
  refine ev_bipush dX8_giveBack_4 rfl ?_
  refine ev_iadd dX8_giveBack_6 ?_
  refine ev_iconst dX8_giveBack_7 rfl ?_
  refine ev_isub dX8_giveBack_8 ?_
  refine ev_bipush dX8_giveBack_9 rfl ?_
  refine ev_irem dX8_giveBack_11 (by decide) ?_
  refine am_let_elim (P := fun x1 => am_Ev zc MX8_giveBack 1 12 [(0, .ref 26), (1, .ref a1)] [.int x1] g (am_ri r)) h fun x1 h => ?_
  refine ev_istore_n (ls' := [(2, .int x1), (0, .ref 26), (1, .ref a1)]) dX8_giveBack_12 rfl (by decide) rfl ?_
  refine ev_aload_n 1 dX8_giveBack_13 rfl ?_
  refine ev_gf (v := .int (am_I g 26 3)) dX8_giveBack_14 (fun h9 => (h9.2.1 26 _ rfl).2) 3 (by decide) (by decide) kF_X8_30 (fun _ => rfl) ?_
  refine ev_if_eq 29 dX8_giveBack_17 (by decide) (fun c2 => ?_) (fun c2 => ?_)
  · replace h := am_ifp c2 h
    refine ev_iconst dX8_giveBack_29 rfl ?_
    cases h
    exact ev_iret dX8_giveBack_30 rfl
  · replace h := am_ifn c2 h
    refine ev_aload_n 1 dX8_giveBack_20 rfl ?_
    refine ev_gf (v := .ref 27) dX8_giveBack_21 (fun h9 => (h9.2.1 26 _ rfl).2) 0 (by decide) (by decide) kF_X8_11 (fun h9 => congrArg va_rf (h9.2.2 26 0 27 rfl)) ?_
    refine ev_iload_n 0 dX8_giveBack_24 rfl ?_
    obtain ⟨c3, h⟩ := am_gd_elim h
    refine am_oc_elim h (fun p4 e5 h => ?_) (fun e5 h => ?_)
    · refine ev_aald (v := .ref p4) dX8_giveBack_25 (fun h9 => (h9.2.1 27 _ rfl).2) (by decide) (by decide) (am_in_vp c3) (fun _ => congrArg va_rf e5) ?_
      refine ev_ifnonnull 31 dX8_giveBack_26 (by decide) ?_
      refine ev_aload_n 2 dX8_giveBack_31 rfl ?_
      refine ev_aload_n 1 dX8_giveBack_32 rfl ?_
      refine ev_gf (v := .ref 27) dX8_giveBack_33 (fun h9 => (h9.2.1 26 _ rfl).2) 0 (by decide) (by decide) kF_X8_11 (fun h9 => congrArg va_rf (h9.2.2 26 0 27 rfl)) ?_
      refine ev_iload_n 0 dX8_giveBack_36 rfl ?_
      obtain ⟨c6, h⟩ := am_gd_elim h
      refine am_oc_elim h (fun p7 e8 h => ?_) (fun e8 h => ?_)
      · refine ev_aald (v := .ref p7) dX8_giveBack_37 (fun h9 => (h9.2.1 27 _ rfl).2) (by decide) (by decide) (am_in_vp c6) (fun _ => congrArg va_rf e8) ?_
        obtain ⟨c12, h⟩ := am_gd_elim h
        obtain ⟨u9, g10, e11, h⟩ := am_bd_elim h
        refine ev_callVv [.ref p7] [] dX8_giveBack_38 (tX2_copyFrom e11) (by decide) mo_X2_copyFrom kM_X8_26 ki_X2_copyFrom kv_X2_copyFrom (fun _ => am_sh c12) (by decide) rfl (Nat.le_of_ble_eq_true rfl) ?_
        refine ev_aload_n 1 dX8_giveBack_41 rfl ?_
        refine ev_iload_n 0 dX8_giveBack_42 rfl ?_
        refine ev_pfi dX8_giveBack_43 (fun h9 => (h9.2.1 26 _ rfl).2) 2 (by decide) (by decide) kF_X8_21 rfl rfl rfl (fun _ => rfl) ?_
        refine am_let_elim (P := fun g13 => am_Ev zc MX8_giveBack 1 46 [(2, .int x1), (0, .ref 26), (1, .ref a1)] [] g13 (am_ri r)) h fun g13 h => ?_
        refine ev_aload_n 1 dX8_giveBack_46 rfl ?_
        refine ev_dup dX8_giveBack_47 rfl ?_
        refine ev_gf (v := .int (am_I g13 26 3)) dX8_giveBack_48 (fun h9 => (h9.2.1 26 _ rfl).2) 3 (by decide) (by decide) kF_X8_30 (fun _ => rfl) ?_
        refine ev_iconst dX8_giveBack_51 rfl ?_
        refine ev_isub dX8_giveBack_52 ?_
        refine ev_pfi dX8_giveBack_53 (fun h9 => (h9.2.1 26 _ rfl).2) 3 (by decide) (by decide) kF_X8_30 rfl rfl rfl (fun _ => rfl) ?_
        refine am_let_elim (P := fun g14 => am_Ev zc MX8_giveBack 1 56 [(2, .int x1), (0, .ref 26), (1, .ref a1)] [] g14 (am_ri r)) h fun g14 h => ?_
        refine ev_aload_n 1 dX8_giveBack_56 rfl ?_
        refine ev_gf (v := .ref 28) dX8_giveBack_57 (fun h9 => (h9.2.1 26 _ rfl).2) 1 (by decide) (by decide) kF_X8_17 (fun h9 => congrArg va_rf (h9.2.2 26 1 28 rfl)) ?_
        refine ev_iload_n 0 dX8_giveBack_60 rfl ?_
        obtain ⟨c15, h⟩ := am_gd_elim h
        refine ev_iald dX8_giveBack_61 (fun h9 => (h9.2.1 28 _ rfl).2) (am_in_vp c15) ?_
        cases h
        exact ev_iret dX8_giveBack_62 rfl
      · refine ev_aald (v := .null) dX8_giveBack_37 (fun h9 => (h9.2.1 27 _ rfl).2) (by decide) (by decide) (am_in_vp c6) (fun _ => congrArg va_rf e8) ?_
        cases h
    · refine ev_aald (v := .null) dX8_giveBack_25 (fun h9 => (h9.2.1 27 _ rfl).2) (by decide) (by decide) (am_in_vp c3) (fun _ => congrArg va_rf e5) ?_
      refine ev_ifnonnullN dX8_giveBack_26 ?_
      refine ev_iconst dX8_giveBack_29 rfl ?_
      cases h
      exact ev_iret dX8_giveBack_30 rfl
theorem tX8_giveBack {a1 : Nat} {g : am_G} {r : Int32 × am_G} (h : fX8_giveBack a1 g = some r) : am_Mt zc MX8_giveBack 1 [.ref 26, .ref a1] g (am_ri r) := am_Mt.of rfl (Nat.le_of_ble_eq_true rfl) (eX8_giveBack _ _ _ h)
def fX8_clear (g : am_G) : Option (Unit × am_G) :=
  am_let (am_si g 26 3 (0 : Int32)) fun g1 =>
  some ((), g1)
set_option maxRecDepth 100000 in
set_option maxHeartbeats 4000000 in
theorem eX8_clear (g : am_G) (r : Unit × am_G) (h : fX8_clear g = some r) : am_Ev zc MX8_clear 0 0 [(0, .ref 26)] [] g (am_rv r) := by
  unfold fX8_clear at h
  refine ev_aload_n 0 dX8_clear_0 rfl ?_
  refine ev_iconst dX8_clear_1 rfl ?_
  refine ev_pfi dX8_clear_2 (fun h9 => (h9.2.1 26 _ rfl).2) 3 (by decide) (by decide) kF_X8_30 rfl rfl rfl (fun _ => rfl) ?_
  refine am_let_elim (P := fun g1 => am_Ev zc MX8_clear 0 5 [(0, .ref 26)] [] g1 (am_rv r)) h fun g1 h => ?_
  cases h
  exact ev_ret dX8_clear_5 rfl
theorem tX8_clear {g : am_G} {r : Unit × am_G} (h : fX8_clear g = some r) : am_Mt zc MX8_clear 0 [.ref 26] g (am_rv r) := am_Mt.of rfl (Nat.le_of_ble_eq_true rfl) (eX8_clear _ _ h)
def fX10_init (fx : Nat) (a0 : Nat) (g : am_G) : Option (Unit × am_G) :=
  am_let (am_n g) fun p1 =>
  am_let (am_new g 20 16) fun g2 =>
  am_gd (decide (am_S g2 a0 = (10, 5))) <|
  am_gd (decide (fx ≤ a0)) <|
  am_let (am_sp g2 a0 0 (some p1)) fun g4 =>
  am_let (am_n g4) fun p6 =>
  am_let (am_new g4 20 16) fun g7 =>
  am_gd (decide (am_S g7 a0 = (10, 5))) <|
  am_gd (decide (fx ≤ a0)) <|
  am_let (am_sp g7 a0 1 (some p6)) fun g9 =>
  am_let (am_n g9) fun p11 =>
  am_let (am_new g9 20 16) fun g12 =>
  am_gd (decide (am_S g12 a0 = (10, 5))) <|
  am_gd (decide (fx ≤ a0)) <|
  am_let (am_sp g12 a0 2 (some p11)) fun g14 =>
  am_let (am_n g14) fun p16 =>
  am_let (am_new g14 20 16) fun g17 =>
  am_gd (decide (am_S g17 a0 = (10, 5))) <|
  am_gd (decide (fx ≤ a0)) <|
  am_let (am_sp g17 a0 3 (some p16)) fun g19 =>
  some ((), g19)
set_option maxRecDepth 100000 in
set_option maxHeartbeats 4000000 in
theorem eX10_init {Z : am_Z} {fx : Nat} (hF : ∀ g : am_G, am_ok Z g → ∀ k, Z.2 (am_n g) k = none) (hZ : ∀ a k, fx ≤ a → Z.2 a k = none) (a0 : Nat) (g : am_G) (r : Unit × am_G) (h : fX10_init fx a0 g = some r) : am_Ev Z MX10_init 0 0 [(0, .ref a0)] [] g (am_rv r) := by
  unfold fX10_init at h
  refine ev_aload_n 0 dX10_init_0 rfl ?_
  refine ev_objInit dX10_init_1 kM_X10_3 k_objI k_objC (Nat.le_of_ble_eq_true rfl) ?_
  refine ev_aload_n 0 dX10_init_4 rfl ?_
  refine ev_bipush dX10_init_5 rfl ?_
  refine ev_newa 20 16 dX10_init_7 (fun h9 => hF _ h9) (by decide) (by decide) kA_int (by decide) rfl (by decide) ?_
  refine am_let_elim (P := fun p1 => am_Ev Z MX10_init 0 9 [(0, .ref a0)] [.ref p1, .ref a0] (am_new g 20 16) (am_rv r)) h fun p1 h => ?_
  refine am_let_elim (P := fun g2 => am_Ev Z MX10_init 0 9 [(0, .ref a0)] [.ref p1, .ref a0] g2 (am_rv r)) h fun g2 h => ?_
  obtain ⟨c3, h⟩ := am_gd_elim h
  obtain ⟨c5, h⟩ := am_gd_elim h
  refine ev_pfr dX10_init_9 (fun _ => am_sh c3) 0 (by decide) (by decide) kF_X10_9 rfl ⟨rfl, rfl⟩ (hZ _ _ (of_decide_eq_true c5)) (fun _ => rfl) (fun _ => rfl) (fun _ => rfl) ?_
  refine am_let_elim (P := fun g4 => am_Ev Z MX10_init 0 12 [(0, .ref a0)] [] g4 (am_rv r)) h fun g4 h => ?_
  refine ev_aload_n 0 dX10_init_12 rfl ?_
  refine ev_bipush dX10_init_13 rfl ?_
  refine ev_newa 20 16 dX10_init_15 (fun h9 => hF _ h9) (by decide) (by decide) kA_int (by decide) rfl (by decide) ?_
  refine am_let_elim (P := fun p6 => am_Ev Z MX10_init 0 17 [(0, .ref a0)] [.ref p6, .ref a0] (am_new g4 20 16) (am_rv r)) h fun p6 h => ?_
  refine am_let_elim (P := fun g7 => am_Ev Z MX10_init 0 17 [(0, .ref a0)] [.ref p6, .ref a0] g7 (am_rv r)) h fun g7 h => ?_
  obtain ⟨c8, h⟩ := am_gd_elim h
  obtain ⟨c10, h⟩ := am_gd_elim h
  refine ev_pfr dX10_init_17 (fun _ => am_sh c8) 1 (by decide) (by decide) kF_X10_15 rfl ⟨rfl, rfl⟩ (hZ _ _ (of_decide_eq_true c10)) (fun _ => rfl) (fun _ => rfl) (fun _ => rfl) ?_
  refine am_let_elim (P := fun g9 => am_Ev Z MX10_init 0 20 [(0, .ref a0)] [] g9 (am_rv r)) h fun g9 h => ?_
  refine ev_aload_n 0 dX10_init_20 rfl ?_
  refine ev_bipush dX10_init_21 rfl ?_
  refine ev_newa 20 16 dX10_init_23 (fun h9 => hF _ h9) (by decide) (by decide) kA_int (by decide) rfl (by decide) ?_
  refine am_let_elim (P := fun p11 => am_Ev Z MX10_init 0 25 [(0, .ref a0)] [.ref p11, .ref a0] (am_new g9 20 16) (am_rv r)) h fun p11 h => ?_
  refine am_let_elim (P := fun g12 => am_Ev Z MX10_init 0 25 [(0, .ref a0)] [.ref p11, .ref a0] g12 (am_rv r)) h fun g12 h => ?_
  obtain ⟨c13, h⟩ := am_gd_elim h
  obtain ⟨c15, h⟩ := am_gd_elim h
  refine ev_pfr dX10_init_25 (fun _ => am_sh c13) 2 (by decide) (by decide) kF_X10_18 rfl ⟨rfl, rfl⟩ (hZ _ _ (of_decide_eq_true c15)) (fun _ => rfl) (fun _ => rfl) (fun _ => rfl) ?_
  refine am_let_elim (P := fun g14 => am_Ev Z MX10_init 0 28 [(0, .ref a0)] [] g14 (am_rv r)) h fun g14 h => ?_
  refine ev_aload_n 0 dX10_init_28 rfl ?_
  refine ev_bipush dX10_init_29 rfl ?_
  refine ev_newa 20 16 dX10_init_31 (fun h9 => hF _ h9) (by decide) (by decide) kA_int (by decide) rfl (by decide) ?_
  refine am_let_elim (P := fun p16 => am_Ev Z MX10_init 0 33 [(0, .ref a0)] [.ref p16, .ref a0] (am_new g14 20 16) (am_rv r)) h fun p16 h => ?_
  refine am_let_elim (P := fun g17 => am_Ev Z MX10_init 0 33 [(0, .ref a0)] [.ref p16, .ref a0] g17 (am_rv r)) h fun g17 h => ?_
  obtain ⟨c18, h⟩ := am_gd_elim h
  obtain ⟨c20, h⟩ := am_gd_elim h
  refine ev_pfr dX10_init_33 (fun _ => am_sh c18) 3 (by decide) (by decide) kF_X10_21 rfl ⟨rfl, rfl⟩ (hZ _ _ (of_decide_eq_true c20)) (fun _ => rfl) (fun _ => rfl) (fun _ => rfl) ?_
  refine am_let_elim (P := fun g19 => am_Ev Z MX10_init 0 36 [(0, .ref a0)] [] g19 (am_rv r)) h fun g19 h => ?_
  cases h
  exact ev_ret dX10_init_36 rfl
theorem tX10_init {Z : am_Z} {fx : Nat} (hF : ∀ g : am_G, am_ok Z g → ∀ k, Z.2 (am_n g) k = none) (hZ : ∀ a k, fx ≤ a → Z.2 a k = none) {a0 : Nat} {g : am_G} {r : Unit × am_G} (h : fX10_init fx a0 g = some r) : am_Mt Z MX10_init 0 [.ref a0] g (am_rv r) := am_Mt.of rfl (Nat.le_of_ble_eq_true rfl) (eX10_init hF hZ _ _ _ h)
def fX9_init (fx : Nat) (a0 : Nat) (g : am_G) : Option (Unit × am_G) :=
  am_let (am_n g) fun p1 =>
  am_let (am_new g 2 8) fun g2 =>
  am_bd (fX2_init fx p1 g2) fun u3 g4 =>
  am_gd (decide (am_S g4 a0 = (9, 20))) <|
  am_gd (decide (fx ≤ a0)) <|
  am_let (am_sp g4 a0 0 (some p1)) fun g7 =>
  am_let (am_n g7) fun p9 =>
  am_let (am_new g7 20 6) fun g10 =>
  am_gd (decide (am_S g10 a0 = (9, 20))) <|
  am_gd (decide (fx ≤ a0)) <|
  am_let (am_sp g10 a0 1 (some p9)) fun g12 =>
  am_let (am_n g12) fun p14 =>
  am_let (am_new g12 20 6) fun g15 =>
  am_gd (decide (am_S g15 a0 = (9, 20))) <|
  am_gd (decide (fx ≤ a0)) <|
  am_let (am_sp g15 a0 2 (some p14)) fun g17 =>
  am_let (am_n g17) fun p19 =>
  am_let (am_new g17 20 6) fun g20 =>
  am_gd (decide (am_S g20 a0 = (9, 20))) <|
  am_gd (decide (fx ≤ a0)) <|
  am_let (am_sp g20 a0 3 (some p19)) fun g22 =>
  am_let (am_n g22) fun p24 =>
  am_let (am_new g22 20 24) fun g25 =>
  am_gd (decide (am_S g25 a0 = (9, 20))) <|
  am_gd (decide (fx ≤ a0)) <|
  am_let (am_sp g25 a0 4 (some p24)) fun g27 =>
  am_let (am_n g27) fun p29 =>
  am_let (am_new g27 10 5) fun g30 =>
  am_bd (fX10_init fx p29 g30) fun u31 g32 =>
  am_gd (decide (am_S g32 a0 = (9, 20))) <|
  am_gd (decide (fx ≤ a0)) <|
  am_let (am_sp g32 a0 5 (some p29)) fun g35 =>
  am_let (am_n g35) fun p37 =>
  am_let (am_new g35 20 5) fun g38 =>
  am_gd (decide (am_S g38 a0 = (9, 20))) <|
  am_gd (decide (fx ≤ a0)) <|
  am_let (am_sp g38 a0 6 (some p37)) fun g40 =>
  am_let (am_n g40) fun p42 =>
  am_let (am_new g40 20 6) fun g43 =>
  am_gd (decide (am_S g43 a0 = (9, 20))) <|
  am_gd (decide (fx ≤ a0)) <|
  am_let (am_sp g43 a0 7 (some p42)) fun g45 =>
  am_let (am_n g45) fun p47 =>
  am_let (am_new g45 20 6) fun g48 =>
  am_gd (decide (am_S g48 a0 = (9, 20))) <|
  am_gd (decide (fx ≤ a0)) <|
  am_let (am_sp g48 a0 8 (some p47)) fun g50 =>
  am_let (am_n g50) fun p52 =>
  am_let (am_new g50 20 6) fun g53 =>
  am_gd (decide (am_S g53 a0 = (9, 20))) <|
  am_gd (decide (fx ≤ a0)) <|
  am_let (am_sp g53 a0 9 (some p52)) fun g55 =>
  am_let (am_n g55) fun p57 =>
  am_let (am_new g55 20 10) fun g58 =>
  am_gd (decide (am_S g58 a0 = (9, 20))) <|
  am_gd (decide (fx ≤ a0)) <|
  am_let (am_sp g58 a0 10 (some p57)) fun g60 =>
  am_let (am_n g60) fun p62 =>
  am_let (am_new g60 20 10) fun g63 =>
  am_gd (decide (am_S g63 a0 = (9, 20))) <|
  am_gd (decide (fx ≤ a0)) <|
  am_let (am_sp g63 a0 11 (some p62)) fun g65 =>
  am_let (am_n g65) fun p67 =>
  am_let (am_new g65 20 10) fun g68 =>
  am_gd (decide (am_S g68 a0 = (9, 20))) <|
  am_gd (decide (fx ≤ a0)) <|
  am_let (am_sp g68 a0 12 (some p67)) fun g70 =>
  am_let (am_n g70) fun p72 =>
  am_let (am_new g70 26 6) fun g73 =>
  am_gd (decide (am_S g73 a0 = (9, 20))) <|
  am_gd (decide (fx ≤ a0)) <|
  am_let (am_sp g73 a0 13 (some p72)) fun g75 =>
  am_gd (decide (am_S g75 a0 = (9, 20))) <|
  am_let (am_si g75 a0 18 (-1 : Int32)) fun g78 =>
  am_gd (decide (am_S g78 a0 = (9, 20))) <|
  am_oc (am_P g78 a0 1) (fun p80 =>
  am_bd (fJ7_fill_53178 fx p80 (500 : Int32) g78) fun u82 g83 =>
  am_gd (decide (am_S g83 a0 = (9, 20))) <|
  am_oc (am_P g83 a0 2) (fun p86 =>
  am_bd (fJ7_fill_53178 fx p86 (-1 : Int32) g83) fun u88 g89 =>
  am_gd (decide (am_S g89 a0 = (9, 20))) <|
  am_oc (am_P g89 a0 4) (fun p92 =>
  am_bd (fJ7_fill_53178 fx p92 (1 : Int32) g89) fun u94 g95 =>
  some ((), g95)) none) none) none
set_option maxRecDepth 100000 in
set_option maxHeartbeats 4000000 in
theorem eX9_init {Z : am_Z} {fx : Nat} (hF : ∀ g : am_G, am_ok Z g → ∀ k, Z.2 (am_n g) k = none) (hZ : ∀ a k, fx ≤ a → Z.2 a k = none) (a0 : Nat) (g : am_G) (r : Unit × am_G) (h : fX9_init fx a0 g = some r) : am_Ev Z MX9_init 1 0 [(0, .ref a0)] [] g (am_rv r) := by
  unfold fX9_init at h
  refine ev_aload_n 0 dX9_init_0 rfl ?_
  refine ev_objInit dX9_init_1 kM_X9_3 k_objI k_objC (Nat.le_of_ble_eq_true rfl) ?_
  refine ev_aload_n 0 dX9_init_4 rfl ?_
  refine ev_new 2 dX9_init_5 (fun h9 => hF _ h9) (by decide) kC_X9_9 ?_
  refine am_let_elim (P := fun p1 => am_Ev Z MX9_init 1 8 [(0, .ref a0)] [.ref p1, .ref a0] (am_new g 2 8) (am_rv r)) h fun p1 h => ?_
  refine am_let_elim (P := fun g2 => am_Ev Z MX9_init 1 8 [(0, .ref a0)] [.ref p1, .ref a0] g2 (am_rv r)) h fun g2 h => ?_
  refine ev_dup dX9_init_8 rfl ?_
  obtain ⟨u3, g4, e5, h⟩ := am_bd_elim h
  refine ev_callIN (as := []) (rest := [.ref p1, .ref a0]) dX9_init_9 (tX2_init hF hZ e5) (by decide) mo_X2_init kN_X9_11 ki_X2_init ⟨rfl, rfl⟩ (Nat.le_of_ble_eq_true rfl) ?_
  obtain ⟨c6, h⟩ := am_gd_elim h
  obtain ⟨c8, h⟩ := am_gd_elim h
  refine ev_pfr dX9_init_12 (fun _ => am_sh c6) 0 (by decide) (by decide) kF_X9_12 rfl ⟨rfl, rfl⟩ (hZ _ _ (of_decide_eq_true c8)) (fun _ => rfl) (fun _ => rfl) (fun _ => rfl) ?_
  refine am_let_elim (P := fun g7 => am_Ev Z MX9_init 1 15 [(0, .ref a0)] [] g7 (am_rv r)) h fun g7 h => ?_
  refine ev_aload_n 0 dX9_init_15 rfl ?_
  refine ev_bipush dX9_init_16 rfl ?_
  refine ev_newa 20 6 dX9_init_18 (fun h9 => hF _ h9) (by decide) (by decide) kA_int (by decide) rfl (by decide) ?_
  refine am_let_elim (P := fun p9 => am_Ev Z MX9_init 1 20 [(0, .ref a0)] [.ref p9, .ref a0] (am_new g7 20 6) (am_rv r)) h fun p9 h => ?_
  refine am_let_elim (P := fun g10 => am_Ev Z MX9_init 1 20 [(0, .ref a0)] [.ref p9, .ref a0] g10 (am_rv r)) h fun g10 h => ?_
  obtain ⟨c11, h⟩ := am_gd_elim h
  obtain ⟨c13, h⟩ := am_gd_elim h
  refine ev_pfr dX9_init_20 (fun _ => am_sh c11) 1 (by decide) (by decide) kF_X9_18 rfl ⟨rfl, rfl⟩ (hZ _ _ (of_decide_eq_true c13)) (fun _ => rfl) (fun _ => rfl) (fun _ => rfl) ?_
  refine am_let_elim (P := fun g12 => am_Ev Z MX9_init 1 23 [(0, .ref a0)] [] g12 (am_rv r)) h fun g12 h => ?_
  refine ev_aload_n 0 dX9_init_23 rfl ?_
  refine ev_bipush dX9_init_24 rfl ?_
  refine ev_newa 20 6 dX9_init_26 (fun h9 => hF _ h9) (by decide) (by decide) kA_int (by decide) rfl (by decide) ?_
  refine am_let_elim (P := fun p14 => am_Ev Z MX9_init 1 28 [(0, .ref a0)] [.ref p14, .ref a0] (am_new g12 20 6) (am_rv r)) h fun p14 h => ?_
  refine am_let_elim (P := fun g15 => am_Ev Z MX9_init 1 28 [(0, .ref a0)] [.ref p14, .ref a0] g15 (am_rv r)) h fun g15 h => ?_
  obtain ⟨c16, h⟩ := am_gd_elim h
  obtain ⟨c18, h⟩ := am_gd_elim h
  refine ev_pfr dX9_init_28 (fun _ => am_sh c16) 2 (by decide) (by decide) kF_X9_22 rfl ⟨rfl, rfl⟩ (hZ _ _ (of_decide_eq_true c18)) (fun _ => rfl) (fun _ => rfl) (fun _ => rfl) ?_
  refine am_let_elim (P := fun g17 => am_Ev Z MX9_init 1 31 [(0, .ref a0)] [] g17 (am_rv r)) h fun g17 h => ?_
  refine ev_aload_n 0 dX9_init_31 rfl ?_
  refine ev_bipush dX9_init_32 rfl ?_
  refine ev_newa 20 6 dX9_init_34 (fun h9 => hF _ h9) (by decide) (by decide) kA_int (by decide) rfl (by decide) ?_
  refine am_let_elim (P := fun p19 => am_Ev Z MX9_init 1 36 [(0, .ref a0)] [.ref p19, .ref a0] (am_new g17 20 6) (am_rv r)) h fun p19 h => ?_
  refine am_let_elim (P := fun g20 => am_Ev Z MX9_init 1 36 [(0, .ref a0)] [.ref p19, .ref a0] g20 (am_rv r)) h fun g20 h => ?_
  obtain ⟨c21, h⟩ := am_gd_elim h
  obtain ⟨c23, h⟩ := am_gd_elim h
  refine ev_pfr dX9_init_36 (fun _ => am_sh c21) 3 (by decide) (by decide) kF_X9_25 rfl ⟨rfl, rfl⟩ (hZ _ _ (of_decide_eq_true c23)) (fun _ => rfl) (fun _ => rfl) (fun _ => rfl) ?_
  refine am_let_elim (P := fun g22 => am_Ev Z MX9_init 1 39 [(0, .ref a0)] [] g22 (am_rv r)) h fun g22 h => ?_
  refine ev_aload_n 0 dX9_init_39 rfl ?_
  refine ev_bipush dX9_init_40 rfl ?_
  refine ev_newa 20 24 dX9_init_42 (fun h9 => hF _ h9) (by decide) (by decide) kA_int (by decide) rfl (by decide) ?_
  refine am_let_elim (P := fun p24 => am_Ev Z MX9_init 1 44 [(0, .ref a0)] [.ref p24, .ref a0] (am_new g22 20 24) (am_rv r)) h fun p24 h => ?_
  refine am_let_elim (P := fun g25 => am_Ev Z MX9_init 1 44 [(0, .ref a0)] [.ref p24, .ref a0] g25 (am_rv r)) h fun g25 h => ?_
  obtain ⟨c26, h⟩ := am_gd_elim h
  obtain ⟨c28, h⟩ := am_gd_elim h
  refine ev_pfr dX9_init_44 (fun _ => am_sh c26) 4 (by decide) (by decide) kF_X9_28 rfl ⟨rfl, rfl⟩ (hZ _ _ (of_decide_eq_true c28)) (fun _ => rfl) (fun _ => rfl) (fun _ => rfl) ?_
  refine am_let_elim (P := fun g27 => am_Ev Z MX9_init 1 47 [(0, .ref a0)] [] g27 (am_rv r)) h fun g27 h => ?_
  refine ev_aload_n 0 dX9_init_47 rfl ?_
  refine ev_new 10 dX9_init_48 (fun h9 => hF _ h9) (by decide) kC_X9_31 ?_
  refine am_let_elim (P := fun p29 => am_Ev Z MX9_init 1 51 [(0, .ref a0)] [.ref p29, .ref a0] (am_new g27 10 5) (am_rv r)) h fun p29 h => ?_
  refine am_let_elim (P := fun g30 => am_Ev Z MX9_init 1 51 [(0, .ref a0)] [.ref p29, .ref a0] g30 (am_rv r)) h fun g30 h => ?_
  refine ev_dup dX9_init_51 rfl ?_
  obtain ⟨u31, g32, e33, h⟩ := am_bd_elim h
  refine ev_callIN (as := []) (rest := [.ref p29, .ref a0]) dX9_init_52 (tX10_init hF hZ e33) (by decide) mo_X10_init kN_X9_33 ki_X10_init ⟨rfl, rfl⟩ (Nat.le_of_ble_eq_true rfl) ?_
  obtain ⟨c34, h⟩ := am_gd_elim h
  obtain ⟨c36, h⟩ := am_gd_elim h
  refine ev_pfr dX9_init_55 (fun _ => am_sh c34) 5 (by decide) (by decide) kF_X9_34 rfl ⟨rfl, rfl⟩ (hZ _ _ (of_decide_eq_true c36)) (fun _ => rfl) (fun _ => rfl) (fun _ => rfl) ?_
  refine am_let_elim (P := fun g35 => am_Ev Z MX9_init 1 58 [(0, .ref a0)] [] g35 (am_rv r)) h fun g35 h => ?_
  refine ev_aload_n 0 dX9_init_58 rfl ?_
  refine ev_iconst dX9_init_59 rfl ?_
  refine ev_newa 20 5 dX9_init_60 (fun h9 => hF _ h9) (by decide) (by decide) kA_int (by decide) rfl (by decide) ?_
  refine am_let_elim (P := fun p37 => am_Ev Z MX9_init 1 62 [(0, .ref a0)] [.ref p37, .ref a0] (am_new g35 20 5) (am_rv r)) h fun p37 h => ?_
  refine am_let_elim (P := fun g38 => am_Ev Z MX9_init 1 62 [(0, .ref a0)] [.ref p37, .ref a0] g38 (am_rv r)) h fun g38 h => ?_
  obtain ⟨c39, h⟩ := am_gd_elim h
  obtain ⟨c41, h⟩ := am_gd_elim h
  refine ev_pfr dX9_init_62 (fun _ => am_sh c39) 6 (by decide) (by decide) kF_X9_38 rfl ⟨rfl, rfl⟩ (hZ _ _ (of_decide_eq_true c41)) (fun _ => rfl) (fun _ => rfl) (fun _ => rfl) ?_
  refine am_let_elim (P := fun g40 => am_Ev Z MX9_init 1 65 [(0, .ref a0)] [] g40 (am_rv r)) h fun g40 h => ?_
  refine ev_aload_n 0 dX9_init_65 rfl ?_
  refine ev_bipush dX9_init_66 rfl ?_
  refine ev_newa 20 6 dX9_init_68 (fun h9 => hF _ h9) (by decide) (by decide) kA_int (by decide) rfl (by decide) ?_
  refine am_let_elim (P := fun p42 => am_Ev Z MX9_init 1 70 [(0, .ref a0)] [.ref p42, .ref a0] (am_new g40 20 6) (am_rv r)) h fun p42 h => ?_
  refine am_let_elim (P := fun g43 => am_Ev Z MX9_init 1 70 [(0, .ref a0)] [.ref p42, .ref a0] g43 (am_rv r)) h fun g43 h => ?_
  obtain ⟨c44, h⟩ := am_gd_elim h
  obtain ⟨c46, h⟩ := am_gd_elim h
  refine ev_pfr dX9_init_70 (fun _ => am_sh c44) 7 (by decide) (by decide) kF_X9_41 rfl ⟨rfl, rfl⟩ (hZ _ _ (of_decide_eq_true c46)) (fun _ => rfl) (fun _ => rfl) (fun _ => rfl) ?_
  refine am_let_elim (P := fun g45 => am_Ev Z MX9_init 1 73 [(0, .ref a0)] [] g45 (am_rv r)) h fun g45 h => ?_
  refine ev_aload_n 0 dX9_init_73 rfl ?_
  refine ev_bipush dX9_init_74 rfl ?_
  refine ev_newa 20 6 dX9_init_76 (fun h9 => hF _ h9) (by decide) (by decide) kA_int (by decide) rfl (by decide) ?_
  refine am_let_elim (P := fun p47 => am_Ev Z MX9_init 1 78 [(0, .ref a0)] [.ref p47, .ref a0] (am_new g45 20 6) (am_rv r)) h fun p47 h => ?_
  refine am_let_elim (P := fun g48 => am_Ev Z MX9_init 1 78 [(0, .ref a0)] [.ref p47, .ref a0] g48 (am_rv r)) h fun g48 h => ?_
  obtain ⟨c49, h⟩ := am_gd_elim h
  obtain ⟨c51, h⟩ := am_gd_elim h
  refine ev_pfr dX9_init_78 (fun _ => am_sh c49) 8 (by decide) (by decide) kF_X9_44 rfl ⟨rfl, rfl⟩ (hZ _ _ (of_decide_eq_true c51)) (fun _ => rfl) (fun _ => rfl) (fun _ => rfl) ?_
  refine am_let_elim (P := fun g50 => am_Ev Z MX9_init 1 81 [(0, .ref a0)] [] g50 (am_rv r)) h fun g50 h => ?_
  refine ev_aload_n 0 dX9_init_81 rfl ?_
  refine ev_bipush dX9_init_82 rfl ?_
  refine ev_newa 20 6 dX9_init_84 (fun h9 => hF _ h9) (by decide) (by decide) kA_int (by decide) rfl (by decide) ?_
  refine am_let_elim (P := fun p52 => am_Ev Z MX9_init 1 86 [(0, .ref a0)] [.ref p52, .ref a0] (am_new g50 20 6) (am_rv r)) h fun p52 h => ?_
  refine am_let_elim (P := fun g53 => am_Ev Z MX9_init 1 86 [(0, .ref a0)] [.ref p52, .ref a0] g53 (am_rv r)) h fun g53 h => ?_
  obtain ⟨c54, h⟩ := am_gd_elim h
  obtain ⟨c56, h⟩ := am_gd_elim h
  refine ev_pfr dX9_init_86 (fun _ => am_sh c54) 9 (by decide) (by decide) kF_X9_47 rfl ⟨rfl, rfl⟩ (hZ _ _ (of_decide_eq_true c56)) (fun _ => rfl) (fun _ => rfl) (fun _ => rfl) ?_
  refine am_let_elim (P := fun g55 => am_Ev Z MX9_init 1 89 [(0, .ref a0)] [] g55 (am_rv r)) h fun g55 h => ?_
  refine ev_aload_n 0 dX9_init_89 rfl ?_
  refine ev_bipush dX9_init_90 rfl ?_
  refine ev_newa 20 10 dX9_init_92 (fun h9 => hF _ h9) (by decide) (by decide) kA_int (by decide) rfl (by decide) ?_
  refine am_let_elim (P := fun p57 => am_Ev Z MX9_init 1 94 [(0, .ref a0)] [.ref p57, .ref a0] (am_new g55 20 10) (am_rv r)) h fun p57 h => ?_
  refine am_let_elim (P := fun g58 => am_Ev Z MX9_init 1 94 [(0, .ref a0)] [.ref p57, .ref a0] g58 (am_rv r)) h fun g58 h => ?_
  obtain ⟨c59, h⟩ := am_gd_elim h
  obtain ⟨c61, h⟩ := am_gd_elim h
  refine ev_pfr dX9_init_94 (fun _ => am_sh c59) 10 (by decide) (by decide) kF_X9_50 rfl ⟨rfl, rfl⟩ (hZ _ _ (of_decide_eq_true c61)) (fun _ => rfl) (fun _ => rfl) (fun _ => rfl) ?_
  refine am_let_elim (P := fun g60 => am_Ev Z MX9_init 1 97 [(0, .ref a0)] [] g60 (am_rv r)) h fun g60 h => ?_
  refine ev_aload_n 0 dX9_init_97 rfl ?_
  refine ev_bipush dX9_init_98 rfl ?_
  refine ev_newa 20 10 dX9_init_100 (fun h9 => hF _ h9) (by decide) (by decide) kA_int (by decide) rfl (by decide) ?_
  refine am_let_elim (P := fun p62 => am_Ev Z MX9_init 1 102 [(0, .ref a0)] [.ref p62, .ref a0] (am_new g60 20 10) (am_rv r)) h fun p62 h => ?_
  refine am_let_elim (P := fun g63 => am_Ev Z MX9_init 1 102 [(0, .ref a0)] [.ref p62, .ref a0] g63 (am_rv r)) h fun g63 h => ?_
  obtain ⟨c64, h⟩ := am_gd_elim h
  obtain ⟨c66, h⟩ := am_gd_elim h
  refine ev_pfr dX9_init_102 (fun _ => am_sh c64) 11 (by decide) (by decide) kF_X9_53 rfl ⟨rfl, rfl⟩ (hZ _ _ (of_decide_eq_true c66)) (fun _ => rfl) (fun _ => rfl) (fun _ => rfl) ?_
  refine am_let_elim (P := fun g65 => am_Ev Z MX9_init 1 105 [(0, .ref a0)] [] g65 (am_rv r)) h fun g65 h => ?_
  refine ev_aload_n 0 dX9_init_105 rfl ?_
  refine ev_bipush dX9_init_106 rfl ?_
  refine ev_newa 20 10 dX9_init_108 (fun h9 => hF _ h9) (by decide) (by decide) kA_int (by decide) rfl (by decide) ?_
  refine am_let_elim (P := fun p67 => am_Ev Z MX9_init 1 110 [(0, .ref a0)] [.ref p67, .ref a0] (am_new g65 20 10) (am_rv r)) h fun p67 h => ?_
  refine am_let_elim (P := fun g68 => am_Ev Z MX9_init 1 110 [(0, .ref a0)] [.ref p67, .ref a0] g68 (am_rv r)) h fun g68 h => ?_
  obtain ⟨c69, h⟩ := am_gd_elim h
  obtain ⟨c71, h⟩ := am_gd_elim h
  refine ev_pfr dX9_init_110 (fun _ => am_sh c69) 12 (by decide) (by decide) kF_X9_56 rfl ⟨rfl, rfl⟩ (hZ _ _ (of_decide_eq_true c71)) (fun _ => rfl) (fun _ => rfl) (fun _ => rfl) ?_
  refine am_let_elim (P := fun g70 => am_Ev Z MX9_init 1 113 [(0, .ref a0)] [] g70 (am_rv r)) h fun g70 h => ?_
  refine ev_aload_n 0 dX9_init_113 rfl ?_
  refine ev_bipush dX9_init_114 rfl ?_
  refine ev_newq 26 6 dX9_init_116 (fun h9 => hF _ h9) (by decide) (by decide) kC_X9_59 (by decide) rfl (by decide) ?_
  refine am_let_elim (P := fun p72 => am_Ev Z MX9_init 1 119 [(0, .ref a0)] [.ref p72, .ref a0] (am_new g70 26 6) (am_rv r)) h fun p72 h => ?_
  refine am_let_elim (P := fun g73 => am_Ev Z MX9_init 1 119 [(0, .ref a0)] [.ref p72, .ref a0] g73 (am_rv r)) h fun g73 h => ?_
  obtain ⟨c74, h⟩ := am_gd_elim h
  obtain ⟨c76, h⟩ := am_gd_elim h
  refine ev_pfr dX9_init_119 (fun _ => am_sh c74) 13 (by decide) (by decide) kF_X9_61 rfl ⟨rfl, rfl⟩ (hZ _ _ (of_decide_eq_true c76)) (fun _ => rfl) (fun _ => rfl) (fun _ => rfl) ?_
  refine am_let_elim (P := fun g75 => am_Ev Z MX9_init 1 122 [(0, .ref a0)] [] g75 (am_rv r)) h fun g75 h => ?_
  refine ev_aload_n 0 dX9_init_122 rfl ?_
  refine ev_iconst dX9_init_123 rfl ?_
  obtain ⟨c77, h⟩ := am_gd_elim h
  refine ev_pfi dX9_init_124 (fun _ => am_sh c77) 18 (by decide) (by decide) kF_X9_65 rfl rfl rfl (fun _ => rfl) ?_
  refine am_let_elim (P := fun g78 => am_Ev Z MX9_init 1 127 [(0, .ref a0)] [] g78 (am_rv r)) h fun g78 h => ?_
  refine ev_aload_n 0 dX9_init_127 rfl ?_
  obtain ⟨c79, h⟩ := am_gd_elim h
  refine am_oc_elim h (fun p80 e81 h => ?_) (fun _ h => nomatch h)
  refine ev_gf (v := .ref p80) dX9_init_128 (fun _ => am_sh c79) 1 (by decide) (by decide) kF_X9_18 (fun _ => congrArg va_rf e81) ?_
  refine ev_sipush dX9_init_131 rfl ?_
  obtain ⟨u82, g83, e84, h⟩ := am_bd_elim h
  refine ev_callSv [.ref p80, .int (500 : Int32)] [] dX9_init_134 (tJ7_fill_53178 hF hZ e84) (by decide) mo_J7_fill_53178 kM_X9_69 ks_J7_fill_53178 (Nat.le_of_ble_eq_true rfl) ?_
  refine ev_aload_n 0 dX9_init_137 rfl ?_
  obtain ⟨c85, h⟩ := am_gd_elim h
  refine am_oc_elim h (fun p86 e87 h => ?_) (fun _ h => nomatch h)
  refine ev_gf (v := .ref p86) dX9_init_138 (fun _ => am_sh c85) 2 (by decide) (by decide) kF_X9_22 (fun _ => congrArg va_rf e87) ?_
  refine ev_iconst dX9_init_141 rfl ?_
  obtain ⟨u88, g89, e90, h⟩ := am_bd_elim h
  refine ev_callSv [.ref p86, .int (-1 : Int32)] [] dX9_init_142 (tJ7_fill_53178 hF hZ e90) (by decide) mo_J7_fill_53178 kM_X9_69 ks_J7_fill_53178 (Nat.le_of_ble_eq_true rfl) ?_
  refine ev_aload_n 0 dX9_init_145 rfl ?_
  obtain ⟨c91, h⟩ := am_gd_elim h
  refine am_oc_elim h (fun p92 e93 h => ?_) (fun _ h => nomatch h)
  refine ev_gf (v := .ref p92) dX9_init_146 (fun _ => am_sh c91) 4 (by decide) (by decide) kF_X9_28 (fun _ => congrArg va_rf e93) ?_
  refine ev_iconst dX9_init_149 rfl ?_
  obtain ⟨u94, g95, e96, h⟩ := am_bd_elim h
  refine ev_callSv [.ref p92, .int (1 : Int32)] [] dX9_init_150 (tJ7_fill_53178 hF hZ e96) (by decide) mo_J7_fill_53178 kM_X9_69 ks_J7_fill_53178 (Nat.le_of_ble_eq_true rfl) ?_
  cases h
  exact ev_ret dX9_init_153 rfl
theorem tX9_init {Z : am_Z} {fx : Nat} (hF : ∀ g : am_G, am_ok Z g → ∀ k, Z.2 (am_n g) k = none) (hZ : ∀ a k, fx ≤ a → Z.2 a k = none) {a0 : Nat} {g : am_G} {r : Unit × am_G} (h : fX9_init fx a0 g = some r) : am_Mt Z MX9_init 1 [.ref a0] g (am_rv r) := am_Mt.of rfl (Nat.le_of_ble_eq_true rfl) (eX9_init hF hZ _ _ _ h)
def fX10_copyFrom (a0 : Nat) (a1 : Nat) (g : am_G) : Option (Unit × am_G) :=
  am_gd (decide (am_S g a1 = (10, 5))) <|
  am_oc (am_P g a1 0) (fun p2 =>
  am_gd (decide (am_S g a0 = (10, 5))) <|
  am_oc (am_P g a0 0) (fun p5 =>
  am_gd (decide ((am_S g p2).1 = 20)) <|
  am_gd (decide ((am_S g p5).1 = 20)) <|
  am_gd (am_co (0 : Int32) (0 : Int32) (16 : Int32) ((am_S g p2).2) ((am_S g p5).2)) <|
  am_let (am_cp g p2 p5 (0 : Int32).toNatClampNeg (0 : Int32).toNatClampNeg (16 : Int32).toNatClampNeg) fun g10 =>
  am_gd (decide (am_S g10 a1 = (10, 5))) <|
  am_oc (am_P g10 a1 1) (fun p12 =>
  am_gd (decide (am_S g10 a0 = (10, 5))) <|
  am_oc (am_P g10 a0 1) (fun p15 =>
  am_gd (decide ((am_S g10 p12).1 = 20)) <|
  am_gd (decide ((am_S g10 p15).1 = 20)) <|
  am_gd (am_co (0 : Int32) (0 : Int32) (16 : Int32) ((am_S g10 p12).2) ((am_S g10 p15).2)) <|
  am_let (am_cp g10 p12 p15 (0 : Int32).toNatClampNeg (0 : Int32).toNatClampNeg (16 : Int32).toNatClampNeg) fun g20 =>
  am_gd (decide (am_S g20 a1 = (10, 5))) <|
  am_oc (am_P g20 a1 2) (fun p22 =>
  am_gd (decide (am_S g20 a0 = (10, 5))) <|
  am_oc (am_P g20 a0 2) (fun p25 =>
  am_gd (decide ((am_S g20 p22).1 = 20)) <|
  am_gd (decide ((am_S g20 p25).1 = 20)) <|
  am_gd (am_co (0 : Int32) (0 : Int32) (16 : Int32) ((am_S g20 p22).2) ((am_S g20 p25).2)) <|
  am_let (am_cp g20 p22 p25 (0 : Int32).toNatClampNeg (0 : Int32).toNatClampNeg (16 : Int32).toNatClampNeg) fun g30 =>
  am_gd (decide (am_S g30 a1 = (10, 5))) <|
  am_oc (am_P g30 a1 3) (fun p32 =>
  am_gd (decide (am_S g30 a0 = (10, 5))) <|
  am_oc (am_P g30 a0 3) (fun p35 =>
  am_gd (decide ((am_S g30 p32).1 = 20)) <|
  am_gd (decide ((am_S g30 p35).1 = 20)) <|
  am_gd (am_co (0 : Int32) (0 : Int32) (16 : Int32) ((am_S g30 p32).2) ((am_S g30 p35).2)) <|
  am_let (am_cp g30 p32 p35 (0 : Int32).toNatClampNeg (0 : Int32).toNatClampNeg (16 : Int32).toNatClampNeg) fun g40 =>
  am_gd (decide (am_S g40 a1 = (10, 5))) <|
  am_gd (decide (am_S g40 a0 = (10, 5))) <|
  am_let (am_si g40 a0 4 (am_I g40 a1 4)) fun g43 =>
  some ((), g43)) none) none) none) none) none) none) none) none
set_option maxRecDepth 100000 in
set_option maxHeartbeats 4000000 in
theorem eX10_copyFrom (a0 : Nat) (a1 : Nat) (g : am_G) (r : Unit × am_G) (h : fX10_copyFrom a0 a1 g = some r) : am_Ev zc MX10_copyFrom 0 0 [(0, .ref a0), (1, .ref a1)] [] g (am_rv r) := by
  unfold fX10_copyFrom at h
  refine ev_aload_n 1 dX10_copyFrom_0 rfl ?_
  obtain ⟨c1, h⟩ := am_gd_elim h
  refine am_oc_elim h (fun p2 e3 h => ?_) (fun _ h => nomatch h)
  refine ev_gf (v := .ref p2) dX10_copyFrom_1 (fun _ => am_sh c1) 0 (by decide) (by decide) kF_X10_9 (fun _ => congrArg va_rf e3) ?_
  refine ev_iconst dX10_copyFrom_4 rfl ?_
  refine ev_aload_n 0 dX10_copyFrom_5 rfl ?_
  obtain ⟨c4, h⟩ := am_gd_elim h
  refine am_oc_elim h (fun p5 e6 h => ?_) (fun _ h => nomatch h)
  refine ev_gf (v := .ref p5) dX10_copyFrom_6 (fun _ => am_sh c4) 0 (by decide) (by decide) kF_X10_9 (fun _ => congrArg va_rf e6) ?_
  refine ev_iconst dX10_copyFrom_9 rfl ?_
  refine ev_bipush dX10_copyFrom_10 rfl ?_
  obtain ⟨c7, h⟩ := am_gd_elim h
  obtain ⟨c8, h⟩ := am_gd_elim h
  obtain ⟨c9, h⟩ := am_gd_elim h
  refine ev_copyi dX10_copyFrom_12 kM_X10_32 k_cpN k_cpS kS_System (fun _ => am_shk c7) (fun _ => am_shk c8) (am_co_elim c9).1 (am_co_elim c9).2.1 (am_co_elim c9).2.2.1 (am_co_elim c9).2.2.2.1 (am_co_elim c9).2.2.2.2 (Nat.le_of_ble_eq_true rfl) ?_
  refine am_let_elim (P := fun g10 => am_Ev zc MX10_copyFrom 0 15 [(0, .ref a0), (1, .ref a1)] [] g10 (am_rv r)) h fun g10 h => ?_
  refine ev_aload_n 1 dX10_copyFrom_15 rfl ?_
  obtain ⟨c11, h⟩ := am_gd_elim h
  refine am_oc_elim h (fun p12 e13 h => ?_) (fun _ h => nomatch h)
  refine ev_gf (v := .ref p12) dX10_copyFrom_16 (fun _ => am_sh c11) 1 (by decide) (by decide) kF_X10_15 (fun _ => congrArg va_rf e13) ?_
  refine ev_iconst dX10_copyFrom_19 rfl ?_
  refine ev_aload_n 0 dX10_copyFrom_20 rfl ?_
  obtain ⟨c14, h⟩ := am_gd_elim h
  refine am_oc_elim h (fun p15 e16 h => ?_) (fun _ h => nomatch h)
  refine ev_gf (v := .ref p15) dX10_copyFrom_21 (fun _ => am_sh c14) 1 (by decide) (by decide) kF_X10_15 (fun _ => congrArg va_rf e16) ?_
  refine ev_iconst dX10_copyFrom_24 rfl ?_
  refine ev_bipush dX10_copyFrom_25 rfl ?_
  obtain ⟨c17, h⟩ := am_gd_elim h
  obtain ⟨c18, h⟩ := am_gd_elim h
  obtain ⟨c19, h⟩ := am_gd_elim h
  refine ev_copyi dX10_copyFrom_27 kM_X10_32 k_cpN k_cpS kS_System (fun _ => am_shk c17) (fun _ => am_shk c18) (am_co_elim c19).1 (am_co_elim c19).2.1 (am_co_elim c19).2.2.1 (am_co_elim c19).2.2.2.1 (am_co_elim c19).2.2.2.2 (Nat.le_of_ble_eq_true rfl) ?_
  refine am_let_elim (P := fun g20 => am_Ev zc MX10_copyFrom 0 30 [(0, .ref a0), (1, .ref a1)] [] g20 (am_rv r)) h fun g20 h => ?_
  refine ev_aload_n 1 dX10_copyFrom_30 rfl ?_
  obtain ⟨c21, h⟩ := am_gd_elim h
  refine am_oc_elim h (fun p22 e23 h => ?_) (fun _ h => nomatch h)
  refine ev_gf (v := .ref p22) dX10_copyFrom_31 (fun _ => am_sh c21) 2 (by decide) (by decide) kF_X10_18 (fun _ => congrArg va_rf e23) ?_
  refine ev_iconst dX10_copyFrom_34 rfl ?_
  refine ev_aload_n 0 dX10_copyFrom_35 rfl ?_
  obtain ⟨c24, h⟩ := am_gd_elim h
  refine am_oc_elim h (fun p25 e26 h => ?_) (fun _ h => nomatch h)
  refine ev_gf (v := .ref p25) dX10_copyFrom_36 (fun _ => am_sh c24) 2 (by decide) (by decide) kF_X10_18 (fun _ => congrArg va_rf e26) ?_
  refine ev_iconst dX10_copyFrom_39 rfl ?_
  refine ev_bipush dX10_copyFrom_40 rfl ?_
  obtain ⟨c27, h⟩ := am_gd_elim h
  obtain ⟨c28, h⟩ := am_gd_elim h
  obtain ⟨c29, h⟩ := am_gd_elim h
  refine ev_copyi dX10_copyFrom_42 kM_X10_32 k_cpN k_cpS kS_System (fun _ => am_shk c27) (fun _ => am_shk c28) (am_co_elim c29).1 (am_co_elim c29).2.1 (am_co_elim c29).2.2.1 (am_co_elim c29).2.2.2.1 (am_co_elim c29).2.2.2.2 (Nat.le_of_ble_eq_true rfl) ?_
  refine am_let_elim (P := fun g30 => am_Ev zc MX10_copyFrom 0 45 [(0, .ref a0), (1, .ref a1)] [] g30 (am_rv r)) h fun g30 h => ?_
  refine ev_aload_n 1 dX10_copyFrom_45 rfl ?_
  obtain ⟨c31, h⟩ := am_gd_elim h
  refine am_oc_elim h (fun p32 e33 h => ?_) (fun _ h => nomatch h)
  refine ev_gf (v := .ref p32) dX10_copyFrom_46 (fun _ => am_sh c31) 3 (by decide) (by decide) kF_X10_21 (fun _ => congrArg va_rf e33) ?_
  refine ev_iconst dX10_copyFrom_49 rfl ?_
  refine ev_aload_n 0 dX10_copyFrom_50 rfl ?_
  obtain ⟨c34, h⟩ := am_gd_elim h
  refine am_oc_elim h (fun p35 e36 h => ?_) (fun _ h => nomatch h)
  refine ev_gf (v := .ref p35) dX10_copyFrom_51 (fun _ => am_sh c34) 3 (by decide) (by decide) kF_X10_21 (fun _ => congrArg va_rf e36) ?_
  refine ev_iconst dX10_copyFrom_54 rfl ?_
  refine ev_bipush dX10_copyFrom_55 rfl ?_
  obtain ⟨c37, h⟩ := am_gd_elim h
  obtain ⟨c38, h⟩ := am_gd_elim h
  obtain ⟨c39, h⟩ := am_gd_elim h
  refine ev_copyi dX10_copyFrom_57 kM_X10_32 k_cpN k_cpS kS_System (fun _ => am_shk c37) (fun _ => am_shk c38) (am_co_elim c39).1 (am_co_elim c39).2.1 (am_co_elim c39).2.2.1 (am_co_elim c39).2.2.2.1 (am_co_elim c39).2.2.2.2 (Nat.le_of_ble_eq_true rfl) ?_
  refine am_let_elim (P := fun g40 => am_Ev zc MX10_copyFrom 0 60 [(0, .ref a0), (1, .ref a1)] [] g40 (am_rv r)) h fun g40 h => ?_
  refine ev_aload_n 0 dX10_copyFrom_60 rfl ?_
  refine ev_aload_n 1 dX10_copyFrom_61 rfl ?_
  obtain ⟨c41, h⟩ := am_gd_elim h
  refine ev_gf (v := .int (am_I g40 a1 4)) dX10_copyFrom_62 (fun _ => am_sh c41) 4 (by decide) (by decide) kF_X10_28 (fun _ => rfl) ?_
  obtain ⟨c42, h⟩ := am_gd_elim h
  refine ev_pfi dX10_copyFrom_65 (fun _ => am_sh c42) 4 (by decide) (by decide) kF_X10_28 rfl rfl rfl (fun _ => rfl) ?_
  refine am_let_elim (P := fun g43 => am_Ev zc MX10_copyFrom 0 68 [(0, .ref a0), (1, .ref a1)] [] g43 (am_rv r)) h fun g43 h => ?_
  cases h
  exact ev_ret dX10_copyFrom_68 rfl
theorem tX10_copyFrom {a0 : Nat} {a1 : Nat} {g : am_G} {r : Unit × am_G} (h : fX10_copyFrom a0 a1 g = some r) : am_Mt zc MX10_copyFrom 0 [.ref a0, .ref a1] g (am_rv r) := am_Mt.of rfl (Nat.le_of_ble_eq_true rfl) (eX10_copyFrom _ _ _ _ h)
theorem zc_arr {a : Nat} (h : (decide (zc_n ≤ a) || decide (a = 24)) = true) : ∀ k : Nat, zc.2 a k = none := by
  intro k
  rw [Bool.or_eq_true] at h
  rcases h with h | h
  · exact zc_free a k (of_decide_eq_true h)
  · have e := of_decide_eq_true h
    subst e
    rfl
def fX9_copyFrom_L188 (k : am_G → Option (Unit × am_G)) (a0 : Nat) (a1 : Nat) : Nat → Int32 → am_G → Option (Unit × am_G)
  | 0, _, _ => none
  | n + 1, x131, g132 =>
    if (6 : Int32) ≤ x131 then (
      k g132)
    else (
      am_gd (decide (am_S g132 a0 = (9, 20))) <|
      am_oc (am_P g132 a0 13) (fun p136 =>
      am_gd (decide (am_S g132 a1 = (9, 20))) <|
      am_oc (am_P g132 a1 13) (fun p139 =>
      am_gd (decide ((am_S g132 p139).1 = 26)) <|
      am_gd (am_in x131 ((am_S g132 p139).2)) <|
      am_oc (am_P g132 p139 x131.toNatClampNeg) (fun p143 =>
        am_gd (decide ((am_S g132 p136).1 = 26)) <|
        am_gd (am_in x131 ((am_S g132 p136).2)) <|
        am_gd (decide (zc_n ≤ p136) || decide (p136 = 24)) <|
        am_gd (decide (am_S g132 p143 = (6, 3))) <|
        am_let (am_sp g132 p136 x131.toNatClampNeg (some p143)) fun g149 =>
        am_let (x131 + (1 : Int32)) fun x150 =>
        fX9_copyFrom_L188 k a0 a1 n x150 g149)
       (
        am_gd (decide ((am_S g132 p136).1 = 26)) <|
        am_gd (am_in x131 ((am_S g132 p136).2)) <|
        am_gd (decide (zc_n ≤ p136) || decide (p136 = 24)) <|
        am_let (am_sp g132 p136 x131.toNatClampNeg none) fun g154 =>
        am_let (x131 + (1 : Int32)) fun x155 =>
        fX9_copyFrom_L188 k a0 a1 n x155 g154)) none) none)
def fX9_copyFrom (a0 : Nat) (a1 : Nat) (g : am_G) : Option (Unit × am_G) :=
  am_gd (decide (am_S g a0 = (9, 20))) <|
  am_oc (am_P g a0 0) (fun p2 =>
  am_gd (decide (am_S g a1 = (9, 20))) <|
  am_oc (am_P g a1 0) (fun p5 =>
  am_gd (decide (am_S g p2 = (2, 8))) <|
  am_bd (fX2_copyFrom p2 p5 g) fun u7 g8 =>
  am_gd (decide (am_S g8 a0 = (9, 20))) <|
  am_oc (am_P g8 a0 5) (fun p12 =>
  am_gd (decide (am_S g8 a1 = (9, 20))) <|
  am_oc (am_P g8 a1 5) (fun p15 =>
  am_gd (decide (am_S g8 p12 = (10, 5))) <|
  am_bd (fX10_copyFrom p12 p15 g8) fun u17 g18 =>
  am_gd (decide (am_S g18 a1 = (9, 20))) <|
  am_oc (am_P g18 a1 1) (fun p22 =>
  am_gd (decide (am_S g18 a0 = (9, 20))) <|
  am_oc (am_P g18 a0 1) (fun p25 =>
  am_gd (decide ((am_S g18 p22).1 = 20)) <|
  am_gd (decide ((am_S g18 p25).1 = 20)) <|
  am_gd (am_co (0 : Int32) (0 : Int32) (6 : Int32) ((am_S g18 p22).2) ((am_S g18 p25).2)) <|
  am_let (am_cp g18 p22 p25 (0 : Int32).toNatClampNeg (0 : Int32).toNatClampNeg (6 : Int32).toNatClampNeg) fun g30 =>
  am_gd (decide (am_S g30 a1 = (9, 20))) <|
  am_oc (am_P g30 a1 2) (fun p32 =>
  am_gd (decide (am_S g30 a0 = (9, 20))) <|
  am_oc (am_P g30 a0 2) (fun p35 =>
  am_gd (decide ((am_S g30 p32).1 = 20)) <|
  am_gd (decide ((am_S g30 p35).1 = 20)) <|
  am_gd (am_co (0 : Int32) (0 : Int32) (6 : Int32) ((am_S g30 p32).2) ((am_S g30 p35).2)) <|
  am_let (am_cp g30 p32 p35 (0 : Int32).toNatClampNeg (0 : Int32).toNatClampNeg (6 : Int32).toNatClampNeg) fun g40 =>
  am_gd (decide (am_S g40 a1 = (9, 20))) <|
  am_oc (am_P g40 a1 3) (fun p42 =>
  am_gd (decide (am_S g40 a0 = (9, 20))) <|
  am_oc (am_P g40 a0 3) (fun p45 =>
  am_gd (decide ((am_S g40 p42).1 = 20)) <|
  am_gd (decide ((am_S g40 p45).1 = 20)) <|
  am_gd (am_co (0 : Int32) (0 : Int32) (6 : Int32) ((am_S g40 p42).2) ((am_S g40 p45).2)) <|
  am_let (am_cp g40 p42 p45 (0 : Int32).toNatClampNeg (0 : Int32).toNatClampNeg (6 : Int32).toNatClampNeg) fun g50 =>
  am_gd (decide (am_S g50 a1 = (9, 20))) <|
  am_oc (am_P g50 a1 4) (fun p52 =>
  am_gd (decide (am_S g50 a0 = (9, 20))) <|
  am_oc (am_P g50 a0 4) (fun p55 =>
  am_gd (decide ((am_S g50 p52).1 = 20)) <|
  am_gd (decide ((am_S g50 p55).1 = 20)) <|
  am_gd (am_co (0 : Int32) (0 : Int32) (24 : Int32) ((am_S g50 p52).2) ((am_S g50 p55).2)) <|
  am_let (am_cp g50 p52 p55 (0 : Int32).toNatClampNeg (0 : Int32).toNatClampNeg (24 : Int32).toNatClampNeg) fun g60 =>
  am_gd (decide (am_S g60 a1 = (9, 20))) <|
  am_oc (am_P g60 a1 6) (fun p62 =>
  am_gd (decide (am_S g60 a0 = (9, 20))) <|
  am_oc (am_P g60 a0 6) (fun p65 =>
  am_gd (decide ((am_S g60 p62).1 = 20)) <|
  am_gd (decide ((am_S g60 p65).1 = 20)) <|
  am_gd (am_co (0 : Int32) (0 : Int32) (5 : Int32) ((am_S g60 p62).2) ((am_S g60 p65).2)) <|
  am_let (am_cp g60 p62 p65 (0 : Int32).toNatClampNeg (0 : Int32).toNatClampNeg (5 : Int32).toNatClampNeg) fun g70 =>
  am_gd (decide (am_S g70 a1 = (9, 20))) <|
  am_oc (am_P g70 a1 7) (fun p72 =>
  am_gd (decide (am_S g70 a0 = (9, 20))) <|
  am_oc (am_P g70 a0 7) (fun p75 =>
  am_gd (decide ((am_S g70 p72).1 = 20)) <|
  am_gd (decide ((am_S g70 p75).1 = 20)) <|
  am_gd (am_co (0 : Int32) (0 : Int32) (6 : Int32) ((am_S g70 p72).2) ((am_S g70 p75).2)) <|
  am_let (am_cp g70 p72 p75 (0 : Int32).toNatClampNeg (0 : Int32).toNatClampNeg (6 : Int32).toNatClampNeg) fun g80 =>
  am_gd (decide (am_S g80 a1 = (9, 20))) <|
  am_oc (am_P g80 a1 8) (fun p82 =>
  am_gd (decide (am_S g80 a0 = (9, 20))) <|
  am_oc (am_P g80 a0 8) (fun p85 =>
  am_gd (decide ((am_S g80 p82).1 = 20)) <|
  am_gd (decide ((am_S g80 p85).1 = 20)) <|
  am_gd (am_co (0 : Int32) (0 : Int32) (6 : Int32) ((am_S g80 p82).2) ((am_S g80 p85).2)) <|
  am_let (am_cp g80 p82 p85 (0 : Int32).toNatClampNeg (0 : Int32).toNatClampNeg (6 : Int32).toNatClampNeg) fun g90 =>
  am_gd (decide (am_S g90 a1 = (9, 20))) <|
  am_oc (am_P g90 a1 9) (fun p92 =>
  am_gd (decide (am_S g90 a0 = (9, 20))) <|
  am_oc (am_P g90 a0 9) (fun p95 =>
  am_gd (decide ((am_S g90 p92).1 = 20)) <|
  am_gd (decide ((am_S g90 p95).1 = 20)) <|
  am_gd (am_co (0 : Int32) (0 : Int32) (6 : Int32) ((am_S g90 p92).2) ((am_S g90 p95).2)) <|
  am_let (am_cp g90 p92 p95 (0 : Int32).toNatClampNeg (0 : Int32).toNatClampNeg (6 : Int32).toNatClampNeg) fun g100 =>
  am_gd (decide (am_S g100 a1 = (9, 20))) <|
  am_oc (am_P g100 a1 10) (fun p102 =>
  am_gd (decide (am_S g100 a0 = (9, 20))) <|
  am_oc (am_P g100 a0 10) (fun p105 =>
  am_gd (decide ((am_S g100 p102).1 = 20)) <|
  am_gd (decide ((am_S g100 p105).1 = 20)) <|
  am_gd (am_co (0 : Int32) (0 : Int32) (10 : Int32) ((am_S g100 p102).2) ((am_S g100 p105).2)) <|
  am_let (am_cp g100 p102 p105 (0 : Int32).toNatClampNeg (0 : Int32).toNatClampNeg (10 : Int32).toNatClampNeg) fun g110 =>
  am_gd (decide (am_S g110 a1 = (9, 20))) <|
  am_oc (am_P g110 a1 11) (fun p112 =>
  am_gd (decide (am_S g110 a0 = (9, 20))) <|
  am_oc (am_P g110 a0 11) (fun p115 =>
  am_gd (decide ((am_S g110 p112).1 = 20)) <|
  am_gd (decide ((am_S g110 p115).1 = 20)) <|
  am_gd (am_co (0 : Int32) (0 : Int32) (10 : Int32) ((am_S g110 p112).2) ((am_S g110 p115).2)) <|
  am_let (am_cp g110 p112 p115 (0 : Int32).toNatClampNeg (0 : Int32).toNatClampNeg (10 : Int32).toNatClampNeg) fun g120 =>
  am_gd (decide (am_S g120 a1 = (9, 20))) <|
  am_oc (am_P g120 a1 12) (fun p122 =>
  am_gd (decide (am_S g120 a0 = (9, 20))) <|
  am_oc (am_P g120 a0 12) (fun p125 =>
  am_gd (decide ((am_S g120 p122).1 = 20)) <|
  am_gd (decide ((am_S g120 p125).1 = 20)) <|
  am_gd (am_co (0 : Int32) (0 : Int32) (10 : Int32) ((am_S g120 p122).2) ((am_S g120 p125).2)) <|
  am_let (am_cp g120 p122 p125 (0 : Int32).toNatClampNeg (0 : Int32).toNatClampNeg (10 : Int32).toNatClampNeg) fun g130 =>
  fX9_copyFrom_L188 (fun  (g156 : am_G) =>
    am_gd (decide (am_S g156 a1 = (9, 20))) <|
    am_gd (decide (am_S g156 a0 = (9, 20))) <|
    am_let (am_si g156 a0 14 (am_I g156 a1 14)) fun g159 =>
    am_gd (decide (am_S g159 a1 = (9, 20))) <|
    am_gd (decide (am_S g159 a0 = (9, 20))) <|
    am_let (am_si g159 a0 15 (am_I g159 a1 15)) fun g162 =>
    am_gd (decide (am_S g162 a1 = (9, 20))) <|
    am_gd (decide (am_S g162 a0 = (9, 20))) <|
    am_let (am_si g162 a0 16 (am_I g162 a1 16)) fun g165 =>
    am_gd (decide (am_S g165 a1 = (9, 20))) <|
    am_gd (decide (am_S g165 a0 = (9, 20))) <|
    am_let (am_si g165 a0 17 (am_I g165 a1 17)) fun g168 =>
    am_gd (decide (am_S g168 a1 = (9, 20))) <|
    am_gd (decide (am_S g168 a0 = (9, 20))) <|
    am_let (am_si g168 a0 18 (am_I g168 a1 18)) fun g171 =>
    am_gd (decide (am_S g171 a1 = (9, 20))) <|
    am_gd (decide (am_S g171 a0 = (9, 20))) <|
    am_let (am_si g171 a0 19 (am_I g171 a1 19)) fun g174 =>
    some ((), g174)) a0 a1 am_fu (0 : Int32) g130) none) none) none) none) none) none) none) none) none) none) none) none) none) none) none) none) none) none) none) none) none) none) none) none) none) none
set_option maxRecDepth 100000 in
set_option maxHeartbeats 4000000 in
theorem tfX9_copyFrom_L188  {k : am_G → Option (Unit × am_G)} (a0 : Nat) (a1 : Nat) (hk : ∀  (g133 : am_G) (r : Unit × am_G), k  g133 = some r → am_Ev zc MX9_copyFrom 1 212 [(0, .ref a0), (1, .ref a1)] [] g133 (am_rv r)) : ∀ (n : Nat) (x131 : Int32) (g132 : am_G) (r : Unit × am_G), fX9_copyFrom_L188 k a0 a1 n x131 g132 = some r → am_Ev zc MX9_copyFrom 1 188 [(0, .ref a0), (1, .ref a1), (2, .int x131)] [] g132 (am_rv r) := by
  intro n
  induction n with
  | zero => intro x131 g132 r h; exact nomatch (show (none : Option (Unit × am_G)) = some r from h)
  | succ n ih =>
    intro x131 g132 r h
    rw [fX9_copyFrom_L188] at h
    refine ev_iload_n 2 dX9_copyFrom_188 rfl ?_
    refine ev_bipush dX9_copyFrom_189 rfl ?_
    refine ev_icmp_ge 212 dX9_copyFrom_191 (by decide) (fun c134 => ?_) (fun c134 => ?_)
    · replace h := am_ifp c134 h
      refine ev_sub [0, 1] rfl ?_
      exact hk  _ _ h
    · replace h := am_ifn c134 h
      refine ev_aload_n 0 dX9_copyFrom_194 rfl ?_
      obtain ⟨c135, h⟩ := am_gd_elim h
      refine am_oc_elim h (fun p136 e137 h => ?_) (fun _ h => nomatch h)
      refine ev_gf (v := .ref p136) dX9_copyFrom_195 (fun _ => am_sh c135) 13 (by decide) (by decide) kF_X9_61 (fun _ => congrArg va_rf e137) ?_
      refine ev_iload_n 2 dX9_copyFrom_198 rfl ?_
      refine ev_aload_n 1 dX9_copyFrom_199 rfl ?_
      obtain ⟨c138, h⟩ := am_gd_elim h
      refine am_oc_elim h (fun p139 e140 h => ?_) (fun _ h => nomatch h)
      refine ev_gf (v := .ref p139) dX9_copyFrom_200 (fun _ => am_sh c138) 13 (by decide) (by decide) kF_X9_61 (fun _ => congrArg va_rf e140) ?_
      refine ev_iload_n 2 dX9_copyFrom_203 rfl ?_
      obtain ⟨c141, h⟩ := am_gd_elim h
      obtain ⟨c142, h⟩ := am_gd_elim h
      refine am_oc_elim h (fun p143 e144 h => ?_) (fun e144 h => ?_)
      · refine ev_aald (v := .ref p143) dX9_copyFrom_204 (fun _ => am_shk c141) (by decide) (by decide) (am_in_vp c142) (fun _ => congrArg va_rf e144) ?_
        obtain ⟨c145, h⟩ := am_gd_elim h
        obtain ⟨c146, h⟩ := am_gd_elim h
        obtain ⟨c147, h⟩ := am_gd_elim h
        obtain ⟨c148, h⟩ := am_gd_elim h
        refine ev_aast dX9_copyFrom_205 (fun _ => am_shk c145) (by decide) (by decide) (fun _ => am_sh c148) (am_in_vp c146) (zc_arr c147) ?_
        refine am_let_elim (P := fun g149 => am_Ev zc MX9_copyFrom 1 206 [(0, .ref a0), (1, .ref a1), (2, .int x131)] [] g149 (am_rv r)) h fun g149 h => ?_
        obtain ⟨x150, ex150, h⟩ := am_let_ex h
        refine ev_iinc (ls' := [(2, .int x150), (0, .ref a0), (1, .ref a1)]) 2 dX9_copyFrom_206 rfl ex150 (by decide) rfl ?_
        refine ev_goto 188 dX9_copyFrom_209 (by decide) ?_
        refine ev_sub [1, 2, 0] rfl ?_
        exact ih _ _ _ h
      · refine ev_aald (v := .null) dX9_copyFrom_204 (fun _ => am_shk c141) (by decide) (by decide) (am_in_vp c142) (fun _ => congrArg va_rf e144) ?_
        obtain ⟨c151, h⟩ := am_gd_elim h
        obtain ⟨c152, h⟩ := am_gd_elim h
        obtain ⟨c153, h⟩ := am_gd_elim h
        refine ev_aastN dX9_copyFrom_205 (fun _ => am_shk c151) (by decide) (by decide) (am_in_vp c152) (zc_arr c153) ?_
        refine am_let_elim (P := fun g154 => am_Ev zc MX9_copyFrom 1 206 [(0, .ref a0), (1, .ref a1), (2, .int x131)] [] g154 (am_rv r)) h fun g154 h => ?_
        obtain ⟨x155, ex155, h⟩ := am_let_ex h
        refine ev_iinc (ls' := [(2, .int x155), (0, .ref a0), (1, .ref a1)]) 2 dX9_copyFrom_206 rfl ex155 (by decide) rfl ?_
        refine ev_goto 188 dX9_copyFrom_209 (by decide) ?_
        refine ev_sub [1, 2, 0] rfl ?_
        exact ih _ _ _ h
set_option maxRecDepth 100000 in
set_option maxHeartbeats 4000000 in
theorem eX9_copyFrom (a0 : Nat) (a1 : Nat) (g : am_G) (r : Unit × am_G) (h : fX9_copyFrom a0 a1 g = some r) : am_Ev zc MX9_copyFrom 1 0 [(0, .ref a0), (1, .ref a1)] [] g (am_rv r) := by
  unfold fX9_copyFrom at h
  refine ev_aload_n 0 dX9_copyFrom_0 rfl ?_
  obtain ⟨c1, h⟩ := am_gd_elim h
  refine am_oc_elim h (fun p2 e3 h => ?_) (fun _ h => nomatch h)
  refine ev_gf (v := .ref p2) dX9_copyFrom_1 (fun _ => am_sh c1) 0 (by decide) (by decide) kF_X9_12 (fun _ => congrArg va_rf e3) ?_
  refine ev_aload_n 1 dX9_copyFrom_4 rfl ?_
  obtain ⟨c4, h⟩ := am_gd_elim h
  refine am_oc_elim h (fun p5 e6 h => ?_) (fun _ h => nomatch h)
  refine ev_gf (v := .ref p5) dX9_copyFrom_5 (fun _ => am_sh c4) 0 (by decide) (by decide) kF_X9_12 (fun _ => congrArg va_rf e6) ?_
  obtain ⟨c10, h⟩ := am_gd_elim h
  obtain ⟨u7, g8, e9, h⟩ := am_bd_elim h
  refine ev_callVv [.ref p5] [] dX9_copyFrom_8 (tX2_copyFrom e9) (by decide) mo_X2_copyFrom kM_X9_75 ki_X2_copyFrom kv_X2_copyFrom (fun _ => am_sh c10) (by decide) rfl (Nat.le_of_ble_eq_true rfl) ?_
  refine ev_aload_n 0 dX9_copyFrom_11 rfl ?_
  obtain ⟨c11, h⟩ := am_gd_elim h
  refine am_oc_elim h (fun p12 e13 h => ?_) (fun _ h => nomatch h)
  refine ev_gf (v := .ref p12) dX9_copyFrom_12 (fun _ => am_sh c11) 5 (by decide) (by decide) kF_X9_34 (fun _ => congrArg va_rf e13) ?_
  refine ev_aload_n 1 dX9_copyFrom_15 rfl ?_
  obtain ⟨c14, h⟩ := am_gd_elim h
  refine am_oc_elim h (fun p15 e16 h => ?_) (fun _ h => nomatch h)
  refine ev_gf (v := .ref p15) dX9_copyFrom_16 (fun _ => am_sh c14) 5 (by decide) (by decide) kF_X9_34 (fun _ => congrArg va_rf e16) ?_
  obtain ⟨c20, h⟩ := am_gd_elim h
  obtain ⟨u17, g18, e19, h⟩ := am_bd_elim h
  refine ev_callVv [.ref p15] [] dX9_copyFrom_19 (tX10_copyFrom e19) (by decide) mo_X10_copyFrom kM_X9_79 ki_X10_copyFrom kv_X10_copyFrom (fun _ => am_sh c20) (by decide) rfl (Nat.le_of_ble_eq_true rfl) ?_
  refine ev_aload_n 1 dX9_copyFrom_22 rfl ?_
  obtain ⟨c21, h⟩ := am_gd_elim h
  refine am_oc_elim h (fun p22 e23 h => ?_) (fun _ h => nomatch h)
  refine ev_gf (v := .ref p22) dX9_copyFrom_23 (fun _ => am_sh c21) 1 (by decide) (by decide) kF_X9_18 (fun _ => congrArg va_rf e23) ?_
  refine ev_iconst dX9_copyFrom_26 rfl ?_
  refine ev_aload_n 0 dX9_copyFrom_27 rfl ?_
  obtain ⟨c24, h⟩ := am_gd_elim h
  refine am_oc_elim h (fun p25 e26 h => ?_) (fun _ h => nomatch h)
  refine ev_gf (v := .ref p25) dX9_copyFrom_28 (fun _ => am_sh c24) 1 (by decide) (by decide) kF_X9_18 (fun _ => congrArg va_rf e26) ?_
  refine ev_iconst dX9_copyFrom_31 rfl ?_
  refine ev_bipush dX9_copyFrom_32 rfl ?_
  obtain ⟨c27, h⟩ := am_gd_elim h
  obtain ⟨c28, h⟩ := am_gd_elim h
  obtain ⟨c29, h⟩ := am_gd_elim h
  refine ev_copyi dX9_copyFrom_34 kM_X9_82 k_cpN k_cpS kS_System (fun _ => am_shk c27) (fun _ => am_shk c28) (am_co_elim c29).1 (am_co_elim c29).2.1 (am_co_elim c29).2.2.1 (am_co_elim c29).2.2.2.1 (am_co_elim c29).2.2.2.2 (Nat.le_of_ble_eq_true rfl) ?_
  refine am_let_elim (P := fun g30 => am_Ev zc MX9_copyFrom 1 37 [(0, .ref a0), (1, .ref a1)] [] g30 (am_rv r)) h fun g30 h => ?_
  refine ev_aload_n 1 dX9_copyFrom_37 rfl ?_
  obtain ⟨c31, h⟩ := am_gd_elim h
  refine am_oc_elim h (fun p32 e33 h => ?_) (fun _ h => nomatch h)
  refine ev_gf (v := .ref p32) dX9_copyFrom_38 (fun _ => am_sh c31) 2 (by decide) (by decide) kF_X9_22 (fun _ => congrArg va_rf e33) ?_
  refine ev_iconst dX9_copyFrom_41 rfl ?_
  refine ev_aload_n 0 dX9_copyFrom_42 rfl ?_
  obtain ⟨c34, h⟩ := am_gd_elim h
  refine am_oc_elim h (fun p35 e36 h => ?_) (fun _ h => nomatch h)
  refine ev_gf (v := .ref p35) dX9_copyFrom_43 (fun _ => am_sh c34) 2 (by decide) (by decide) kF_X9_22 (fun _ => congrArg va_rf e36) ?_
  refine ev_iconst dX9_copyFrom_46 rfl ?_
  refine ev_bipush dX9_copyFrom_47 rfl ?_
  obtain ⟨c37, h⟩ := am_gd_elim h
  obtain ⟨c38, h⟩ := am_gd_elim h
  obtain ⟨c39, h⟩ := am_gd_elim h
  refine ev_copyi dX9_copyFrom_49 kM_X9_82 k_cpN k_cpS kS_System (fun _ => am_shk c37) (fun _ => am_shk c38) (am_co_elim c39).1 (am_co_elim c39).2.1 (am_co_elim c39).2.2.1 (am_co_elim c39).2.2.2.1 (am_co_elim c39).2.2.2.2 (Nat.le_of_ble_eq_true rfl) ?_
  refine am_let_elim (P := fun g40 => am_Ev zc MX9_copyFrom 1 52 [(0, .ref a0), (1, .ref a1)] [] g40 (am_rv r)) h fun g40 h => ?_
  refine ev_aload_n 1 dX9_copyFrom_52 rfl ?_
  obtain ⟨c41, h⟩ := am_gd_elim h
  refine am_oc_elim h (fun p42 e43 h => ?_) (fun _ h => nomatch h)
  refine ev_gf (v := .ref p42) dX9_copyFrom_53 (fun _ => am_sh c41) 3 (by decide) (by decide) kF_X9_25 (fun _ => congrArg va_rf e43) ?_
  refine ev_iconst dX9_copyFrom_56 rfl ?_
  refine ev_aload_n 0 dX9_copyFrom_57 rfl ?_
  obtain ⟨c44, h⟩ := am_gd_elim h
  refine am_oc_elim h (fun p45 e46 h => ?_) (fun _ h => nomatch h)
  refine ev_gf (v := .ref p45) dX9_copyFrom_58 (fun _ => am_sh c44) 3 (by decide) (by decide) kF_X9_25 (fun _ => congrArg va_rf e46) ?_
  refine ev_iconst dX9_copyFrom_61 rfl ?_
  refine ev_bipush dX9_copyFrom_62 rfl ?_
  obtain ⟨c47, h⟩ := am_gd_elim h
  obtain ⟨c48, h⟩ := am_gd_elim h
  obtain ⟨c49, h⟩ := am_gd_elim h
  refine ev_copyi dX9_copyFrom_64 kM_X9_82 k_cpN k_cpS kS_System (fun _ => am_shk c47) (fun _ => am_shk c48) (am_co_elim c49).1 (am_co_elim c49).2.1 (am_co_elim c49).2.2.1 (am_co_elim c49).2.2.2.1 (am_co_elim c49).2.2.2.2 (Nat.le_of_ble_eq_true rfl) ?_
  refine am_let_elim (P := fun g50 => am_Ev zc MX9_copyFrom 1 67 [(0, .ref a0), (1, .ref a1)] [] g50 (am_rv r)) h fun g50 h => ?_
  refine ev_aload_n 1 dX9_copyFrom_67 rfl ?_
  obtain ⟨c51, h⟩ := am_gd_elim h
  refine am_oc_elim h (fun p52 e53 h => ?_) (fun _ h => nomatch h)
  refine ev_gf (v := .ref p52) dX9_copyFrom_68 (fun _ => am_sh c51) 4 (by decide) (by decide) kF_X9_28 (fun _ => congrArg va_rf e53) ?_
  refine ev_iconst dX9_copyFrom_71 rfl ?_
  refine ev_aload_n 0 dX9_copyFrom_72 rfl ?_
  obtain ⟨c54, h⟩ := am_gd_elim h
  refine am_oc_elim h (fun p55 e56 h => ?_) (fun _ h => nomatch h)
  refine ev_gf (v := .ref p55) dX9_copyFrom_73 (fun _ => am_sh c54) 4 (by decide) (by decide) kF_X9_28 (fun _ => congrArg va_rf e56) ?_
  refine ev_iconst dX9_copyFrom_76 rfl ?_
  refine ev_bipush dX9_copyFrom_77 rfl ?_
  obtain ⟨c57, h⟩ := am_gd_elim h
  obtain ⟨c58, h⟩ := am_gd_elim h
  obtain ⟨c59, h⟩ := am_gd_elim h
  refine ev_copyi dX9_copyFrom_79 kM_X9_82 k_cpN k_cpS kS_System (fun _ => am_shk c57) (fun _ => am_shk c58) (am_co_elim c59).1 (am_co_elim c59).2.1 (am_co_elim c59).2.2.1 (am_co_elim c59).2.2.2.1 (am_co_elim c59).2.2.2.2 (Nat.le_of_ble_eq_true rfl) ?_
  refine am_let_elim (P := fun g60 => am_Ev zc MX9_copyFrom 1 82 [(0, .ref a0), (1, .ref a1)] [] g60 (am_rv r)) h fun g60 h => ?_
  refine ev_aload_n 1 dX9_copyFrom_82 rfl ?_
  obtain ⟨c61, h⟩ := am_gd_elim h
  refine am_oc_elim h (fun p62 e63 h => ?_) (fun _ h => nomatch h)
  refine ev_gf (v := .ref p62) dX9_copyFrom_83 (fun _ => am_sh c61) 6 (by decide) (by decide) kF_X9_38 (fun _ => congrArg va_rf e63) ?_
  refine ev_iconst dX9_copyFrom_86 rfl ?_
  refine ev_aload_n 0 dX9_copyFrom_87 rfl ?_
  obtain ⟨c64, h⟩ := am_gd_elim h
  refine am_oc_elim h (fun p65 e66 h => ?_) (fun _ h => nomatch h)
  refine ev_gf (v := .ref p65) dX9_copyFrom_88 (fun _ => am_sh c64) 6 (by decide) (by decide) kF_X9_38 (fun _ => congrArg va_rf e66) ?_
  refine ev_iconst dX9_copyFrom_91 rfl ?_
  refine ev_iconst dX9_copyFrom_92 rfl ?_
  obtain ⟨c67, h⟩ := am_gd_elim h
  obtain ⟨c68, h⟩ := am_gd_elim h
  obtain ⟨c69, h⟩ := am_gd_elim h
  refine ev_copyi dX9_copyFrom_93 kM_X9_82 k_cpN k_cpS kS_System (fun _ => am_shk c67) (fun _ => am_shk c68) (am_co_elim c69).1 (am_co_elim c69).2.1 (am_co_elim c69).2.2.1 (am_co_elim c69).2.2.2.1 (am_co_elim c69).2.2.2.2 (Nat.le_of_ble_eq_true rfl) ?_
  refine am_let_elim (P := fun g70 => am_Ev zc MX9_copyFrom 1 96 [(0, .ref a0), (1, .ref a1)] [] g70 (am_rv r)) h fun g70 h => ?_
  refine ev_aload_n 1 dX9_copyFrom_96 rfl ?_
  obtain ⟨c71, h⟩ := am_gd_elim h
  refine am_oc_elim h (fun p72 e73 h => ?_) (fun _ h => nomatch h)
  refine ev_gf (v := .ref p72) dX9_copyFrom_97 (fun _ => am_sh c71) 7 (by decide) (by decide) kF_X9_41 (fun _ => congrArg va_rf e73) ?_
  refine ev_iconst dX9_copyFrom_100 rfl ?_
  refine ev_aload_n 0 dX9_copyFrom_101 rfl ?_
  obtain ⟨c74, h⟩ := am_gd_elim h
  refine am_oc_elim h (fun p75 e76 h => ?_) (fun _ h => nomatch h)
  refine ev_gf (v := .ref p75) dX9_copyFrom_102 (fun _ => am_sh c74) 7 (by decide) (by decide) kF_X9_41 (fun _ => congrArg va_rf e76) ?_
  refine ev_iconst dX9_copyFrom_105 rfl ?_
  refine ev_bipush dX9_copyFrom_106 rfl ?_
  obtain ⟨c77, h⟩ := am_gd_elim h
  obtain ⟨c78, h⟩ := am_gd_elim h
  obtain ⟨c79, h⟩ := am_gd_elim h
  refine ev_copyi dX9_copyFrom_108 kM_X9_82 k_cpN k_cpS kS_System (fun _ => am_shk c77) (fun _ => am_shk c78) (am_co_elim c79).1 (am_co_elim c79).2.1 (am_co_elim c79).2.2.1 (am_co_elim c79).2.2.2.1 (am_co_elim c79).2.2.2.2 (Nat.le_of_ble_eq_true rfl) ?_
  refine am_let_elim (P := fun g80 => am_Ev zc MX9_copyFrom 1 111 [(0, .ref a0), (1, .ref a1)] [] g80 (am_rv r)) h fun g80 h => ?_
  refine ev_aload_n 1 dX9_copyFrom_111 rfl ?_
  obtain ⟨c81, h⟩ := am_gd_elim h
  refine am_oc_elim h (fun p82 e83 h => ?_) (fun _ h => nomatch h)
  refine ev_gf (v := .ref p82) dX9_copyFrom_112 (fun _ => am_sh c81) 8 (by decide) (by decide) kF_X9_44 (fun _ => congrArg va_rf e83) ?_
  refine ev_iconst dX9_copyFrom_115 rfl ?_
  refine ev_aload_n 0 dX9_copyFrom_116 rfl ?_
  obtain ⟨c84, h⟩ := am_gd_elim h
  refine am_oc_elim h (fun p85 e86 h => ?_) (fun _ h => nomatch h)
  refine ev_gf (v := .ref p85) dX9_copyFrom_117 (fun _ => am_sh c84) 8 (by decide) (by decide) kF_X9_44 (fun _ => congrArg va_rf e86) ?_
  refine ev_iconst dX9_copyFrom_120 rfl ?_
  refine ev_bipush dX9_copyFrom_121 rfl ?_
  obtain ⟨c87, h⟩ := am_gd_elim h
  obtain ⟨c88, h⟩ := am_gd_elim h
  obtain ⟨c89, h⟩ := am_gd_elim h
  refine ev_copyi dX9_copyFrom_123 kM_X9_82 k_cpN k_cpS kS_System (fun _ => am_shk c87) (fun _ => am_shk c88) (am_co_elim c89).1 (am_co_elim c89).2.1 (am_co_elim c89).2.2.1 (am_co_elim c89).2.2.2.1 (am_co_elim c89).2.2.2.2 (Nat.le_of_ble_eq_true rfl) ?_
  refine am_let_elim (P := fun g90 => am_Ev zc MX9_copyFrom 1 126 [(0, .ref a0), (1, .ref a1)] [] g90 (am_rv r)) h fun g90 h => ?_
  refine ev_aload_n 1 dX9_copyFrom_126 rfl ?_
  obtain ⟨c91, h⟩ := am_gd_elim h
  refine am_oc_elim h (fun p92 e93 h => ?_) (fun _ h => nomatch h)
  refine ev_gf (v := .ref p92) dX9_copyFrom_127 (fun _ => am_sh c91) 9 (by decide) (by decide) kF_X9_47 (fun _ => congrArg va_rf e93) ?_
  refine ev_iconst dX9_copyFrom_130 rfl ?_
  refine ev_aload_n 0 dX9_copyFrom_131 rfl ?_
  obtain ⟨c94, h⟩ := am_gd_elim h
  refine am_oc_elim h (fun p95 e96 h => ?_) (fun _ h => nomatch h)
  refine ev_gf (v := .ref p95) dX9_copyFrom_132 (fun _ => am_sh c94) 9 (by decide) (by decide) kF_X9_47 (fun _ => congrArg va_rf e96) ?_
  refine ev_iconst dX9_copyFrom_135 rfl ?_
  refine ev_bipush dX9_copyFrom_136 rfl ?_
  obtain ⟨c97, h⟩ := am_gd_elim h
  obtain ⟨c98, h⟩ := am_gd_elim h
  obtain ⟨c99, h⟩ := am_gd_elim h
  refine ev_copyi dX9_copyFrom_138 kM_X9_82 k_cpN k_cpS kS_System (fun _ => am_shk c97) (fun _ => am_shk c98) (am_co_elim c99).1 (am_co_elim c99).2.1 (am_co_elim c99).2.2.1 (am_co_elim c99).2.2.2.1 (am_co_elim c99).2.2.2.2 (Nat.le_of_ble_eq_true rfl) ?_
  refine am_let_elim (P := fun g100 => am_Ev zc MX9_copyFrom 1 141 [(0, .ref a0), (1, .ref a1)] [] g100 (am_rv r)) h fun g100 h => ?_
  refine ev_aload_n 1 dX9_copyFrom_141 rfl ?_
  obtain ⟨c101, h⟩ := am_gd_elim h
  refine am_oc_elim h (fun p102 e103 h => ?_) (fun _ h => nomatch h)
  refine ev_gf (v := .ref p102) dX9_copyFrom_142 (fun _ => am_sh c101) 10 (by decide) (by decide) kF_X9_50 (fun _ => congrArg va_rf e103) ?_
  refine ev_iconst dX9_copyFrom_145 rfl ?_
  refine ev_aload_n 0 dX9_copyFrom_146 rfl ?_
  obtain ⟨c104, h⟩ := am_gd_elim h
  refine am_oc_elim h (fun p105 e106 h => ?_) (fun _ h => nomatch h)
  refine ev_gf (v := .ref p105) dX9_copyFrom_147 (fun _ => am_sh c104) 10 (by decide) (by decide) kF_X9_50 (fun _ => congrArg va_rf e106) ?_
  refine ev_iconst dX9_copyFrom_150 rfl ?_
  refine ev_bipush dX9_copyFrom_151 rfl ?_
  obtain ⟨c107, h⟩ := am_gd_elim h
  obtain ⟨c108, h⟩ := am_gd_elim h
  obtain ⟨c109, h⟩ := am_gd_elim h
  refine ev_copyi dX9_copyFrom_153 kM_X9_82 k_cpN k_cpS kS_System (fun _ => am_shk c107) (fun _ => am_shk c108) (am_co_elim c109).1 (am_co_elim c109).2.1 (am_co_elim c109).2.2.1 (am_co_elim c109).2.2.2.1 (am_co_elim c109).2.2.2.2 (Nat.le_of_ble_eq_true rfl) ?_
  refine am_let_elim (P := fun g110 => am_Ev zc MX9_copyFrom 1 156 [(0, .ref a0), (1, .ref a1)] [] g110 (am_rv r)) h fun g110 h => ?_
  refine ev_aload_n 1 dX9_copyFrom_156 rfl ?_
  obtain ⟨c111, h⟩ := am_gd_elim h
  refine am_oc_elim h (fun p112 e113 h => ?_) (fun _ h => nomatch h)
  refine ev_gf (v := .ref p112) dX9_copyFrom_157 (fun _ => am_sh c111) 11 (by decide) (by decide) kF_X9_53 (fun _ => congrArg va_rf e113) ?_
  refine ev_iconst dX9_copyFrom_160 rfl ?_
  refine ev_aload_n 0 dX9_copyFrom_161 rfl ?_
  obtain ⟨c114, h⟩ := am_gd_elim h
  refine am_oc_elim h (fun p115 e116 h => ?_) (fun _ h => nomatch h)
  refine ev_gf (v := .ref p115) dX9_copyFrom_162 (fun _ => am_sh c114) 11 (by decide) (by decide) kF_X9_53 (fun _ => congrArg va_rf e116) ?_
  refine ev_iconst dX9_copyFrom_165 rfl ?_
  refine ev_bipush dX9_copyFrom_166 rfl ?_
  obtain ⟨c117, h⟩ := am_gd_elim h
  obtain ⟨c118, h⟩ := am_gd_elim h
  obtain ⟨c119, h⟩ := am_gd_elim h
  refine ev_copyi dX9_copyFrom_168 kM_X9_82 k_cpN k_cpS kS_System (fun _ => am_shk c117) (fun _ => am_shk c118) (am_co_elim c119).1 (am_co_elim c119).2.1 (am_co_elim c119).2.2.1 (am_co_elim c119).2.2.2.1 (am_co_elim c119).2.2.2.2 (Nat.le_of_ble_eq_true rfl) ?_
  refine am_let_elim (P := fun g120 => am_Ev zc MX9_copyFrom 1 171 [(0, .ref a0), (1, .ref a1)] [] g120 (am_rv r)) h fun g120 h => ?_
  refine ev_aload_n 1 dX9_copyFrom_171 rfl ?_
  obtain ⟨c121, h⟩ := am_gd_elim h
  refine am_oc_elim h (fun p122 e123 h => ?_) (fun _ h => nomatch h)
  refine ev_gf (v := .ref p122) dX9_copyFrom_172 (fun _ => am_sh c121) 12 (by decide) (by decide) kF_X9_56 (fun _ => congrArg va_rf e123) ?_
  refine ev_iconst dX9_copyFrom_175 rfl ?_
  refine ev_aload_n 0 dX9_copyFrom_176 rfl ?_
  obtain ⟨c124, h⟩ := am_gd_elim h
  refine am_oc_elim h (fun p125 e126 h => ?_) (fun _ h => nomatch h)
  refine ev_gf (v := .ref p125) dX9_copyFrom_177 (fun _ => am_sh c124) 12 (by decide) (by decide) kF_X9_56 (fun _ => congrArg va_rf e126) ?_
  refine ev_iconst dX9_copyFrom_180 rfl ?_
  refine ev_bipush dX9_copyFrom_181 rfl ?_
  obtain ⟨c127, h⟩ := am_gd_elim h
  obtain ⟨c128, h⟩ := am_gd_elim h
  obtain ⟨c129, h⟩ := am_gd_elim h
  refine ev_copyi dX9_copyFrom_183 kM_X9_82 k_cpN k_cpS kS_System (fun _ => am_shk c127) (fun _ => am_shk c128) (am_co_elim c129).1 (am_co_elim c129).2.1 (am_co_elim c129).2.2.1 (am_co_elim c129).2.2.2.1 (am_co_elim c129).2.2.2.2 (Nat.le_of_ble_eq_true rfl) ?_
  refine am_let_elim (P := fun g130 => am_Ev zc MX9_copyFrom 1 186 [(0, .ref a0), (1, .ref a1)] [] g130 (am_rv r)) h fun g130 h => ?_
  refine ev_iconst dX9_copyFrom_186 rfl ?_
  refine ev_istore_n (ls' := [(2, .int (0 : Int32)), (0, .ref a0), (1, .ref a1)]) dX9_copyFrom_187 rfl (by decide) rfl ?_
  refine ev_sub [1, 2, 0] rfl ?_
  refine tfX9_copyFrom_L188 a0 a1 ?_ _ _ _ _ h
  intro  g156 r h
  try dsimp only at h
  refine ev_aload_n 0 dX9_copyFrom_212 rfl ?_
  refine ev_aload_n 1 dX9_copyFrom_213 rfl ?_
  obtain ⟨c157, h⟩ := am_gd_elim h
  refine ev_gf (v := .int (am_I g156 a1 14)) dX9_copyFrom_214 (fun _ => am_sh c157) 14 (by decide) (by decide) kF_X9_88 (fun _ => rfl) ?_
  obtain ⟨c158, h⟩ := am_gd_elim h
  refine ev_pfi dX9_copyFrom_217 (fun _ => am_sh c158) 14 (by decide) (by decide) kF_X9_88 rfl rfl rfl (fun _ => rfl) ?_
  refine am_let_elim (P := fun g159 => am_Ev zc MX9_copyFrom 1 220 [(0, .ref a0), (1, .ref a1)] [] g159 (am_rv r)) h fun g159 h => ?_
  refine ev_aload_n 0 dX9_copyFrom_220 rfl ?_
  refine ev_aload_n 1 dX9_copyFrom_221 rfl ?_
  obtain ⟨c160, h⟩ := am_gd_elim h
  refine ev_gf (v := .int (am_I g159 a1 15)) dX9_copyFrom_222 (fun _ => am_sh c160) 15 (by decide) (by decide) kF_X9_91 (fun _ => rfl) ?_
  obtain ⟨c161, h⟩ := am_gd_elim h
  refine ev_pfi dX9_copyFrom_225 (fun _ => am_sh c161) 15 (by decide) (by decide) kF_X9_91 rfl rfl rfl (fun _ => rfl) ?_
  refine am_let_elim (P := fun g162 => am_Ev zc MX9_copyFrom 1 228 [(0, .ref a0), (1, .ref a1)] [] g162 (am_rv r)) h fun g162 h => ?_
  refine ev_aload_n 0 dX9_copyFrom_228 rfl ?_
  refine ev_aload_n 1 dX9_copyFrom_229 rfl ?_
  obtain ⟨c163, h⟩ := am_gd_elim h
  refine ev_gf (v := .int (am_I g162 a1 16)) dX9_copyFrom_230 (fun _ => am_sh c163) 16 (by decide) (by decide) kF_X9_94 (fun _ => rfl) ?_
  obtain ⟨c164, h⟩ := am_gd_elim h
  refine ev_pfi dX9_copyFrom_233 (fun _ => am_sh c164) 16 (by decide) (by decide) kF_X9_94 rfl rfl rfl (fun _ => rfl) ?_
  refine am_let_elim (P := fun g165 => am_Ev zc MX9_copyFrom 1 236 [(0, .ref a0), (1, .ref a1)] [] g165 (am_rv r)) h fun g165 h => ?_
  refine ev_aload_n 0 dX9_copyFrom_236 rfl ?_
  refine ev_aload_n 1 dX9_copyFrom_237 rfl ?_
  obtain ⟨c166, h⟩ := am_gd_elim h
  refine ev_gf (v := .int (am_I g165 a1 17)) dX9_copyFrom_238 (fun _ => am_sh c166) 17 (by decide) (by decide) kF_X9_97 (fun _ => rfl) ?_
  obtain ⟨c167, h⟩ := am_gd_elim h
  refine ev_pfi dX9_copyFrom_241 (fun _ => am_sh c167) 17 (by decide) (by decide) kF_X9_97 rfl rfl rfl (fun _ => rfl) ?_
  refine am_let_elim (P := fun g168 => am_Ev zc MX9_copyFrom 1 244 [(0, .ref a0), (1, .ref a1)] [] g168 (am_rv r)) h fun g168 h => ?_
  refine ev_aload_n 0 dX9_copyFrom_244 rfl ?_
  refine ev_aload_n 1 dX9_copyFrom_245 rfl ?_
  obtain ⟨c169, h⟩ := am_gd_elim h
  refine ev_gf (v := .int (am_I g168 a1 18)) dX9_copyFrom_246 (fun _ => am_sh c169) 18 (by decide) (by decide) kF_X9_65 (fun _ => rfl) ?_
  obtain ⟨c170, h⟩ := am_gd_elim h
  refine ev_pfi dX9_copyFrom_249 (fun _ => am_sh c170) 18 (by decide) (by decide) kF_X9_65 rfl rfl rfl (fun _ => rfl) ?_
  refine am_let_elim (P := fun g171 => am_Ev zc MX9_copyFrom 1 252 [(0, .ref a0), (1, .ref a1)] [] g171 (am_rv r)) h fun g171 h => ?_
  refine ev_aload_n 0 dX9_copyFrom_252 rfl ?_
  refine ev_aload_n 1 dX9_copyFrom_253 rfl ?_
  obtain ⟨c172, h⟩ := am_gd_elim h
  refine ev_gf (v := .int (am_I g171 a1 19)) dX9_copyFrom_254 (fun _ => am_sh c172) 19 (by decide) (by decide) kF_X9_100 (fun _ => rfl) ?_
  obtain ⟨c173, h⟩ := am_gd_elim h
  refine ev_pfi dX9_copyFrom_257 (fun _ => am_sh c173) 19 (by decide) (by decide) kF_X9_100 rfl rfl rfl (fun _ => rfl) ?_
  refine am_let_elim (P := fun g174 => am_Ev zc MX9_copyFrom 1 260 [(0, .ref a0), (1, .ref a1)] [] g174 (am_rv r)) h fun g174 h => ?_
  cases h
  exact ev_ret dX9_copyFrom_260 rfl
theorem tX9_copyFrom {a0 : Nat} {a1 : Nat} {g : am_G} {r : Unit × am_G} (h : fX9_copyFrom a0 a1 g = some r) : am_Mt zc MX9_copyFrom 1 [.ref a0, .ref a1] g (am_rv r) := am_Mt.of rfl (Nat.le_of_ble_eq_true rfl) (eX9_copyFrom _ _ _ _ h)
def fX10_canBe (a0 : Int32) (a1 : Int32) (a2 : Int32) (g : am_G) : Option (Int32 × am_G) :=
  am_bd (fX11_within a0 (1 : Int32) (9 : Int32) g) fun v1 g2 =>
  if v1 = 0 then (
    some ((0 : Int32), g2))
  else (
    am_bd (fX11_within a1 (0 : Int32) (9 : Int32) g2) fun v5 g6 =>
    if v5 = 0 then (
      some ((0 : Int32), g6))
    else (
      am_bd (fX11_within a2 (0 : Int32) (7 : Int32) g6) fun v9 g10 =>
      if v9 = 0 then (
        some ((0 : Int32), g10))
      else (
        some ((1 : Int32), g10))))
set_option maxRecDepth 100000 in
set_option maxHeartbeats 4000000 in
theorem eX10_canBe (a0 : Int32) (a1 : Int32) (a2 : Int32) (g : am_G) (r : Int32 × am_G) (h : fX10_canBe a0 a1 a2 g = some r) : am_Ev zc MX10_canBe 1 0 [(0, .int a0), (1, .int a1), (2, .int a2)] [] g (am_ri r) := by
  unfold fX10_canBe at h
  refine ev_iload_n 0 dX10_canBe_0 rfl ?_
  refine ev_iconst dX10_canBe_1 rfl ?_
  refine ev_bipush dX10_canBe_2 rfl ?_
  obtain ⟨v1, g2, e3, h⟩ := am_bd_elim h
  refine ev_callSNi (v := v1) [.int a0, .int (1 : Int32), .int (9 : Int32)] [] dX10_canBe_4 (tX11_within e3) (by decide) mo_X11_within kN_X10_24 ks_X11_within (Nat.le_of_ble_eq_true rfl) ?_
  refine ev_if_eq 34 dX10_canBe_7 (by decide) (fun c4 => ?_) (fun c4 => ?_)
  · replace h := am_ifp c4 h
    refine ev_iconst dX10_canBe_34 rfl ?_
    cases h
    exact ev_zret dX10_canBe_35 rfl rfl
  · replace h := am_ifn c4 h
    refine ev_iload_n 1 dX10_canBe_10 rfl ?_
    refine ev_iconst dX10_canBe_11 rfl ?_
    refine ev_bipush dX10_canBe_12 rfl ?_
    obtain ⟨v5, g6, e7, h⟩ := am_bd_elim h
    refine ev_callSNi (v := v5) [.int a1, .int (0 : Int32), .int (9 : Int32)] [] dX10_canBe_14 (tX11_within e7) (by decide) mo_X11_within kN_X10_24 ks_X11_within (Nat.le_of_ble_eq_true rfl) ?_
    refine ev_if_eq 34 dX10_canBe_17 (by decide) (fun c8 => ?_) (fun c8 => ?_)
    · replace h := am_ifp c8 h
      refine ev_iconst dX10_canBe_34 rfl ?_
      cases h
      exact ev_zret dX10_canBe_35 rfl rfl
    · replace h := am_ifn c8 h
      refine ev_iload_n 2 dX10_canBe_20 rfl ?_
      refine ev_iconst dX10_canBe_21 rfl ?_
      refine ev_bipush dX10_canBe_22 rfl ?_
      obtain ⟨v9, g10, e11, h⟩ := am_bd_elim h
      refine ev_callSNi (v := v9) [.int a2, .int (0 : Int32), .int (7 : Int32)] [] dX10_canBe_24 (tX11_within e11) (by decide) mo_X11_within kN_X10_24 ks_X11_within (Nat.le_of_ble_eq_true rfl) ?_
      refine ev_if_eq 34 dX10_canBe_27 (by decide) (fun c12 => ?_) (fun c12 => ?_)
      · replace h := am_ifp c12 h
        refine ev_iconst dX10_canBe_34 rfl ?_
        cases h
        exact ev_zret dX10_canBe_35 rfl rfl
      · replace h := am_ifn c12 h
        refine ev_iconst dX10_canBe_30 rfl ?_
        refine ev_goto 35 dX10_canBe_31 (by decide) ?_
        cases h
        exact ev_zret dX10_canBe_35 rfl rfl
theorem tX10_canBe {a0 : Int32} {a1 : Int32} {a2 : Int32} {g : am_G} {r : Int32 × am_G} (h : fX10_canBe a0 a1 a2 g = some r) : am_Mt zc MX10_canBe 1 [.int a0, .int a1, .int a2] g (am_ri r) := am_Mt.of rfl (Nat.le_of_ble_eq_true rfl) (eX10_canBe _ _ _ _ _ h)
def fX10_has (a1 : Int32) (g : am_G) : Option (Int32 × am_G) :=
  am_bd (fX11_within a1 (0 : Int32) ((am_I g 12 4) - (1 : Int32)) g) fun v1 g2 =>
  am_gd (am_zb v1) <|
  some (v1, g2)
set_option maxRecDepth 100000 in
set_option maxHeartbeats 4000000 in
theorem eX10_has (a1 : Int32) (g : am_G) (r : Int32 × am_G) (h : fX10_has a1 g = some r) : am_Ev zc MX10_has 1 0 [(0, .ref 12), (1, .int a1)] [] g (am_ri r) := by
  unfold fX10_has at h
  refine ev_iload_n 1 dX10_has_0 rfl ?_
  refine ev_iconst dX10_has_1 rfl ?_
  refine ev_aload_n 0 dX10_has_2 rfl ?_
  refine ev_gf (v := .int (am_I g 12 4)) dX10_has_3 (fun h9 => (h9.2.1 12 _ rfl).2) 4 (by decide) (by decide) kF_X10_28 (fun _ => rfl) ?_
  refine ev_iconst dX10_has_6 rfl ?_
  refine ev_isub dX10_has_7 ?_
  obtain ⟨v1, g2, e3, h⟩ := am_bd_elim h
  refine ev_callSNi (v := v1) [.int a1, .int (0 : Int32), .int ((am_I g 12 4) - (1 : Int32))] [] dX10_has_8 (tX11_within e3) (by decide) mo_X11_within kN_X10_24 ks_X11_within (Nat.le_of_ble_eq_true rfl) ?_
  obtain ⟨c4, h⟩ := am_gd_elim h
  cases h
  exact ev_zret dX10_has_11 rfl (am_zb_n c4)
theorem tX10_has {a1 : Int32} {g : am_G} {r : Int32 × am_G} (h : fX10_has a1 g = some r) : am_Mt zc MX10_has 1 [.ref 12, .int a1] g (am_ri r) := am_Mt.of rfl (Nat.le_of_ble_eq_true rfl) (eX10_has _ _ _ h)
def fX10_isFull (g : am_G) : Option (Int32 × am_G) :=
  if (am_I g 12 4) < (16 : Int32) then (
    some ((0 : Int32), g))
  else (
    some ((1 : Int32), g))
set_option maxRecDepth 100000 in
set_option maxHeartbeats 4000000 in
theorem eX10_isFull (g : am_G) (r : Int32 × am_G) (h : fX10_isFull g = some r) : am_Ev zc MX10_isFull 0 0 [(0, .ref 12)] [] g (am_ri r) := by
  unfold fX10_isFull at h
  refine ev_aload_n 0 dX10_isFull_0 rfl ?_
  refine ev_gf (v := .int (am_I g 12 4)) dX10_isFull_1 (fun h9 => (h9.2.1 12 _ rfl).2) 4 (by decide) (by decide) kF_X10_28 (fun _ => rfl) ?_
  refine ev_bipush dX10_isFull_4 rfl ?_
  refine ev_icmp_lt 13 dX10_isFull_6 (by decide) (fun c1 => ?_) (fun c1 => ?_)
  · replace h := am_ifp c1 h
    refine ev_iconst dX10_isFull_13 rfl ?_
    cases h
    exact ev_zret dX10_isFull_14 rfl rfl
  · replace h := am_ifn c1 h
    refine ev_iconst dX10_isFull_9 rfl ?_
    refine ev_goto 14 dX10_isFull_10 (by decide) ?_
    cases h
    exact ev_zret dX10_isFull_14 rfl rfl
theorem tX10_isFull {g : am_G} {r : Int32 × am_G} (h : fX10_isFull g = some r) : am_Mt zc MX10_isFull 0 [.ref 12] g (am_ri r) := am_Mt.of rfl (Nat.le_of_ble_eq_true rfl) (eX10_isFull _ _ h)
def fX10_coin (a1 : Int32) (a2 : Int32) (a3 : Int32) (g : am_G) : Option (Int32 × am_G) :=
  am_gd (am_in (am_I g 12 4) 16) <|
  am_let (am_si g 13 (am_I g 12 4).toNatClampNeg a1) fun g2 =>
  am_gd (am_in (am_I g2 12 4) 16) <|
  am_let (am_si g2 14 (am_I g2 12 4).toNatClampNeg a2) fun g4 =>
  am_gd (am_in (am_I g4 12 4) 16) <|
  am_let (am_si g4 15 (am_I g4 12 4).toNatClampNeg a3) fun g6 =>
  am_gd (am_in (am_I g6 12 4) 16) <|
  am_let (am_si g6 16 (am_I g6 12 4).toNatClampNeg (0 : Int32)) fun g8 =>
  am_let (am_si g8 12 4 ((am_I g8 12 4) + (1 : Int32))) fun g9 =>
  some ((am_I g9 12 4) - (1 : Int32), g9)
set_option maxRecDepth 100000 in
set_option maxHeartbeats 4000000 in
theorem eX10_coin (a1 : Int32) (a2 : Int32) (a3 : Int32) (g : am_G) (r : Int32 × am_G) (h : fX10_coin a1 a2 a3 g = some r) : am_Ev zc MX10_coin 0 0 [(0, .ref 12), (1, .int a1), (2, .int a2), (3, .int a3)] [] g (am_ri r) := by
  unfold fX10_coin at h
  refine ev_aload_n 0 dX10_coin_0 rfl ?_
  refine ev_gf (v := .ref 13) dX10_coin_1 (fun h9 => (h9.2.1 12 _ rfl).2) 0 (by decide) (by decide) kF_X10_9 (fun h9 => congrArg va_rf (h9.2.2 12 0 13 rfl)) ?_
  refine ev_aload_n 0 dX10_coin_4 rfl ?_
  refine ev_gf (v := .int (am_I g 12 4)) dX10_coin_5 (fun h9 => (h9.2.1 12 _ rfl).2) 4 (by decide) (by decide) kF_X10_28 (fun _ => rfl) ?_
  refine ev_iload_n 1 dX10_coin_8 rfl ?_
  obtain ⟨c1, h⟩ := am_gd_elim h
  refine ev_iast dX10_coin_9 (fun h9 => (h9.2.1 13 _ rfl).2) (am_in_vp c1) ?_
  refine am_let_elim (P := fun g2 => am_Ev zc MX10_coin 0 10 [(0, .ref 12), (1, .int a1), (2, .int a2), (3, .int a3)] [] g2 (am_ri r)) h fun g2 h => ?_
  refine ev_aload_n 0 dX10_coin_10 rfl ?_
  refine ev_gf (v := .ref 14) dX10_coin_11 (fun h9 => (h9.2.1 12 _ rfl).2) 1 (by decide) (by decide) kF_X10_15 (fun h9 => congrArg va_rf (h9.2.2 12 1 14 rfl)) ?_
  refine ev_aload_n 0 dX10_coin_14 rfl ?_
  refine ev_gf (v := .int (am_I g2 12 4)) dX10_coin_15 (fun h9 => (h9.2.1 12 _ rfl).2) 4 (by decide) (by decide) kF_X10_28 (fun _ => rfl) ?_
  refine ev_iload_n 2 dX10_coin_18 rfl ?_
  obtain ⟨c3, h⟩ := am_gd_elim h
  refine ev_iast dX10_coin_19 (fun h9 => (h9.2.1 14 _ rfl).2) (am_in_vp c3) ?_
  refine am_let_elim (P := fun g4 => am_Ev zc MX10_coin 0 20 [(0, .ref 12), (1, .int a1), (2, .int a2), (3, .int a3)] [] g4 (am_ri r)) h fun g4 h => ?_
  refine ev_aload_n 0 dX10_coin_20 rfl ?_
  refine ev_gf (v := .ref 15) dX10_coin_21 (fun h9 => (h9.2.1 12 _ rfl).2) 2 (by decide) (by decide) kF_X10_18 (fun h9 => congrArg va_rf (h9.2.2 12 2 15 rfl)) ?_
  refine ev_aload_n 0 dX10_coin_24 rfl ?_
  refine ev_gf (v := .int (am_I g4 12 4)) dX10_coin_25 (fun h9 => (h9.2.1 12 _ rfl).2) 4 (by decide) (by decide) kF_X10_28 (fun _ => rfl) ?_
  refine ev_iload_n 3 dX10_coin_28 rfl ?_
  obtain ⟨c5, h⟩ := am_gd_elim h
  refine ev_iast dX10_coin_29 (fun h9 => (h9.2.1 15 _ rfl).2) (am_in_vp c5) ?_
  refine am_let_elim (P := fun g6 => am_Ev zc MX10_coin 0 30 [(0, .ref 12), (1, .int a1), (2, .int a2), (3, .int a3)] [] g6 (am_ri r)) h fun g6 h => ?_
  refine ev_aload_n 0 dX10_coin_30 rfl ?_
  refine ev_gf (v := .ref 16) dX10_coin_31 (fun h9 => (h9.2.1 12 _ rfl).2) 3 (by decide) (by decide) kF_X10_21 (fun h9 => congrArg va_rf (h9.2.2 12 3 16 rfl)) ?_
  refine ev_aload_n 0 dX10_coin_34 rfl ?_
  refine ev_gf (v := .int (am_I g6 12 4)) dX10_coin_35 (fun h9 => (h9.2.1 12 _ rfl).2) 4 (by decide) (by decide) kF_X10_28 (fun _ => rfl) ?_
  refine ev_iconst dX10_coin_38 rfl ?_
  obtain ⟨c7, h⟩ := am_gd_elim h
  refine ev_iast dX10_coin_39 (fun h9 => (h9.2.1 16 _ rfl).2) (am_in_vp c7) ?_
  refine am_let_elim (P := fun g8 => am_Ev zc MX10_coin 0 40 [(0, .ref 12), (1, .int a1), (2, .int a2), (3, .int a3)] [] g8 (am_ri r)) h fun g8 h => ?_
  refine ev_aload_n 0 dX10_coin_40 rfl ?_
  refine ev_dup dX10_coin_41 rfl ?_
  refine ev_gf (v := .int (am_I g8 12 4)) dX10_coin_42 (fun h9 => (h9.2.1 12 _ rfl).2) 4 (by decide) (by decide) kF_X10_28 (fun _ => rfl) ?_
  refine ev_iconst dX10_coin_45 rfl ?_
  refine ev_iadd dX10_coin_46 ?_
  refine ev_pfi dX10_coin_47 (fun h9 => (h9.2.1 12 _ rfl).2) 4 (by decide) (by decide) kF_X10_28 rfl rfl rfl (fun _ => rfl) ?_
  refine am_let_elim (P := fun g9 => am_Ev zc MX10_coin 0 50 [(0, .ref 12), (1, .int a1), (2, .int a2), (3, .int a3)] [] g9 (am_ri r)) h fun g9 h => ?_
  refine ev_aload_n 0 dX10_coin_50 rfl ?_
  refine ev_gf (v := .int (am_I g9 12 4)) dX10_coin_51 (fun h9 => (h9.2.1 12 _ rfl).2) 4 (by decide) (by decide) kF_X10_28 (fun _ => rfl) ?_
  refine ev_iconst dX10_coin_54 rfl ?_
  refine ev_isub dX10_coin_55 ?_
  cases h
  exact ev_iret dX10_coin_56 rfl
theorem tX10_coin {a1 : Int32} {a2 : Int32} {a3 : Int32} {g : am_G} {r : Int32 × am_G} (h : fX10_coin a1 a2 a3 g = some r) : am_Mt zc MX10_coin 0 [.ref 12, .int a1, .int a2, .int a3] g (am_ri r) := am_Mt.of rfl (Nat.le_of_ble_eq_true rfl) (eX10_coin _ _ _ _ _ h)
