def fX12_begin (g : am_G) : Option (Unit × am_G) :=
  am_let (am_si g 0 15 (0 : Int32)) fun g1 =>
  am_let (am_si g1 0 19 (0 : Int32)) fun g2 =>
  am_let (am_si g2 0 18 (-1 : Int32)) fun g3 =>
  am_bd (fX12_next g3) fun u4 g5 =>
  some ((), g5)
set_option maxRecDepth 100000 in
set_option maxHeartbeats 4000000 in
theorem eX12_begin (g : am_G) (r : Unit × am_G) (h : fX12_begin g = some r) : am_Ev zr MX12_begin 2 0 [(0, .ref 0)] [] g (am_rv r) := by
  unfold fX12_begin at h
  refine ev_aload_n 0 dX12_begin_0 rfl ?_
  refine ev_iconst dX12_begin_1 rfl ?_
  refine ev_pfi dX12_begin_2 (fun h9 => (h9.2.1 0 _ rfl).2) 15 (by decide) (by decide) kF_X12_236 rfl rfl rfl (fun _ => rfl) ?_
  refine am_let_elim (P := fun g1 => am_Ev zr MX12_begin 2 5 [(0, .ref 0)] [] g1 (am_rv r)) h fun g1 h => ?_
  refine ev_aload_n 0 dX12_begin_5 rfl ?_
  refine ev_iconst dX12_begin_6 rfl ?_
  refine ev_pfi dX12_begin_7 (fun h9 => (h9.2.1 0 _ rfl).2) 19 (by decide) (by decide) kF_X12_239 rfl rfl rfl (fun _ => rfl) ?_
  refine am_let_elim (P := fun g2 => am_Ev zr MX12_begin 2 10 [(0, .ref 0)] [] g2 (am_rv r)) h fun g2 h => ?_
  refine ev_aload_n 0 dX12_begin_10 rfl ?_
  refine ev_iconst dX12_begin_11 rfl ?_
  refine ev_pfi dX12_begin_12 (fun h9 => (h9.2.1 0 _ rfl).2) 18 (by decide) (by decide) kF_X12_38 rfl rfl rfl (fun _ => rfl) ?_
  refine am_let_elim (P := fun g3 => am_Ev zr MX12_begin 2 15 [(0, .ref 0)] [] g3 (am_rv r)) h fun g3 h => ?_
  refine ev_aload_n 0 dX12_begin_15 rfl ?_
  obtain ⟨u4, g5, e6, h⟩ := am_bd_elim h
  refine ev_callVv [] [] dX12_begin_16 (tX12_next e6) (by decide) mo_X12_next kM_X12_243 ki_X12_next kv_X12_next (fun h9 => (h9.2.1 0 _ rfl).2) (by decide) rfl (Nat.le_of_ble_eq_true rfl) ?_
  cases h
  exact ev_ret dX12_begin_19 rfl
theorem tX12_begin {g : am_G} {r : Unit × am_G} (h : fX12_begin g = some r) : am_Mt zr MX12_begin 2 [.ref 0] g (am_rv r) := am_Mt.of rfl (Nat.le_of_ble_eq_true rfl) (eX12_begin _ _ h)
def fX12_isWord (a1 : Int64) (g : am_G) : Option (Int32 × am_G) :=
  if (am_I g 0 16) = (1 : Int32) then (
    if (lg_cmp (am_L g 0 17) a1) = 0 then (
      some ((1 : Int32), g))
    else (
      some ((0 : Int32), g)))
  else (
    some ((0 : Int32), g))
set_option maxRecDepth 100000 in
set_option maxHeartbeats 4000000 in
theorem eX12_isWord (a1 : Int64) (g : am_G) (r : Int32 × am_G) (h : fX12_isWord a1 g = some r) : am_Ev zr MX12_isWord 0 0 [(0, .ref 0), (1, .long a1)] [] g (am_ri r) := by
  unfold fX12_isWord at h
  refine ev_aload_n 0 dX12_isWord_0 rfl ?_
  refine ev_gf (v := .int (am_I g 0 16)) dX12_isWord_1 (fun h9 => (h9.2.1 0 _ rfl).2) 16 (by decide) (by decide) kF_X12_259 (fun _ => rfl) ?_
  refine ev_iconst dX12_isWord_4 rfl ?_
  refine ev_icmp_ne 21 dX12_isWord_5 (by decide) (fun c1 => ?_) (fun c1 => ?_)
  · replace h := am_ifn c1 h
    refine ev_iconst dX12_isWord_21 rfl ?_
    cases h
    exact ev_zret dX12_isWord_22 rfl rfl
  · replace h := am_ifp c1 h
    refine ev_aload_n 0 dX12_isWord_8 rfl ?_
    refine ev_gf (v := .long (am_L g 0 17)) dX12_isWord_9 (fun h9 => (h9.2.1 0 _ rfl).2) 17 (by decide) (by decide) kF_X12_249 (fun _ => rfl) ?_
    refine ev_lload_n 1 dX12_isWord_12 rfl ?_
    refine ev_lcmp dX12_isWord_13 ?_
    refine ev_if_ne 21 dX12_isWord_14 (by decide) (fun c2 => ?_) (fun c2 => ?_)
    · replace h := am_ifn c2 h
      refine ev_iconst dX12_isWord_21 rfl ?_
      cases h
      exact ev_zret dX12_isWord_22 rfl rfl
    · replace h := am_ifp c2 h
      refine ev_iconst dX12_isWord_17 rfl ?_
      refine ev_goto 22 dX12_isWord_18 (by decide) ?_
      cases h
      exact ev_zret dX12_isWord_22 rfl rfl
theorem tX12_isWord {a1 : Int64} {g : am_G} {r : Int32 × am_G} (h : fX12_isWord a1 g = some r) : am_Mt zr MX12_isWord 0 [.ref 0, .long a1] g (am_ri r) := am_Mt.of rfl (Nat.le_of_ble_eq_true rfl) (eX12_isWord _ _ _ h)
def fX12_isSign (a1 : Int32) (g : am_G) : Option (Int32 × am_G) :=
  if (am_I g 0 16) = (3 : Int32) then (
    if (lg_cmp (am_L g 0 17) a1.toInt64) = 0 then (
      some ((1 : Int32), g))
    else (
      some ((0 : Int32), g)))
  else (
    some ((0 : Int32), g))
set_option maxRecDepth 100000 in
set_option maxHeartbeats 4000000 in
theorem eX12_isSign (a1 : Int32) (g : am_G) (r : Int32 × am_G) (h : fX12_isSign a1 g = some r) : am_Ev zr MX12_isSign 0 0 [(0, .ref 0), (1, .int a1)] [] g (am_ri r) := by
  unfold fX12_isSign at h
  refine ev_aload_n 0 dX12_isSign_0 rfl ?_
  refine ev_gf (v := .int (am_I g 0 16)) dX12_isSign_1 (fun h9 => (h9.2.1 0 _ rfl).2) 16 (by decide) (by decide) kF_X12_259 (fun _ => rfl) ?_
  refine ev_iconst dX12_isSign_4 rfl ?_
  refine ev_icmp_ne 22 dX12_isSign_5 (by decide) (fun c1 => ?_) (fun c1 => ?_)
  · replace h := am_ifn c1 h
    refine ev_iconst dX12_isSign_22 rfl ?_
    cases h
    exact ev_zret dX12_isSign_23 rfl rfl
  · replace h := am_ifp c1 h
    refine ev_aload_n 0 dX12_isSign_8 rfl ?_
    refine ev_gf (v := .long (am_L g 0 17)) dX12_isSign_9 (fun h9 => (h9.2.1 0 _ rfl).2) 17 (by decide) (by decide) kF_X12_249 (fun _ => rfl) ?_
    refine ev_iload_n 1 dX12_isSign_12 rfl ?_
    refine ev_i2l dX12_isSign_13 ?_
    refine ev_lcmp dX12_isSign_14 ?_
    refine ev_if_ne 22 dX12_isSign_15 (by decide) (fun c2 => ?_) (fun c2 => ?_)
    · replace h := am_ifn c2 h
      refine ev_iconst dX12_isSign_22 rfl ?_
      cases h
      exact ev_zret dX12_isSign_23 rfl rfl
    · replace h := am_ifp c2 h
      refine ev_iconst dX12_isSign_18 rfl ?_
      refine ev_goto 23 dX12_isSign_19 (by decide) ?_
      cases h
      exact ev_zret dX12_isSign_23 rfl rfl
theorem tX12_isSign {a1 : Int32} {g : am_G} {r : Int32 × am_G} (h : fX12_isSign a1 g = some r) : am_Mt zr MX12_isSign 0 [.ref 0, .int a1] g (am_ri r) := am_Mt.of rfl (Nat.le_of_ble_eq_true rfl) (eX12_isSign _ _ _ h)
def fX12_must (a1 : Int32) (g : am_G) : Option (Unit × am_G) :=
  am_jn (fun  (g2 : am_G) =>
    if (am_I g2 0 19) = 0 then (
      am_bd (fX12_next g2) fun u5 g6 =>
      some ((), g6))
    else (
      some ((), g2))) fun j3 =>
  if (am_I g 0 19) = 0 then (
    if a1 = 0 then (
      am_let (am_si g 0 19 (1 : Int32)) fun g9 =>
      am_let (am_si g9 0 18 (am_I g9 0 14)) fun g10 =>
      j3 g10)
    else (
      j3 g))
  else (
    j3 g)
set_option maxRecDepth 100000 in
set_option maxHeartbeats 4000000 in
theorem eX12_must (a1 : Int32) (g : am_G) (r : Unit × am_G) (h : fX12_must a1 g = some r) : am_Ev zr MX12_must 2 0 [(0, .ref 0), (1, .int a1)] [] g (am_rv r) := by
  unfold fX12_must at h
  refine ev_aload_n 0 dX12_must_0 rfl ?_
  refine ev_gf (v := .int (am_I g 0 19)) dX12_must_1 (fun h9 => (h9.2.1 0 _ rfl).2) 19 (by decide) (by decide) kF_X12_239 (fun _ => rfl) ?_
  refine am_jn_elim (fun q9 => ∀  (g2 : am_G) (r : Unit × am_G), q9  g2 = some r → am_Ev zr MX12_must 2 24 [(0, .ref 0)] [] g2 (am_rv r)) h ?_ (fun j3 hj3 h => ?_)
  · intro  g2 r h
    try dsimp only at h
    refine ev_aload_n 0 dX12_must_24 rfl ?_
    refine ev_gf (v := .int (am_I g2 0 19)) dX12_must_25 (fun h9 => (h9.2.1 0 _ rfl).2) 19 (by decide) (by decide) kF_X12_239 (fun _ => rfl) ?_
    refine ev_if_ne 35 dX12_must_28 (by decide) (fun c4 => ?_) (fun c4 => ?_)
    · replace h := am_ifn c4 h
      cases h
      exact ev_ret dX12_must_35 rfl
    · replace h := am_ifp c4 h
      refine ev_aload_n 0 dX12_must_31 rfl ?_
      obtain ⟨u5, g6, e7, h⟩ := am_bd_elim h
      refine ev_callVv [] [] dX12_must_32 (tX12_next e7) (by decide) mo_X12_next kM_X12_243 ki_X12_next kv_X12_next (fun h9 => (h9.2.1 0 _ rfl).2) (by decide) rfl (Nat.le_of_ble_eq_true rfl) ?_
      cases h
      exact ev_ret dX12_must_35 rfl
  · refine ev_if_ne 24 dX12_must_4 (by decide) (fun c1 => ?_) (fun c1 => ?_)
    · replace h := am_ifn c1 h
      refine ev_sub [0] rfl ?_
      exact hj3  _ _ h
    · replace h := am_ifp c1 h
      refine ev_iload_n 1 dX12_must_7 rfl ?_
      refine ev_if_ne 24 dX12_must_8 (by decide) (fun c8 => ?_) (fun c8 => ?_)
      · replace h := am_ifn c8 h
        refine ev_sub [0] rfl ?_
        exact hj3  _ _ h
      · replace h := am_ifp c8 h
        refine ev_aload_n 0 dX12_must_11 rfl ?_
        refine ev_iconst dX12_must_12 rfl ?_
        refine ev_pfi dX12_must_13 (fun h9 => (h9.2.1 0 _ rfl).2) 19 (by decide) (by decide) kF_X12_239 rfl rfl rfl (fun _ => rfl) ?_
        refine am_let_elim (P := fun g9 => am_Ev zr MX12_must 2 16 [(0, .ref 0), (1, .int a1)] [] g9 (am_rv r)) h fun g9 h => ?_
        refine ev_aload_n 0 dX12_must_16 rfl ?_
        refine ev_aload_n 0 dX12_must_17 rfl ?_
        refine ev_gf (v := .int (am_I g9 0 14)) dX12_must_18 (fun h9 => (h9.2.1 0 _ rfl).2) 14 (by decide) (by decide) kF_X12_246 (fun _ => rfl) ?_
        refine ev_pfi dX12_must_21 (fun h9 => (h9.2.1 0 _ rfl).2) 18 (by decide) (by decide) kF_X12_38 rfl rfl rfl (fun _ => rfl) ?_
        refine am_let_elim (P := fun g10 => am_Ev zr MX12_must 2 24 [(0, .ref 0), (1, .int a1)] [] g10 (am_rv r)) h fun g10 h => ?_
        refine ev_sub [0] rfl ?_
        exact hj3  _ _ h
theorem tX12_must {a1 : Int32} {g : am_G} {r : Unit × am_G} (h : fX12_must a1 g = some r) : am_Mt zr MX12_must 2 [.ref 0, .int a1] g (am_rv r) := am_Mt.of rfl (Nat.le_of_ble_eq_true rfl) (eX12_must _ _ _ h)
def fX12_number (a1 : Int64) (a3 : Int64) (g : am_G) : Option (Int32 × am_G) :=
  am_let ((am_L g 0 17).toInt32) fun x1 =>
  if (am_I g 0 16) = (2 : Int32) then (
    am_bd (fX12_in (am_L g 0 17) a1 a3 g) fun v6 g7 =>
    if v6 = 0 then (
      am_bd (fX12_must (0 : Int32) g7) fun u10 g11 =>
      some (x1, g11))
    else (
      am_bd (fX12_must (1 : Int32) g7) fun u13 g14 =>
      some (x1, g14)))
  else (
    am_bd (fX12_must (0 : Int32) g) fun u3 g4 =>
    some (x1, g4))
set_option maxRecDepth 100000 in
set_option maxHeartbeats 4000000 in
theorem eX12_number (a1 : Int64) (a3 : Int64) (g : am_G) (r : Int32 × am_G) (h : fX12_number a1 a3 g = some r) : am_Ev zr MX12_number 3 0 [(0, .ref 0), (1, .long a1), (3, .long a3)] [] g (am_ri r) := by
  unfold fX12_number at h
  refine ev_aload_n 0 dX12_number_0 rfl ?_
  refine ev_gf (v := .long (am_L g 0 17)) dX12_number_1 (fun h9 => (h9.2.1 0 _ rfl).2) 17 (by decide) (by decide) kF_X12_249 (fun _ => rfl) ?_
  refine ev_l2i dX12_number_4 ?_
  refine am_let_elim (P := fun x1 => am_Ev zr MX12_number 3 5 [(0, .ref 0), (1, .long a1), (3, .long a3)] [.int x1] g (am_ri r)) h fun x1 h => ?_
  refine ev_istore (ls' := [(5, .int x1), (0, .ref 0), (1, .long a1), (3, .long a3)]) dX12_number_5 (by decide) rfl ?_
  refine ev_aload_n 1 dX12_number_7 rfl ?_
  refine ev_aload_n 1 dX12_number_8 rfl ?_
  refine ev_gf (v := .int (am_I g 0 16)) dX12_number_9 (fun h9 => (h9.2.1 0 _ rfl).2) 16 (by decide) (by decide) kF_X12_259 (fun _ => rfl) ?_
  refine ev_iconst dX12_number_12 rfl ?_
  refine ev_icmp_ne 32 dX12_number_13 (by decide) (fun c2 => ?_) (fun c2 => ?_)
  · replace h := am_ifn c2 h
    refine ev_iconst dX12_number_32 rfl ?_
    obtain ⟨u3, g4, e5, h⟩ := am_bd_elim h
    refine ev_callVv [.int (0 : Int32)] [] dX12_number_33 (tX12_must e5) (by decide) mo_X12_must kM_X12_274 ki_X12_must kv_X12_must (fun h9 => (h9.2.1 0 _ rfl).2) (by decide) rfl (Nat.le_of_ble_eq_true rfl) ?_
    refine ev_iload 0 dX12_number_36 rfl ?_
    cases h
    exact ev_iret dX12_number_38 rfl
  · replace h := am_ifp c2 h
    refine ev_aload_n 1 dX12_number_16 rfl ?_
    refine ev_gf (v := .long (am_L g 0 17)) dX12_number_17 (fun h9 => (h9.2.1 0 _ rfl).2) 17 (by decide) (by decide) kF_X12_249 (fun _ => rfl) ?_
    refine ev_lload_n 2 dX12_number_20 rfl ?_
    refine ev_lload_n 3 dX12_number_21 rfl ?_
    obtain ⟨v6, g7, e8, h⟩ := am_bd_elim h
    refine ev_callSi (v := v6) [.long (am_L g 0 17), .long a1, .long a3] [.ref 0] dX12_number_22 (tX12_in e8) (by decide) mo_X12_in kM_X12_183 ks_X12_in (Nat.le_of_ble_eq_true rfl) ?_
    refine ev_if_eq 32 dX12_number_25 (by decide) (fun c9 => ?_) (fun c9 => ?_)
    · replace h := am_ifp c9 h
      refine ev_iconst dX12_number_32 rfl ?_
      obtain ⟨u10, g11, e12, h⟩ := am_bd_elim h
      refine ev_callVv [.int (0 : Int32)] [] dX12_number_33 (tX12_must e12) (by decide) mo_X12_must kM_X12_274 ki_X12_must kv_X12_must (fun h9 => (h9.2.1 0 _ rfl).2) (by decide) rfl (Nat.le_of_ble_eq_true rfl) ?_
      refine ev_iload 0 dX12_number_36 rfl ?_
      cases h
      exact ev_iret dX12_number_38 rfl
    · replace h := am_ifn c9 h
      refine ev_iconst dX12_number_28 rfl ?_
      refine ev_goto 33 dX12_number_29 (by decide) ?_
      obtain ⟨u13, g14, e15, h⟩ := am_bd_elim h
      refine ev_callVv [.int (1 : Int32)] [] dX12_number_33 (tX12_must e15) (by decide) mo_X12_must kM_X12_274 ki_X12_must kv_X12_must (fun h9 => (h9.2.1 0 _ rfl).2) (by decide) rfl (Nat.le_of_ble_eq_true rfl) ?_
      refine ev_iload 0 dX12_number_36 rfl ?_
      cases h
      exact ev_iret dX12_number_38 rfl
theorem tX12_number {a1 : Int64} {a3 : Int64} {g : am_G} {r : Int32 × am_G} (h : fX12_number a1 a3 g = some r) : am_Mt zr MX12_number 3 [.ref 0, .long a1, .long a3] g (am_ri r) := am_Mt.of rfl (Nat.le_of_ble_eq_true rfl) (eX12_number _ _ _ _ h)
def fX12_fault (g : am_G) : Option (Int32 × am_G) :=
  am_let (am_si g 0 0 (0 : Int32)) fun g1 =>
  some (am_I g1 0 18, g1)
set_option maxRecDepth 100000 in
set_option maxHeartbeats 4000000 in
theorem eX12_fault (g : am_G) (r : Int32 × am_G) (h : fX12_fault g = some r) : am_Ev zr MX12_fault 0 0 [(0, .ref 0)] [] g (am_ri r) := by
  unfold fX12_fault at h
  refine ev_aload_n 0 dX12_fault_0 rfl ?_
  refine ev_iconst dX12_fault_1 rfl ?_
  refine ev_pfi dX12_fault_2 (fun h9 => (h9.2.1 0 _ rfl).2) 0 (by decide) (by decide) kF_X12_163 rfl rfl rfl (fun _ => rfl) ?_
  refine am_let_elim (P := fun g1 => am_Ev zr MX12_fault 0 5 [(0, .ref 0)] [] g1 (am_ri r)) h fun g1 h => ?_
  refine ev_aload_n 0 dX12_fault_5 rfl ?_
  refine ev_gf (v := .int (am_I g1 0 18)) dX12_fault_6 (fun h9 => (h9.2.1 0 _ rfl).2) 18 (by decide) (by decide) kF_X12_38 (fun _ => rfl) ?_
  cases h
  exact ev_iret dX12_fault_9 rfl
theorem tX12_fault {g : am_G} {r : Int32 × am_G} (h : fX12_fault g = some r) : am_Mt zr MX12_fault 0 [.ref 0] g (am_ri r) := am_Mt.of rfl (Nat.le_of_ble_eq_true rfl) (eX12_fault _ _ h)
def fX12_emit (a1 : Int32) (a2 : Int32) (g : am_G) : Option (Unit × am_G) :=
  am_gd (am_in (am_I g 0 23) 400) <|
  am_let (am_si g 11 (am_I g 0 23).toNatClampNeg a1) fun g2 =>
  am_gd (am_in (am_I g2 0 23) 400) <|
  am_let (am_si g2 12 (am_I g2 0 23).toNatClampNeg a2) fun g4 =>
  am_let (am_si g4 0 23 ((am_I g4 0 23) + (1 : Int32))) fun g5 =>
  some ((), g5)
set_option maxRecDepth 100000 in
set_option maxHeartbeats 4000000 in
theorem eX12_emit (a1 : Int32) (a2 : Int32) (g : am_G) (r : Unit × am_G) (h : fX12_emit a1 a2 g = some r) : am_Ev zr MX12_emit 0 0 [(0, .ref 0), (1, .int a1), (2, .int a2)] [] g (am_rv r) := by
  unfold fX12_emit at h
  refine ev_aload_n 0 dX12_emit_0 rfl ?_
  refine ev_gf (v := .ref 11) dX12_emit_1 (fun h9 => (h9.2.1 0 _ rfl).2) 24 (by decide) (by decide) kF_X12_45 (fun h9 => congrArg va_rf (h9.2.2 0 24 11 rfl)) ?_
  refine ev_aload_n 0 dX12_emit_4 rfl ?_
  refine ev_gf (v := .int (am_I g 0 23)) dX12_emit_5 (fun h9 => (h9.2.1 0 _ rfl).2) 23 (by decide) (by decide) kF_X12_278 (fun _ => rfl) ?_
  refine ev_iload_n 1 dX12_emit_8 rfl ?_
  obtain ⟨c1, h⟩ := am_gd_elim h
  refine ev_iast dX12_emit_9 (fun h9 => (h9.2.1 11 _ rfl).2) (am_in_vp c1) ?_
  refine am_let_elim (P := fun g2 => am_Ev zr MX12_emit 0 10 [(0, .ref 0), (1, .int a1), (2, .int a2)] [] g2 (am_rv r)) h fun g2 h => ?_
  refine ev_aload_n 0 dX12_emit_10 rfl ?_
  refine ev_gf (v := .ref 12) dX12_emit_11 (fun h9 => (h9.2.1 0 _ rfl).2) 25 (by decide) (by decide) kF_X12_48 (fun h9 => congrArg va_rf (h9.2.2 0 25 12 rfl)) ?_
  refine ev_aload_n 0 dX12_emit_14 rfl ?_
  refine ev_gf (v := .int (am_I g2 0 23)) dX12_emit_15 (fun h9 => (h9.2.1 0 _ rfl).2) 23 (by decide) (by decide) kF_X12_278 (fun _ => rfl) ?_
  refine ev_iload_n 2 dX12_emit_18 rfl ?_
  obtain ⟨c3, h⟩ := am_gd_elim h
  refine ev_iast dX12_emit_19 (fun h9 => (h9.2.1 12 _ rfl).2) (am_in_vp c3) ?_
  refine am_let_elim (P := fun g4 => am_Ev zr MX12_emit 0 20 [(0, .ref 0), (1, .int a1), (2, .int a2)] [] g4 (am_rv r)) h fun g4 h => ?_
  refine ev_aload_n 0 dX12_emit_20 rfl ?_
  refine ev_dup dX12_emit_21 rfl ?_
  refine ev_gf (v := .int (am_I g4 0 23)) dX12_emit_22 (fun h9 => (h9.2.1 0 _ rfl).2) 23 (by decide) (by decide) kF_X12_278 (fun _ => rfl) ?_
  refine ev_iconst dX12_emit_25 rfl ?_
  refine ev_iadd dX12_emit_26 ?_
  refine ev_pfi dX12_emit_27 (fun h9 => (h9.2.1 0 _ rfl).2) 23 (by decide) (by decide) kF_X12_278 rfl rfl rfl (fun _ => rfl) ?_
  refine am_let_elim (P := fun g5 => am_Ev zr MX12_emit 0 30 [(0, .ref 0), (1, .int a1), (2, .int a2)] [] g5 (am_rv r)) h fun g5 h => ?_
  cases h
  exact ev_ret dX12_emit_30 rfl
theorem tX12_emit {a1 : Int32} {a2 : Int32} {g : am_G} {r : Unit × am_G} (h : fX12_emit a1 a2 g = some r) : am_Mt zr MX12_emit 0 [.ref 0, .int a1, .int a2] g (am_rv r) := am_Mt.of rfl (Nat.le_of_ble_eq_true rfl) (eX12_emit _ _ _ _ h)
def fX12_push (a1 : Int32) (a2 : Int32) (g : am_G) : Option (Unit × am_G) :=
  am_gd (am_in (am_I g 0 29) 400) <|
  am_let (am_si g 13 (am_I g 0 29).toNatClampNeg a1) fun g2 =>
  am_gd (am_in (am_I g2 0 29) 400) <|
  am_let (am_si g2 14 (am_I g2 0 29).toNatClampNeg a2) fun g4 =>
  am_let (am_si g4 0 29 ((am_I g4 0 29) + (1 : Int32))) fun g5 =>
  some ((), g5)
set_option maxRecDepth 100000 in
set_option maxHeartbeats 4000000 in
theorem eX12_push (a1 : Int32) (a2 : Int32) (g : am_G) (r : Unit × am_G) (h : fX12_push a1 a2 g = some r) : am_Ev zr MX12_push 0 0 [(0, .ref 0), (1, .int a1), (2, .int a2)] [] g (am_rv r) := by
  unfold fX12_push at h
  refine ev_aload_n 0 dX12_push_0 rfl ?_
  refine ev_gf (v := .ref 13) dX12_push_1 (fun h9 => (h9.2.1 0 _ rfl).2) 27 (by decide) (by decide) kF_X12_51 (fun h9 => congrArg va_rf (h9.2.2 0 27 13 rfl)) ?_
  refine ev_aload_n 0 dX12_push_4 rfl ?_
  refine ev_gf (v := .int (am_I g 0 29)) dX12_push_5 (fun h9 => (h9.2.1 0 _ rfl).2) 29 (by decide) (by decide) kF_X12_281 (fun _ => rfl) ?_
  refine ev_iload_n 1 dX12_push_8 rfl ?_
  obtain ⟨c1, h⟩ := am_gd_elim h
  refine ev_iast dX12_push_9 (fun h9 => (h9.2.1 13 _ rfl).2) (am_in_vp c1) ?_
  refine am_let_elim (P := fun g2 => am_Ev zr MX12_push 0 10 [(0, .ref 0), (1, .int a1), (2, .int a2)] [] g2 (am_rv r)) h fun g2 h => ?_
  refine ev_aload_n 0 dX12_push_10 rfl ?_
  refine ev_gf (v := .ref 14) dX12_push_11 (fun h9 => (h9.2.1 0 _ rfl).2) 28 (by decide) (by decide) kF_X12_54 (fun h9 => congrArg va_rf (h9.2.2 0 28 14 rfl)) ?_
  refine ev_aload_n 0 dX12_push_14 rfl ?_
  refine ev_gf (v := .int (am_I g2 0 29)) dX12_push_15 (fun h9 => (h9.2.1 0 _ rfl).2) 29 (by decide) (by decide) kF_X12_281 (fun _ => rfl) ?_
  refine ev_iload_n 2 dX12_push_18 rfl ?_
  obtain ⟨c3, h⟩ := am_gd_elim h
  refine ev_iast dX12_push_19 (fun h9 => (h9.2.1 14 _ rfl).2) (am_in_vp c3) ?_
  refine am_let_elim (P := fun g4 => am_Ev zr MX12_push 0 20 [(0, .ref 0), (1, .int a1), (2, .int a2)] [] g4 (am_rv r)) h fun g4 h => ?_
  refine ev_aload_n 0 dX12_push_20 rfl ?_
  refine ev_dup dX12_push_21 rfl ?_
  refine ev_gf (v := .int (am_I g4 0 29)) dX12_push_22 (fun h9 => (h9.2.1 0 _ rfl).2) 29 (by decide) (by decide) kF_X12_281 (fun _ => rfl) ?_
  refine ev_iconst dX12_push_25 rfl ?_
  refine ev_iadd dX12_push_26 ?_
  refine ev_pfi dX12_push_27 (fun h9 => (h9.2.1 0 _ rfl).2) 29 (by decide) (by decide) kF_X12_281 rfl rfl rfl (fun _ => rfl) ?_
  refine am_let_elim (P := fun g5 => am_Ev zr MX12_push 0 30 [(0, .ref 0), (1, .int a1), (2, .int a2)] [] g5 (am_rv r)) h fun g5 h => ?_
  cases h
  exact ev_ret dX12_push_30 rfl
theorem tX12_push {a1 : Int32} {a2 : Int32} {g : am_G} {r : Unit × am_G} (h : fX12_push a1 a2 g = some r) : am_Mt zr MX12_push 0 [.ref 0, .int a1, .int a2] g (am_rv r) := am_Mt.of rfl (Nat.le_of_ble_eq_true rfl) (eX12_push _ _ _ _ h)
def fX12_binds (a0 : Int32) (g : am_G) : Option (Int32 × am_G) :=
  if a0 < (31 : Int32) then (
    if a0 = (30 : Int32) then (
      some ((1 : Int32), g))
    else (
      if a0 = (29 : Int32) then (
        some ((2 : Int32), g))
      else (
        if a0 = (28 : Int32) then (
          some ((3 : Int32), g))
        else (
          if a0 < (25 : Int32) then (
            if a0 < (22 : Int32) then (
              some ((5 : Int32), g))
            else (
              some ((6 : Int32), g)))
          else (
            some ((4 : Int32), g))))))
  else (
    some ((0 : Int32), g))
set_option maxRecDepth 100000 in
set_option maxHeartbeats 4000000 in
theorem eX12_binds (a0 : Int32) (g : am_G) (r : Int32 × am_G) (h : fX12_binds a0 g = some r) : am_Ev zr MX12_binds 0 0 [(0, .int a0)] [] g (am_ri r) := by
  unfold fX12_binds at h
  refine ev_iload_n 0 dX12_binds_0 rfl ?_
  refine ev_bipush dX12_binds_1 rfl ?_
  refine ev_icmp_lt 10 dX12_binds_3 (by decide) (fun c1 => ?_) (fun c1 => ?_)
  · replace h := am_ifp c1 h
    refine ev_iload_n 0 dX12_binds_10 rfl ?_
    refine ev_bipush dX12_binds_11 rfl ?_
    refine ev_icmp_ne 20 dX12_binds_13 (by decide) (fun c2 => ?_) (fun c2 => ?_)
    · replace h := am_ifn c2 h
      refine ev_iload_n 0 dX12_binds_20 rfl ?_
      refine ev_bipush dX12_binds_21 rfl ?_
      refine ev_icmp_ne 30 dX12_binds_23 (by decide) (fun c3 => ?_) (fun c3 => ?_)
      · replace h := am_ifn c3 h
        refine ev_iload_n 0 dX12_binds_30 rfl ?_
        refine ev_bipush dX12_binds_31 rfl ?_
        refine ev_icmp_ne 40 dX12_binds_33 (by decide) (fun c4 => ?_) (fun c4 => ?_)
        · replace h := am_ifn c4 h
          refine ev_iload_n 0 dX12_binds_40 rfl ?_
          refine ev_bipush dX12_binds_41 rfl ?_
          refine ev_icmp_lt 50 dX12_binds_43 (by decide) (fun c5 => ?_) (fun c5 => ?_)
          · replace h := am_ifp c5 h
            refine ev_iload_n 0 dX12_binds_50 rfl ?_
            refine ev_bipush dX12_binds_51 rfl ?_
            refine ev_icmp_lt 61 dX12_binds_53 (by decide) (fun c6 => ?_) (fun c6 => ?_)
            · replace h := am_ifp c6 h
              refine ev_iconst dX12_binds_61 rfl ?_
              cases h
              exact ev_iret dX12_binds_62 rfl
            · replace h := am_ifn c6 h
              refine ev_bipush dX12_binds_56 rfl ?_
              refine ev_goto 62 dX12_binds_58 (by decide) ?_
              cases h
              exact ev_iret dX12_binds_62 rfl
          · replace h := am_ifn c5 h
            refine ev_iconst dX12_binds_46 rfl ?_
            refine ev_goto 62 dX12_binds_47 (by decide) ?_
            cases h
            exact ev_iret dX12_binds_62 rfl
        · replace h := am_ifp c4 h
          refine ev_iconst dX12_binds_36 rfl ?_
          refine ev_goto 62 dX12_binds_37 (by decide) ?_
          cases h
          exact ev_iret dX12_binds_62 rfl
      · replace h := am_ifp c3 h
        refine ev_iconst dX12_binds_26 rfl ?_
        refine ev_goto 62 dX12_binds_27 (by decide) ?_
        cases h
        exact ev_iret dX12_binds_62 rfl
    · replace h := am_ifp c2 h
      refine ev_iconst dX12_binds_16 rfl ?_
      refine ev_goto 62 dX12_binds_17 (by decide) ?_
      cases h
      exact ev_iret dX12_binds_62 rfl
  · replace h := am_ifn c1 h
    refine ev_iconst dX12_binds_6 rfl ?_
    refine ev_goto 62 dX12_binds_7 (by decide) ?_
    cases h
    exact ev_iret dX12_binds_62 rfl
theorem tX12_binds {a0 : Int32} {g : am_G} {r : Int32 × am_G} (h : fX12_binds a0 g = some r) : am_Mt zr MX12_binds 0 [.int a0] g (am_ri r) := am_Mt.of rfl (Nat.le_of_ble_eq_true rfl) (eX12_binds _ _ _ h)
def fX12_settle_L0 (a1 : Int32) : Nat → am_G → Option (Unit × am_G)
  | 0, _ => none
  | n + 1, g1 =>
    if (am_I g1 0 29) ≤ 0 then (
      some ((), g1))
    else (
      am_gd (am_in ((am_I g1 0 29) - (1 : Int32)) 400) <|
      am_bd (fX12_binds (am_I g1 13 ((am_I g1 0 29) - (1 : Int32)).toNatClampNeg) g1) fun v4 g5 =>
      if v4 < a1 then (
        some ((), g5))
      else (
        am_let (am_si g5 0 29 ((am_I g5 0 29) - (1 : Int32))) fun g8 =>
        am_gd (am_in (am_I g8 0 29) 400) <|
        am_jn (fun  (g11 : am_G) =>
          am_gd (am_in (am_I g11 0 29) 400) <|
          am_gd (am_in (am_I g11 14 (am_I g11 0 29).toNatClampNeg) 400) <|
          am_let (am_si g11 12 (am_I g11 14 (am_I g11 0 29).toNatClampNeg).toNatClampNeg (am_I g11 0 23)) fun g15 =>
          fX12_settle_L0 a1 n g15) fun j12 =>
        if (am_I g8 13 (am_I g8 0 29).toNatClampNeg) = (29 : Int32) then (
          j12 g8)
        else (
          am_gd (am_in (am_I g8 0 29) 400) <|
          if (am_I g8 13 (am_I g8 0 29).toNatClampNeg) = (30 : Int32) then (
            j12 g8)
          else (
            am_gd (am_in (am_I g8 0 29) 400) <|
            am_bd (fX12_emit (am_I g8 13 (am_I g8 0 29).toNatClampNeg) (0 : Int32) g8) fun u19 g20 =>
            fX12_settle_L0 a1 n g20))))
def fX12_settle (a1 : Int32) (g : am_G) : Option (Unit × am_G) :=
  fX12_settle_L0 a1 am_fu g
set_option maxRecDepth 100000 in
set_option maxHeartbeats 4000000 in
theorem tfX12_settle_L0  (a1 : Int32) : ∀ (n : Nat)  (g1 : am_G) (r : Unit × am_G), fX12_settle_L0 a1 n  g1 = some r → am_Ev zr MX12_settle 1 0 [(0, .ref 0), (1, .int a1)] [] g1 (am_rv r) := by
  intro n
  induction n with
  | zero => intro  g1 r h; exact nomatch (show (none : Option (Unit × am_G)) = some r from h)
  | succ n ih =>
    intro  g1 r h
    rw [fX12_settle_L0] at h
    refine ev_aload_n 0 dX12_settle_0 rfl ?_
    refine ev_gf (v := .int (am_I g1 0 29)) dX12_settle_1 (fun h9 => (h9.2.1 0 _ rfl).2) 29 (by decide) (by decide) kF_X12_281 (fun _ => rfl) ?_
    refine ev_if_le 101 dX12_settle_4 (by decide) (fun c2 => ?_) (fun c2 => ?_)
    · replace h := am_ifp c2 h
      cases h
      exact ev_ret dX12_settle_101 rfl
    · replace h := am_ifn c2 h
      refine ev_aload_n 0 dX12_settle_7 rfl ?_
      refine ev_gf (v := .ref 13) dX12_settle_8 (fun h9 => (h9.2.1 0 _ rfl).2) 27 (by decide) (by decide) kF_X12_51 (fun h9 => congrArg va_rf (h9.2.2 0 27 13 rfl)) ?_
      refine ev_aload_n 0 dX12_settle_11 rfl ?_
      refine ev_gf (v := .int (am_I g1 0 29)) dX12_settle_12 (fun h9 => (h9.2.1 0 _ rfl).2) 29 (by decide) (by decide) kF_X12_281 (fun _ => rfl) ?_
      refine ev_iconst dX12_settle_15 rfl ?_
      refine ev_isub dX12_settle_16 ?_
      obtain ⟨c3, h⟩ := am_gd_elim h
      refine ev_iald dX12_settle_17 (fun h9 => (h9.2.1 13 _ rfl).2) (am_in_vp c3) ?_
      obtain ⟨v4, g5, e6, h⟩ := am_bd_elim h
      refine ev_callSi (v := v4) [.int (am_I g1 13 ((am_I g1 0 29) - (1 : Int32)).toNatClampNeg)] [] dX12_settle_18 (tX12_binds e6) (by decide) mo_X12_binds kM_X12_284 ks_X12_binds (Nat.le_of_ble_eq_true rfl) ?_
      refine ev_iload_n 1 dX12_settle_21 rfl ?_
      refine ev_icmp_lt 101 dX12_settle_22 (by decide) (fun c7 => ?_) (fun c7 => ?_)
      · replace h := am_ifp c7 h
        cases h
        exact ev_ret dX12_settle_101 rfl
      · replace h := am_ifn c7 h
        refine ev_aload_n 0 dX12_settle_25 rfl ?_
        refine ev_dup dX12_settle_26 rfl ?_
        refine ev_gf (v := .int (am_I g5 0 29)) dX12_settle_27 (fun h9 => (h9.2.1 0 _ rfl).2) 29 (by decide) (by decide) kF_X12_281 (fun _ => rfl) ?_
        refine ev_iconst dX12_settle_30 rfl ?_
        refine ev_isub dX12_settle_31 ?_
        refine ev_pfi dX12_settle_32 (fun h9 => (h9.2.1 0 _ rfl).2) 29 (by decide) (by decide) kF_X12_281 rfl rfl rfl (fun _ => rfl) ?_
        refine am_let_elim (P := fun g8 => am_Ev zr MX12_settle 1 35 [(0, .ref 0), (1, .int a1)] [] g8 (am_rv r)) h fun g8 h => ?_
        refine ev_aload_n 0 dX12_settle_35 rfl ?_
        refine ev_gf (v := .ref 13) dX12_settle_36 (fun h9 => (h9.2.1 0 _ rfl).2) 27 (by decide) (by decide) kF_X12_51 (fun h9 => congrArg va_rf (h9.2.2 0 27 13 rfl)) ?_
        refine ev_aload_n 0 dX12_settle_39 rfl ?_
        refine ev_gf (v := .int (am_I g8 0 29)) dX12_settle_40 (fun h9 => (h9.2.1 0 _ rfl).2) 29 (by decide) (by decide) kF_X12_281 (fun _ => rfl) ?_
        obtain ⟨c9, h⟩ := am_gd_elim h
        refine ev_iald dX12_settle_43 (fun h9 => (h9.2.1 13 _ rfl).2) (am_in_vp c9) ?_
        refine ev_bipush dX12_settle_44 rfl ?_
        refine am_jn_elim (fun q9 => ∀  (g11 : am_G) (r : Unit × am_G), q9  g11 = some r → am_Ev zr MX12_settle 1 63 [(0, .ref 0), (1, .int a1)] [] g11 (am_rv r)) h ?_ (fun j12 hj12 h => ?_)
        · intro  g11 r h
          try dsimp only at h
          refine ev_aload_n 0 dX12_settle_63 rfl ?_
          refine ev_gf (v := .ref 12) dX12_settle_64 (fun h9 => (h9.2.1 0 _ rfl).2) 25 (by decide) (by decide) kF_X12_48 (fun h9 => congrArg va_rf (h9.2.2 0 25 12 rfl)) ?_
          refine ev_aload_n 0 dX12_settle_67 rfl ?_
          refine ev_gf (v := .ref 14) dX12_settle_68 (fun h9 => (h9.2.1 0 _ rfl).2) 28 (by decide) (by decide) kF_X12_54 (fun h9 => congrArg va_rf (h9.2.2 0 28 14 rfl)) ?_
          refine ev_aload_n 0 dX12_settle_71 rfl ?_
          refine ev_gf (v := .int (am_I g11 0 29)) dX12_settle_72 (fun h9 => (h9.2.1 0 _ rfl).2) 29 (by decide) (by decide) kF_X12_281 (fun _ => rfl) ?_
          obtain ⟨c13, h⟩ := am_gd_elim h
          refine ev_iald dX12_settle_75 (fun h9 => (h9.2.1 14 _ rfl).2) (am_in_vp c13) ?_
          refine ev_aload_n 0 dX12_settle_76 rfl ?_
          refine ev_gf (v := .int (am_I g11 0 23)) dX12_settle_77 (fun h9 => (h9.2.1 0 _ rfl).2) 23 (by decide) (by decide) kF_X12_278 (fun _ => rfl) ?_
          obtain ⟨c14, h⟩ := am_gd_elim h
          refine ev_iast dX12_settle_80 (fun h9 => (h9.2.1 12 _ rfl).2) (am_in_vp c14) ?_
          refine am_let_elim (P := fun g15 => am_Ev zr MX12_settle 1 81 [(0, .ref 0), (1, .int a1)] [] g15 (am_rv r)) h fun g15 h => ?_
          refine ev_goto 0 dX12_settle_81 (by decide) ?_
          refine ev_sub [0, 1] rfl ?_
          exact ih  _ _ h
        · refine ev_icmp_eq 63 dX12_settle_46 (by decide) (fun c10 => ?_) (fun c10 => ?_)
          · replace h := am_ifp c10 h
            refine ev_sub [0, 1] rfl ?_
            exact hj12  _ _ h
          · replace h := am_ifn c10 h
            refine ev_aload_n 0 dX12_settle_49 rfl ?_
            refine ev_gf (v := .ref 13) dX12_settle_50 (fun h9 => (h9.2.1 0 _ rfl).2) 27 (by decide) (by decide) kF_X12_51 (fun h9 => congrArg va_rf (h9.2.2 0 27 13 rfl)) ?_
            refine ev_aload_n 0 dX12_settle_53 rfl ?_
            refine ev_gf (v := .int (am_I g8 0 29)) dX12_settle_54 (fun h9 => (h9.2.1 0 _ rfl).2) 29 (by decide) (by decide) kF_X12_281 (fun _ => rfl) ?_
            obtain ⟨c16, h⟩ := am_gd_elim h
            refine ev_iald dX12_settle_57 (fun h9 => (h9.2.1 13 _ rfl).2) (am_in_vp c16) ?_
            refine ev_bipush dX12_settle_58 rfl ?_
            refine ev_icmp_ne 84 dX12_settle_60 (by decide) (fun c17 => ?_) (fun c17 => ?_)
            · replace h := am_ifn c17 h
              refine ev_aload_n 0 dX12_settle_84 rfl ?_
              refine ev_aload_n 0 dX12_settle_85 rfl ?_
              refine ev_gf (v := .ref 13) dX12_settle_86 (fun h9 => (h9.2.1 0 _ rfl).2) 27 (by decide) (by decide) kF_X12_51 (fun h9 => congrArg va_rf (h9.2.2 0 27 13 rfl)) ?_
              refine ev_aload_n 0 dX12_settle_89 rfl ?_
              refine ev_gf (v := .int (am_I g8 0 29)) dX12_settle_90 (fun h9 => (h9.2.1 0 _ rfl).2) 29 (by decide) (by decide) kF_X12_281 (fun _ => rfl) ?_
              obtain ⟨c18, h⟩ := am_gd_elim h
              refine ev_iald dX12_settle_93 (fun h9 => (h9.2.1 13 _ rfl).2) (am_in_vp c18) ?_
              refine ev_iconst dX12_settle_94 rfl ?_
              obtain ⟨u19, g20, e21, h⟩ := am_bd_elim h
              refine ev_callVv [.int (am_I g8 13 (am_I g8 0 29).toNatClampNeg), .int (0 : Int32)] [] dX12_settle_95 (tX12_emit e21) (by decide) mo_X12_emit kM_X12_287 ki_X12_emit kv_X12_emit (fun h9 => (h9.2.1 0 _ rfl).2) (by decide) rfl (Nat.le_of_ble_eq_true rfl) ?_
              refine ev_goto 0 dX12_settle_98 (by decide) ?_
              refine ev_sub [0, 1] rfl ?_
              exact ih  _ _ h
            · replace h := am_ifp c17 h
              refine ev_sub [0, 1] rfl ?_
              exact hj12  _ _ h
set_option maxRecDepth 100000 in
set_option maxHeartbeats 4000000 in
theorem eX12_settle (a1 : Int32) (g : am_G) (r : Unit × am_G) (h : fX12_settle a1 g = some r) : am_Ev zr MX12_settle 1 0 [(0, .ref 0), (1, .int a1)] [] g (am_rv r) := by
  unfold fX12_settle at h
  refine ev_sub [0, 1] rfl ?_
  exact tfX12_settle_L0 a1 _  _ _ h
theorem tX12_settle {a1 : Int32} {g : am_G} {r : Unit × am_G} (h : fX12_settle a1 g = some r) : am_Mt zr MX12_settle 1 [.ref 0, .int a1] g (am_rv r) := am_Mt.of rfl (Nat.le_of_ble_eq_true rfl) (eX12_settle _ _ _ h)
def fX12_inner_L4 : Nat → Int32 → Int32 → am_G → Option (Int32 × am_G)
  | 0, _, _, _ => none
  | n + 1, x1, x2, g3 =>
    if (am_I g3 0 29) ≤ x2 then (
      some (x1, g3))
    else (
      am_gd (am_in x2 400) <|
      am_jn (fun (x7 : Int32) (g8 : am_G) =>
        am_let (x2 + (1 : Int32)) fun x10 =>
        fX12_inner_L4 n x7 x10 g8) fun j9 =>
      if (am_I g3 13 x2.toNatClampNeg) < (31 : Int32) then (
        j9 x1 g3)
      else (
        am_gd (am_in x2 400) <|
        j9 (am_I g3 13 x2.toNatClampNeg) g3))
def fX12_inner (g : am_G) : Option (Int32 × am_G) :=
  fX12_inner_L4 am_fu (-1 : Int32) (0 : Int32) g
set_option maxRecDepth 100000 in
set_option maxHeartbeats 4000000 in
theorem tfX12_inner_L4  : ∀ (n : Nat) (x1 : Int32) (x2 : Int32) (g3 : am_G) (r : Int32 × am_G), fX12_inner_L4 n x1 x2 g3 = some r → am_Ev zr MX12_inner 0 4 [(0, .ref 0), (1, .int x1), (2, .int x2)] [] g3 (am_ri r) := by
  intro n
  induction n with
  | zero => intro x1 x2 g3 r h; exact nomatch (show (none : Option (Int32 × am_G)) = some r from h)
  | succ n ih =>
    intro x1 x2 g3 r h
    rw [fX12_inner_L4] at h
    refine ev_iload_n 2 dX12_inner_4 rfl ?_
    refine ev_aload_n 0 dX12_inner_5 rfl ?_
    refine ev_gf (v := .int (am_I g3 0 29)) dX12_inner_6 (fun h9 => (h9.2.1 0 _ rfl).2) 29 (by decide) (by decide) kF_X12_281 (fun _ => rfl) ?_
    refine ev_icmp_ge 40 dX12_inner_9 (by decide) (fun c4 => ?_) (fun c4 => ?_)
    · replace h := am_ifp c4 h
      refine ev_iload_n 1 dX12_inner_40 rfl ?_
      cases h
      exact ev_iret dX12_inner_41 rfl
    · replace h := am_ifn c4 h
      refine ev_aload_n 0 dX12_inner_12 rfl ?_
      refine ev_gf (v := .ref 13) dX12_inner_13 (fun h9 => (h9.2.1 0 _ rfl).2) 27 (by decide) (by decide) kF_X12_51 (fun h9 => congrArg va_rf (h9.2.2 0 27 13 rfl)) ?_
      refine ev_iload_n 2 dX12_inner_16 rfl ?_
      obtain ⟨c5, h⟩ := am_gd_elim h
      refine ev_iald dX12_inner_17 (fun h9 => (h9.2.1 13 _ rfl).2) (am_in_vp c5) ?_
      refine ev_bipush dX12_inner_18 rfl ?_
      refine am_jn_elim (fun q9 => ∀ (x7 : Int32) (g8 : am_G) (r : Int32 × am_G), q9 x7 g8 = some r → am_Ev zr MX12_inner 0 33 [(0, .ref 0), (2, .int x2)] [.int x7] g8 (am_ri r)) h ?_ (fun j9 hj9 h => ?_)
      · intro x7 g8 r h
        try dsimp only at h
        refine ev_istore_n (ls' := [(1, .int x7), (0, .ref 0), (2, .int x2)]) dX12_inner_33 rfl (by decide) rfl ?_
        obtain ⟨x10, ex10, h⟩ := am_let_ex h
        refine ev_iinc (ls' := [(2, .int x10), (1, .int x7), (0, .ref 0)]) 2 dX12_inner_34 rfl ex10 (by decide) rfl ?_
        refine ev_goto 4 dX12_inner_37 (by decide) ?_
        refine ev_sub [2, 1, 0] rfl ?_
        exact ih _ _ _ _ h
      · refine ev_icmp_lt 32 dX12_inner_20 (by decide) (fun c6 => ?_) (fun c6 => ?_)
        · replace h := am_ifp c6 h
          refine ev_iload_n 1 dX12_inner_32 rfl ?_
          refine ev_sub [0, 2] rfl ?_
          exact hj9 _ _ _ h
        · replace h := am_ifn c6 h
          refine ev_aload_n 0 dX12_inner_23 rfl ?_
          refine ev_gf (v := .ref 13) dX12_inner_24 (fun h9 => (h9.2.1 0 _ rfl).2) 27 (by decide) (by decide) kF_X12_51 (fun h9 => congrArg va_rf (h9.2.2 0 27 13 rfl)) ?_
          refine ev_iload_n 2 dX12_inner_27 rfl ?_
          obtain ⟨c11, h⟩ := am_gd_elim h
          refine ev_iald dX12_inner_28 (fun h9 => (h9.2.1 13 _ rfl).2) (am_in_vp c11) ?_
          refine ev_goto 33 dX12_inner_29 (by decide) ?_
          refine ev_sub [0, 2] rfl ?_
          exact hj9 _ _ _ h
set_option maxRecDepth 100000 in
set_option maxHeartbeats 4000000 in
theorem eX12_inner (g : am_G) (r : Int32 × am_G) (h : fX12_inner g = some r) : am_Ev zr MX12_inner 0 0 [(0, .ref 0)] [] g (am_ri r) := by
  unfold fX12_inner at h
  refine ev_iconst dX12_inner_0 rfl ?_
  refine ev_istore_n (ls' := [(1, .int (-1 : Int32)), (0, .ref 0)]) dX12_inner_1 rfl (by decide) rfl ?_
  refine ev_iconst dX12_inner_2 rfl ?_
  refine ev_istore_n (ls' := [(2, .int (0 : Int32)), (1, .int (-1 : Int32)), (0, .ref 0)]) dX12_inner_3 rfl (by decide) rfl ?_
  refine ev_sub [2, 1, 0] rfl ?_
  exact tfX12_inner_L4 _ _ _ _ _ h
theorem tX12_inner {g : am_G} {r : Int32 × am_G} (h : fX12_inner g = some r) : am_Mt zr MX12_inner 0 [.ref 0] g (am_ri r) := am_Mt.of rfl (Nat.le_of_ble_eq_true rfl) (eX12_inner _ _ h)
def fX12_isCompared_L7 (k : Int32 → am_G → Option (Int32 × am_G)) : Nat → Int32 → am_G → Option (Int32 × am_G)
  | 0, _, _ => none
  | n + 1, x2, g3 =>
    if x2 < 0 then (
      k x2 g3)
    else (
      am_gd (am_in x2 400) <|
      am_bd (fX12_in ((am_I g3 13 x2.toNatClampNeg).toInt64) (20 : Int64) (24 : Int64) g3) fun v8 g9 =>
      if v8 = 0 then (
        k x2 g9)
      else (
        am_let (x2 + (-1 : Int32)) fun x12 =>
        fX12_isCompared_L7 k n x12 g9))
def fX12_isCompared (g : am_G) : Option (Int32 × am_G) :=
  am_let ((am_I g 0 29) - (1 : Int32)) fun x1 =>
  fX12_isCompared_L7 (fun (x13 : Int32) (g14 : am_G) =>
    if x13 < 0 then (
      some ((0 : Int32), g14))
    else (
      am_gd (am_in x13 400) <|
      am_bd (fX12_in ((am_I g14 13 x13.toNatClampNeg).toInt64) (25 : Int64) (27 : Int64) g14) fun v17 g18 =>
      if v17 = 0 then (
        some ((0 : Int32), g18))
      else (
        some ((1 : Int32), g18)))) am_fu x1 g
set_option maxRecDepth 100000 in
set_option maxHeartbeats 4000000 in
theorem tfX12_isCompared_L7  {k : Int32 → am_G → Option (Int32 × am_G)} (hk : ∀ (x4 : Int32) (g5 : am_G) (r : Int32 × am_G), k x4 g5 = some r → am_Ev zr MX12_isCompared 1 36 [(0, .ref 0), (1, .int x4)] [] g5 (am_ri r)) : ∀ (n : Nat) (x2 : Int32) (g3 : am_G) (r : Int32 × am_G), fX12_isCompared_L7 k n x2 g3 = some r → am_Ev zr MX12_isCompared 1 7 [(0, .ref 0), (1, .int x2)] [] g3 (am_ri r) := by
  intro n
  induction n with
  | zero => intro x2 g3 r h; exact nomatch (show (none : Option (Int32 × am_G)) = some r from h)
  | succ n ih =>
    intro x2 g3 r h
    rw [fX12_isCompared_L7] at h
    refine ev_iload_n 1 dX12_isCompared_7 rfl ?_
    refine ev_if_lt 36 dX12_isCompared_8 (by decide) (fun c6 => ?_) (fun c6 => ?_)
    · replace h := am_ifp c6 h
      refine ev_sub [0, 1] rfl ?_
      exact hk _ _ _ h
    · replace h := am_ifn c6 h
      refine ev_aload_n 0 dX12_isCompared_11 rfl ?_
      refine ev_gf (v := .ref 13) dX12_isCompared_12 (fun h9 => (h9.2.1 0 _ rfl).2) 27 (by decide) (by decide) kF_X12_51 (fun h9 => congrArg va_rf (h9.2.2 0 27 13 rfl)) ?_
      refine ev_iload_n 1 dX12_isCompared_15 rfl ?_
      obtain ⟨c7, h⟩ := am_gd_elim h
      refine ev_iald dX12_isCompared_16 (fun h9 => (h9.2.1 13 _ rfl).2) (am_in_vp c7) ?_
      refine ev_i2l dX12_isCompared_17 ?_
      refine ev_ldc2 dX12_isCompared_18 kL_X12_291 ?_
      refine ev_ldc2 dX12_isCompared_21 kL_X12_293 ?_
      obtain ⟨v8, g9, e10, h⟩ := am_bd_elim h
      refine ev_callSi (v := v8) [.long ((am_I g3 13 x2.toNatClampNeg).toInt64), .long (20 : Int64), .long (24 : Int64)] [] dX12_isCompared_24 (tX12_in e10) (by decide) mo_X12_in kM_X12_183 ks_X12_in (Nat.le_of_ble_eq_true rfl) ?_
      refine ev_if_eq 36 dX12_isCompared_27 (by decide) (fun c11 => ?_) (fun c11 => ?_)
      · replace h := am_ifp c11 h
        refine ev_sub [0, 1] rfl ?_
        exact hk _ _ _ h
      · replace h := am_ifn c11 h
        obtain ⟨x12, ex12, h⟩ := am_let_ex h
        refine ev_iinc (ls' := [(1, .int x12), (0, .ref 0)]) 1 dX12_isCompared_30 rfl ex12 (by decide) rfl ?_
        refine ev_goto 7 dX12_isCompared_33 (by decide) ?_
        refine ev_sub [1, 0] rfl ?_
        exact ih _ _ _ h
set_option maxRecDepth 100000 in
set_option maxHeartbeats 4000000 in
theorem eX12_isCompared (g : am_G) (r : Int32 × am_G) (h : fX12_isCompared g = some r) : am_Ev zr MX12_isCompared 1 0 [(0, .ref 0)] [] g (am_ri r) := by
  unfold fX12_isCompared at h
  refine ev_aload_n 0 dX12_isCompared_0 rfl ?_
  refine ev_gf (v := .int (am_I g 0 29)) dX12_isCompared_1 (fun h9 => (h9.2.1 0 _ rfl).2) 29 (by decide) (by decide) kF_X12_281 (fun _ => rfl) ?_
  refine ev_iconst dX12_isCompared_4 rfl ?_
  refine ev_isub dX12_isCompared_5 ?_
  refine am_let_elim (P := fun x1 => am_Ev zr MX12_isCompared 1 6 [(0, .ref 0)] [.int x1] g (am_ri r)) h fun x1 h => ?_
  refine ev_istore_n (ls' := [(1, .int x1), (0, .ref 0)]) dX12_isCompared_6 rfl (by decide) rfl ?_
  refine ev_sub [1, 0] rfl ?_
  refine tfX12_isCompared_L7 ?_ _ _ _ _ h
  intro x13 g14 r h
  try dsimp only at h
  refine ev_iload_n 1 dX12_isCompared_36 rfl ?_
  refine ev_if_lt 63 dX12_isCompared_37 (by decide) (fun c15 => ?_) (fun c15 => ?_)
  · replace h := am_ifp c15 h
    refine ev_iconst dX12_isCompared_63 rfl ?_
    cases h
    exact ev_zret dX12_isCompared_64 rfl rfl
  · replace h := am_ifn c15 h
    refine ev_aload_n 0 dX12_isCompared_40 rfl ?_
    refine ev_gf (v := .ref 13) dX12_isCompared_41 (fun h9 => (h9.2.1 0 _ rfl).2) 27 (by decide) (by decide) kF_X12_51 (fun h9 => congrArg va_rf (h9.2.2 0 27 13 rfl)) ?_
    refine ev_iload_n 1 dX12_isCompared_44 rfl ?_
    obtain ⟨c16, h⟩ := am_gd_elim h
    refine ev_iald dX12_isCompared_45 (fun h9 => (h9.2.1 13 _ rfl).2) (am_in_vp c16) ?_
    refine ev_i2l dX12_isCompared_46 ?_
    refine ev_ldc2 dX12_isCompared_47 kL_X12_295 ?_
    refine ev_ldc2 dX12_isCompared_50 kL_X12_297 ?_
    obtain ⟨v17, g18, e19, h⟩ := am_bd_elim h
    refine ev_callSi (v := v17) [.long ((am_I g14 13 x13.toNatClampNeg).toInt64), .long (25 : Int64), .long (27 : Int64)] [] dX12_isCompared_53 (tX12_in e19) (by decide) mo_X12_in kM_X12_183 ks_X12_in (Nat.le_of_ble_eq_true rfl) ?_
    refine ev_if_eq 63 dX12_isCompared_56 (by decide) (fun c20 => ?_) (fun c20 => ?_)
    · replace h := am_ifp c20 h
      refine ev_iconst dX12_isCompared_63 rfl ?_
      cases h
      exact ev_zret dX12_isCompared_64 rfl rfl
    · replace h := am_ifn c20 h
      refine ev_iconst dX12_isCompared_59 rfl ?_
      refine ev_goto 64 dX12_isCompared_60 (by decide) ?_
      cases h
      exact ev_zret dX12_isCompared_64 rfl rfl
theorem tX12_isCompared {g : am_G} {r : Int32 × am_G} (h : fX12_isCompared g = some r) : am_Mt zr MX12_isCompared 1 [.ref 0] g (am_ri r) := am_Mt.of rfl (Nat.le_of_ble_eq_true rfl) (eX12_isCompared _ _ h)
def fX12_partAt_L4 : Nat → Int32 → Int32 → am_G → Option (Int32 × am_G)
  | 0, _, _, _ => none
  | n + 1, x1, x2, g3 =>
    if (10 : Int32) ≤ x2 then (
      some (x1, g3))
    else (
      am_gd (am_in x2 10) <|
      am_bd (fX12_isWord (am_L g3 15 x2.toNatClampNeg) g3) fun v6 g7 =>
      am_jn (fun (x10 : Int32) (g11 : am_G) =>
        am_let (x2 + (1 : Int32)) fun x13 =>
        fX12_partAt_L4 n x10 x13 g11) fun j12 =>
      if v6 = 0 then (
        j12 x1 g7)
      else (
        j12 (x2 + (1 : Int32)) g7))
def fX12_partAt (g : am_G) : Option (Int32 × am_G) :=
  fX12_partAt_L4 am_fu (-1 : Int32) (0 : Int32) g
set_option maxRecDepth 100000 in
set_option maxHeartbeats 4000000 in
theorem tfX12_partAt_L4  : ∀ (n : Nat) (x1 : Int32) (x2 : Int32) (g3 : am_G) (r : Int32 × am_G), fX12_partAt_L4 n x1 x2 g3 = some r → am_Ev zr MX12_partAt 1 4 [(0, .ref 0), (1, .int x1), (2, .int x2)] [] g3 (am_ri r) := by
  intro n
  induction n with
  | zero => intro x1 x2 g3 r h; exact nomatch (show (none : Option (Int32 × am_G)) = some r from h)
  | succ n ih =>
    intro x1 x2 g3 r h
    rw [fX12_partAt_L4] at h
    refine ev_iload_n 2 dX12_partAt_4 rfl ?_
    refine ev_bipush dX12_partAt_5 rfl ?_
    refine ev_icmp_ge 37 dX12_partAt_7 (by decide) (fun c4 => ?_) (fun c4 => ?_)
    · replace h := am_ifp c4 h
      refine ev_iload_n 1 dX12_partAt_37 rfl ?_
      cases h
      exact ev_iret dX12_partAt_38 rfl
    · replace h := am_ifn c4 h
      refine ev_aload_n 0 dX12_partAt_10 rfl ?_
      refine ev_aload_n 0 dX12_partAt_11 rfl ?_
      refine ev_gf (v := .ref 15) dX12_partAt_12 (fun h9 => (h9.2.1 0 _ rfl).2) 31 (by decide) (by decide) kF_X12_77 (fun h9 => congrArg va_rf (h9.2.2 0 31 15 rfl)) ?_
      refine ev_iload_n 2 dX12_partAt_15 rfl ?_
      obtain ⟨c5, h⟩ := am_gd_elim h
      refine ev_lald dX12_partAt_16 (fun h9 => (h9.2.1 15 _ rfl).2) (am_in_vp c5) ?_
      obtain ⟨v6, g7, e8, h⟩ := am_bd_elim h
      refine ev_callVi (v := v6) [.long (am_L g3 15 x2.toNatClampNeg)] [] dX12_partAt_17 (tX12_isWord e8) (by decide) mo_X12_isWord kM_X12_299 ki_X12_isWord kv_X12_isWord (fun h9 => (h9.2.1 0 _ rfl).2) (by decide) rfl (Nat.le_of_ble_eq_true rfl) ?_
      refine am_jn_elim (fun q9 => ∀ (x10 : Int32) (g11 : am_G) (r : Int32 × am_G), q9 x10 g11 = some r → am_Ev zr MX12_partAt 1 30 [(0, .ref 0), (2, .int x2)] [.int x10] g11 (am_ri r)) h ?_ (fun j12 hj12 h => ?_)
      · intro x10 g11 r h
        try dsimp only at h
        refine ev_istore_n (ls' := [(1, .int x10), (0, .ref 0), (2, .int x2)]) dX12_partAt_30 rfl (by decide) rfl ?_
        obtain ⟨x13, ex13, h⟩ := am_let_ex h
        refine ev_iinc (ls' := [(2, .int x13), (1, .int x10), (0, .ref 0)]) 2 dX12_partAt_31 rfl ex13 (by decide) rfl ?_
        refine ev_goto 4 dX12_partAt_34 (by decide) ?_
        refine ev_sub [2, 1, 0] rfl ?_
        exact ih _ _ _ _ h
      · refine ev_if_eq 29 dX12_partAt_20 (by decide) (fun c9 => ?_) (fun c9 => ?_)
        · replace h := am_ifp c9 h
          refine ev_iload_n 1 dX12_partAt_29 rfl ?_
          refine ev_sub [0, 2] rfl ?_
          exact hj12 _ _ _ h
        · replace h := am_ifn c9 h
          refine ev_iload_n 2 dX12_partAt_23 rfl ?_
          refine ev_iconst dX12_partAt_24 rfl ?_
          refine ev_iadd dX12_partAt_25 ?_
          refine ev_goto 30 dX12_partAt_26 (by decide) ?_
          refine ev_sub [0, 2] rfl ?_
          exact hj12 _ _ _ h
set_option maxRecDepth 100000 in
set_option maxHeartbeats 4000000 in
theorem eX12_partAt (g : am_G) (r : Int32 × am_G) (h : fX12_partAt g = some r) : am_Ev zr MX12_partAt 1 0 [(0, .ref 0)] [] g (am_ri r) := by
  unfold fX12_partAt at h
  refine ev_iconst dX12_partAt_0 rfl ?_
  refine ev_istore_n (ls' := [(1, .int (-1 : Int32)), (0, .ref 0)]) dX12_partAt_1 rfl (by decide) rfl ?_
  refine ev_iconst dX12_partAt_2 rfl ?_
  refine ev_istore_n (ls' := [(2, .int (0 : Int32)), (1, .int (-1 : Int32)), (0, .ref 0)]) dX12_partAt_3 rfl (by decide) rfl ?_
  refine ev_sub [2, 1, 0] rfl ?_
  exact tfX12_partAt_L4 _ _ _ _ _ h
theorem tX12_partAt {g : am_G} {r : Int32 × am_G} (h : fX12_partAt g = some r) : am_Mt zr MX12_partAt 1 [.ref 0] g (am_ri r) := am_Mt.of rfl (Nat.le_of_ble_eq_true rfl) (eX12_partAt _ _ h)
def fX12_orderPartAt_L4 : Nat → Int32 → Int32 → am_G → Option (Int32 × am_G)
  | 0, _, _, _ => none
  | n + 1, x1, x2, g3 =>
    if (7 : Int32) ≤ x2 then (
      some (x1, g3))
    else (
      am_gd (am_in x2 7) <|
      am_bd (fX12_isWord (am_L g3 16 x2.toNatClampNeg) g3) fun v6 g7 =>
      am_jn (fun (x10 : Int32) (g11 : am_G) =>
        am_let (x2 + (1 : Int32)) fun x13 =>
        fX12_orderPartAt_L4 n x10 x13 g11) fun j12 =>
      if v6 = 0 then (
        j12 x1 g7)
      else (
        j12 (x2 + (1 : Int32)) g7))
def fX12_orderPartAt (g : am_G) : Option (Int32 × am_G) :=
  fX12_orderPartAt_L4 am_fu (-1 : Int32) (0 : Int32) g
set_option maxRecDepth 100000 in
set_option maxHeartbeats 4000000 in
theorem tfX12_orderPartAt_L4  : ∀ (n : Nat) (x1 : Int32) (x2 : Int32) (g3 : am_G) (r : Int32 × am_G), fX12_orderPartAt_L4 n x1 x2 g3 = some r → am_Ev zr MX12_orderPartAt 1 4 [(0, .ref 0), (1, .int x1), (2, .int x2)] [] g3 (am_ri r) := by
  intro n
  induction n with
  | zero => intro x1 x2 g3 r h; exact nomatch (show (none : Option (Int32 × am_G)) = some r from h)
  | succ n ih =>
    intro x1 x2 g3 r h
    rw [fX12_orderPartAt_L4] at h
    refine ev_iload_n 2 dX12_orderPartAt_4 rfl ?_
    refine ev_bipush dX12_orderPartAt_5 rfl ?_
    refine ev_icmp_ge 37 dX12_orderPartAt_7 (by decide) (fun c4 => ?_) (fun c4 => ?_)
    · replace h := am_ifp c4 h
      refine ev_iload_n 1 dX12_orderPartAt_37 rfl ?_
      cases h
      exact ev_iret dX12_orderPartAt_38 rfl
    · replace h := am_ifn c4 h
      refine ev_aload_n 0 dX12_orderPartAt_10 rfl ?_
      refine ev_aload_n 0 dX12_orderPartAt_11 rfl ?_
      refine ev_gf (v := .ref 16) dX12_orderPartAt_12 (fun h9 => (h9.2.1 0 _ rfl).2) 32 (by decide) (by decide) kF_X12_91 (fun h9 => congrArg va_rf (h9.2.2 0 32 16 rfl)) ?_
      refine ev_iload_n 2 dX12_orderPartAt_15 rfl ?_
      obtain ⟨c5, h⟩ := am_gd_elim h
      refine ev_lald dX12_orderPartAt_16 (fun h9 => (h9.2.1 16 _ rfl).2) (am_in_vp c5) ?_
      obtain ⟨v6, g7, e8, h⟩ := am_bd_elim h
      refine ev_callVi (v := v6) [.long (am_L g3 16 x2.toNatClampNeg)] [] dX12_orderPartAt_17 (tX12_isWord e8) (by decide) mo_X12_isWord kM_X12_299 ki_X12_isWord kv_X12_isWord (fun h9 => (h9.2.1 0 _ rfl).2) (by decide) rfl (Nat.le_of_ble_eq_true rfl) ?_
      refine am_jn_elim (fun q9 => ∀ (x10 : Int32) (g11 : am_G) (r : Int32 × am_G), q9 x10 g11 = some r → am_Ev zr MX12_orderPartAt 1 30 [(0, .ref 0), (2, .int x2)] [.int x10] g11 (am_ri r)) h ?_ (fun j12 hj12 h => ?_)
      · intro x10 g11 r h
        try dsimp only at h
        refine ev_istore_n (ls' := [(1, .int x10), (0, .ref 0), (2, .int x2)]) dX12_orderPartAt_30 rfl (by decide) rfl ?_
        obtain ⟨x13, ex13, h⟩ := am_let_ex h
        refine ev_iinc (ls' := [(2, .int x13), (1, .int x10), (0, .ref 0)]) 2 dX12_orderPartAt_31 rfl ex13 (by decide) rfl ?_
        refine ev_goto 4 dX12_orderPartAt_34 (by decide) ?_
        refine ev_sub [2, 1, 0] rfl ?_
        exact ih _ _ _ _ h
      · refine ev_if_eq 29 dX12_orderPartAt_20 (by decide) (fun c9 => ?_) (fun c9 => ?_)
        · replace h := am_ifp c9 h
          refine ev_iload_n 1 dX12_orderPartAt_29 rfl ?_
          refine ev_sub [0, 2] rfl ?_
          exact hj12 _ _ _ h
        · replace h := am_ifn c9 h
          refine ev_iload_n 2 dX12_orderPartAt_23 rfl ?_
          refine ev_iconst dX12_orderPartAt_24 rfl ?_
          refine ev_iadd dX12_orderPartAt_25 ?_
          refine ev_goto 30 dX12_orderPartAt_26 (by decide) ?_
          refine ev_sub [0, 2] rfl ?_
          exact hj12 _ _ _ h
set_option maxRecDepth 100000 in
set_option maxHeartbeats 4000000 in
theorem eX12_orderPartAt (g : am_G) (r : Int32 × am_G) (h : fX12_orderPartAt g = some r) : am_Ev zr MX12_orderPartAt 1 0 [(0, .ref 0)] [] g (am_ri r) := by
  unfold fX12_orderPartAt at h
  refine ev_iconst dX12_orderPartAt_0 rfl ?_
  refine ev_istore_n (ls' := [(1, .int (-1 : Int32)), (0, .ref 0)]) dX12_orderPartAt_1 rfl (by decide) rfl ?_
  refine ev_iconst dX12_orderPartAt_2 rfl ?_
  refine ev_istore_n (ls' := [(2, .int (0 : Int32)), (1, .int (-1 : Int32)), (0, .ref 0)]) dX12_orderPartAt_3 rfl (by decide) rfl ?_
  refine ev_sub [2, 1, 0] rfl ?_
  exact tfX12_orderPartAt_L4 _ _ _ _ _ h
theorem tX12_orderPartAt {g : am_G} {r : Int32 × am_G} (h : fX12_orderPartAt g = some r) : am_Mt zr MX12_orderPartAt 1 [.ref 0] g (am_ri r) := am_Mt.of rfl (Nat.le_of_ble_eq_true rfl) (eX12_orderPartAt _ _ h)
def fX12_openBracket (a1 : Int32) (g : am_G) : Option (Unit × am_G) :=
  am_jn (fun (x2 : Int32) (g3 : am_G) =>
    am_bd (fX12_must x2 g3) fun u5 g6 =>
    if (am_I g6 0 19) = 0 then (
      am_let (am_si g6 0 30 ((am_I g6 0 30) + (1 : Int32))) fun g9 =>
      am_bd (fX12_push a1 (0 : Int32) g9) fun u10 g11 =>
      some ((), g11))
    else (
      some ((), g6))) fun j4 =>
  if (8 : Int32) ≤ (am_I g 0 30) then (
    j4 (0 : Int32) g)
  else (
    j4 (1 : Int32) g)
set_option maxRecDepth 100000 in
set_option maxHeartbeats 4000000 in
theorem eX12_openBracket (a1 : Int32) (g : am_G) (r : Unit × am_G) (h : fX12_openBracket a1 g = some r) : am_Ev zr MX12_openBracket 3 0 [(0, .ref 0), (1, .int a1)] [] g (am_rv r) := by
  unfold fX12_openBracket at h
  refine ev_aload_n 0 dX12_openBracket_0 rfl ?_
  refine ev_aload_n 0 dX12_openBracket_1 rfl ?_
  refine ev_gf (v := .int (am_I g 0 30)) dX12_openBracket_2 (fun h9 => (h9.2.1 0 _ rfl).2) 30 (by decide) (by decide) kF_X12_303 (fun _ => rfl) ?_
  refine ev_bipush dX12_openBracket_5 rfl ?_
  refine am_jn_elim (fun q9 => ∀ (x2 : Int32) (g3 : am_G) (r : Unit × am_G), q9 x2 g3 = some r → am_Ev zr MX12_openBracket 3 15 [(0, .ref 0), (1, .int a1)] [.int x2, .ref 0] g3 (am_rv r)) h ?_ (fun j4 hj4 h => ?_)
  · intro x2 g3 r h
    try dsimp only at h
    obtain ⟨u5, g6, e7, h⟩ := am_bd_elim h
    refine ev_callVv [.int x2] [] dX12_openBracket_15 (tX12_must e7) (by decide) mo_X12_must kM_X12_274 ki_X12_must kv_X12_must (fun h9 => (h9.2.1 0 _ rfl).2) (by decide) rfl (Nat.le_of_ble_eq_true rfl) ?_
    refine ev_aload_n 0 dX12_openBracket_18 rfl ?_
    refine ev_gf (v := .int (am_I g6 0 19)) dX12_openBracket_19 (fun h9 => (h9.2.1 0 _ rfl).2) 19 (by decide) (by decide) kF_X12_239 (fun _ => rfl) ?_
    refine ev_if_ne 41 dX12_openBracket_22 (by decide) (fun c8 => ?_) (fun c8 => ?_)
    · replace h := am_ifn c8 h
      cases h
      exact ev_ret dX12_openBracket_41 rfl
    · replace h := am_ifp c8 h
      refine ev_aload_n 0 dX12_openBracket_25 rfl ?_
      refine ev_dup dX12_openBracket_26 rfl ?_
      refine ev_gf (v := .int (am_I g6 0 30)) dX12_openBracket_27 (fun h9 => (h9.2.1 0 _ rfl).2) 30 (by decide) (by decide) kF_X12_303 (fun _ => rfl) ?_
      refine ev_iconst dX12_openBracket_30 rfl ?_
      refine ev_iadd dX12_openBracket_31 ?_
      refine ev_pfi dX12_openBracket_32 (fun h9 => (h9.2.1 0 _ rfl).2) 30 (by decide) (by decide) kF_X12_303 rfl rfl rfl (fun _ => rfl) ?_
      refine am_let_elim (P := fun g9 => am_Ev zr MX12_openBracket 3 35 [(0, .ref 0), (1, .int a1)] [] g9 (am_rv r)) h fun g9 h => ?_
      refine ev_aload_n 0 dX12_openBracket_35 rfl ?_
      refine ev_iload_n 1 dX12_openBracket_36 rfl ?_
      refine ev_iconst dX12_openBracket_37 rfl ?_
      obtain ⟨u10, g11, e12, h⟩ := am_bd_elim h
      refine ev_callVv [.int a1, .int (0 : Int32)] [] dX12_openBracket_38 (tX12_push e12) (by decide) mo_X12_push kM_X12_306 ki_X12_push kv_X12_push (fun h9 => (h9.2.1 0 _ rfl).2) (by decide) rfl (Nat.le_of_ble_eq_true rfl) ?_
      cases h
      exact ev_ret dX12_openBracket_41 rfl
  · refine ev_icmp_ge 14 dX12_openBracket_7 (by decide) (fun c1 => ?_) (fun c1 => ?_)
    · replace h := am_ifp c1 h
      refine ev_iconst dX12_openBracket_14 rfl ?_
      refine ev_sub [0, 1] rfl ?_
      exact hj4 _ _ _ h
    · replace h := am_ifn c1 h
      refine ev_iconst dX12_openBracket_10 rfl ?_
      refine ev_goto 15 dX12_openBracket_11 (by decide) ?_
      refine ev_sub [0, 1] rfl ?_
      exact hj4 _ _ _ h
theorem tX12_openBracket {a1 : Int32} {g : am_G} {r : Unit × am_G} (h : fX12_openBracket a1 g = some r) : am_Mt zr MX12_openBracket 3 [.ref 0, .int a1] g (am_rv r) := am_Mt.of rfl (Nat.le_of_ble_eq_true rfl) (eX12_openBracket _ _ _ h)
def fX12_leaf (a1 : Int32) (a2 : Int32) (a3 : Int32) (g : am_G) : Option (Unit × am_G) :=
  am_jn (fun (x2 : Int32) (g3 : am_G) =>
    am_bd (fX12_must x2 g3) fun u5 g6 =>
    if (am_I g6 0 19) = 0 then (
      am_bd (fX12_emit a2 a3 g6) fun u9 g10 =>
      am_let (am_si g10 0 26 ((am_I g10 0 26) + (1 : Int32))) fun g12 =>
      some ((), g12))
    else (
      some ((), g6))) fun j4 =>
  am_jn (fun  (g13 : am_G) =>
    j4 (0 : Int32) g13) fun j14 =>
  if a1 = 0 then (
    j14 g)
  else (
    if (50 : Int32) ≤ (am_I g 0 26) then (
      j14 g)
    else (
      j4 (1 : Int32) g))
set_option maxRecDepth 100000 in
set_option maxHeartbeats 4000000 in
theorem eX12_leaf (a1 : Int32) (a2 : Int32) (a3 : Int32) (g : am_G) (r : Unit × am_G) (h : fX12_leaf a1 a2 a3 g = some r) : am_Ev zr MX12_leaf 3 0 [(0, .ref 0), (1, .int a1), (2, .int a2), (3, .int a3)] [] g (am_rv r) := by
  unfold fX12_leaf at h
  refine ev_aload_n 0 dX12_leaf_0 rfl ?_
  refine ev_iload_n 1 dX12_leaf_1 rfl ?_
  refine am_jn_elim (fun q9 => ∀ (x2 : Int32) (g3 : am_G) (r : Unit × am_G), q9 x2 g3 = some r → am_Ev zr MX12_leaf 3 19 [(0, .ref 0), (2, .int a2), (3, .int a3)] [.int x2, .ref 0] g3 (am_rv r)) h ?_ (fun j4 hj4 h => ?_)
  · intro x2 g3 r h
    try dsimp only at h
    obtain ⟨u5, g6, e7, h⟩ := am_bd_elim h
    refine ev_callVv [.int x2] [] dX12_leaf_19 (tX12_must e7) (by decide) mo_X12_must kM_X12_274 ki_X12_must kv_X12_must (fun h9 => (h9.2.1 0 _ rfl).2) (by decide) rfl (Nat.le_of_ble_eq_true rfl) ?_
    refine ev_aload_n 0 dX12_leaf_22 rfl ?_
    refine ev_gf (v := .int (am_I g6 0 19)) dX12_leaf_23 (fun h9 => (h9.2.1 0 _ rfl).2) 19 (by decide) (by decide) kF_X12_239 (fun _ => rfl) ?_
    refine ev_if_ne 45 dX12_leaf_26 (by decide) (fun c8 => ?_) (fun c8 => ?_)
    · replace h := am_ifn c8 h
      cases h
      exact ev_ret dX12_leaf_45 rfl
    · replace h := am_ifp c8 h
      refine ev_aload_n 0 dX12_leaf_29 rfl ?_
      refine ev_iload_n 1 dX12_leaf_30 rfl ?_
      refine ev_iload_n 2 dX12_leaf_31 rfl ?_
      obtain ⟨u9, g10, e11, h⟩ := am_bd_elim h
      refine ev_callVv [.int a2, .int a3] [] dX12_leaf_32 (tX12_emit e11) (by decide) mo_X12_emit kM_X12_287 ki_X12_emit kv_X12_emit (fun h9 => (h9.2.1 0 _ rfl).2) (by decide) rfl (Nat.le_of_ble_eq_true rfl) ?_
      refine ev_aload_n 0 dX12_leaf_35 rfl ?_
      refine ev_dup dX12_leaf_36 rfl ?_
      refine ev_gf (v := .int (am_I g10 0 26)) dX12_leaf_37 (fun h9 => (h9.2.1 0 _ rfl).2) 26 (by decide) (by decide) kF_X12_309 (fun _ => rfl) ?_
      refine ev_iconst dX12_leaf_40 rfl ?_
      refine ev_iadd dX12_leaf_41 ?_
      refine ev_pfi dX12_leaf_42 (fun h9 => (h9.2.1 0 _ rfl).2) 26 (by decide) (by decide) kF_X12_309 rfl rfl rfl (fun _ => rfl) ?_
      refine am_let_elim (P := fun g12 => am_Ev zr MX12_leaf 3 45 [(0, .ref 0), (2, .int a2), (3, .int a3)] [] g12 (am_rv r)) h fun g12 h => ?_
      cases h
      exact ev_ret dX12_leaf_45 rfl
  · refine am_jn_elim (fun q9 => ∀  (g13 : am_G) (r : Unit × am_G), q9  g13 = some r → am_Ev zr MX12_leaf 3 18 [(0, .ref 0), (2, .int a2), (3, .int a3)] [.ref 0] g13 (am_rv r)) h ?_ (fun j14 hj14 h => ?_)
    · intro  g13 r h
      try dsimp only at h
      refine ev_iconst dX12_leaf_18 rfl ?_
      refine ev_sub [0, 1, 2] rfl ?_
      exact hj4 _ _ _ h
    · refine ev_if_eq 18 dX12_leaf_2 (by decide) (fun c1 => ?_) (fun c1 => ?_)
      · replace h := am_ifp c1 h
        refine ev_sub [0, 2, 3] rfl ?_
        exact hj14  _ _ h
      · replace h := am_ifn c1 h
        refine ev_aload_n 0 dX12_leaf_5 rfl ?_
        refine ev_gf (v := .int (am_I g 0 26)) dX12_leaf_6 (fun h9 => (h9.2.1 0 _ rfl).2) 26 (by decide) (by decide) kF_X12_309 (fun _ => rfl) ?_
        refine ev_bipush dX12_leaf_9 rfl ?_
        refine ev_icmp_ge 18 dX12_leaf_11 (by decide) (fun c15 => ?_) (fun c15 => ?_)
        · replace h := am_ifp c15 h
          refine ev_sub [0, 2, 3] rfl ?_
          exact hj14  _ _ h
        · replace h := am_ifn c15 h
          refine ev_iconst dX12_leaf_14 rfl ?_
          refine ev_goto 19 dX12_leaf_15 (by decide) ?_
          refine ev_sub [0, 2, 3] rfl ?_
          exact hj4 _ _ _ h
theorem tX12_leaf {a1 : Int32} {a2 : Int32} {a3 : Int32} {g : am_G} {r : Unit × am_G} (h : fX12_leaf a1 a2 a3 g = some r) : am_Mt zr MX12_leaf 3 [.ref 0, .int a1, .int a2, .int a3] g (am_rv r) := am_Mt.of rfl (Nat.le_of_ble_eq_true rfl) (eX12_leaf _ _ _ _ _ h)
def fX12_readPart (g : am_G) : Option (Int32 × am_G) :=
  am_bd (fX12_isSign (91 : Int32) g) fun v1 g2 =>
  if v1 = 0 then (
    am_jn (fun (x6 : Int32) (g7 : am_G) =>
      am_jn (fun (x10 : Int32) (g11 : am_G) =>
        am_jn (fun (x14 : Int32) (g15 : am_G) =>
          am_jn (fun (x18 : Int32) (g19 : am_G) =>
            am_jn (fun (x22 : Int32) (g23 : am_G) =>
              am_bd (fX12_leaf x14 x18 x22 g23) fun u25 g26 =>
              if (am_I g26 0 20) = 0 then (
                some ((3 : Int32), g26))
              else (
                if x6 < (6 : Int32) then (
                  some ((3 : Int32), g26))
                else (
                  if (am_I g26 0 19) = 0 then (
                    am_let ((am_I g26 0 23) - (1 : Int32)) fun x31 =>
                    am_bd (fX12_number (0 : Int64) (5 : Int64) g26) fun v32 g33 =>
                    am_gd (am_in x31 400) <|
                    am_let (am_si g33 12 x31.toNatClampNeg v32) fun g36 =>
                    some ((3 : Int32), g36))
                  else (
                    some ((3 : Int32), g26))))) fun j24 =>
            if x10 = 0 then (
              j24 (0 : Int32) g19)
            else (
              j24 ((am_L g19 0 17).toInt32) g19)) fun j20 =>
          if x6 = (-1 : Int32) then (
            j20 (0 : Int32) g15)
          else (
            j20 x6 g15)) fun j16 =>
        am_jn (fun  (g37 : am_G) =>
          j16 (1 : Int32) g37) fun j38 =>
        if x6 = (-1 : Int32) then (
          if x10 = 0 then (
            j16 (0 : Int32) g11)
          else (
            j38 g11))
        else (
          j38 g11)) fun j12 =>
      am_jn (fun  (g40 : am_G) =>
        j12 (0 : Int32) g40) fun j41 =>
      if (am_I g7 0 16) = (2 : Int32) then (
        if 0 < (lg_cmp (am_L g7 0 17) (1000 : Int64)) then (
          j41 g7)
        else (
          j12 (1 : Int32) g7))
      else (
        j41 g7)) fun j8 =>
    if (am_I g2 0 20) = 0 then (
      am_bd (fX12_partAt g2) fun v43 g44 =>
      j8 v43 g44)
    else (
      am_bd (fX12_orderPartAt g2) fun v46 g47 =>
      j8 v46 g47))
  else (
    am_bd (fX12_openBracket (32 : Int32) g2) fun u49 g50 =>
    some ((1 : Int32), g50))
set_option maxRecDepth 100000 in
set_option maxHeartbeats 4000000 in
theorem eX12_readPart (g : am_G) (r : Int32 × am_G) (h : fX12_readPart g = some r) : am_Ev zr MX12_readPart 4 0 [(0, .ref 0)] [] g (am_ri r) := by
  unfold fX12_readPart at h
  refine ev_aload_n 0 dX12_readPart_0 rfl ?_
  refine ev_bipush dX12_readPart_1 rfl ?_
  obtain ⟨v1, g2, e3, h⟩ := am_bd_elim h
  refine ev_callVi (v := v1) [.int (91 : Int32)] [] dX12_readPart_3 (tX12_isSign e3) (by decide) mo_X12_isSign kM_X12_312 ki_X12_isSign kv_X12_isSign (fun h9 => (h9.2.1 0 _ rfl).2) (by decide) rfl (Nat.le_of_ble_eq_true rfl) ?_
  refine ev_if_eq 17 dX12_readPart_6 (by decide) (fun c4 => ?_) (fun c4 => ?_)
  · replace h := am_ifp c4 h
    refine ev_aload_n 0 dX12_readPart_17 rfl ?_
    refine ev_gf (v := .int (am_I g2 0 20)) dX12_readPart_18 (fun h9 => (h9.2.1 0 _ rfl).2) 20 (by decide) (by decide) kF_X12_318 (fun _ => rfl) ?_
    refine am_jn_elim (fun q9 => ∀ (x6 : Int32) (g7 : am_G) (r : Int32 × am_G), q9 x6 g7 = some r → am_Ev zr MX12_readPart 4 35 [(0, .ref 0)] [.int x6] g7 (am_ri r)) h ?_ (fun j8 hj8 h => ?_)
    · intro x6 g7 r h
      try dsimp only at h
      refine ev_istore_n (ls' := [(1, .int x6), (0, .ref 0)]) dX12_readPart_35 rfl (by decide) rfl ?_
      refine ev_aload_n 1 dX12_readPart_36 rfl ?_
      refine ev_gf (v := .int (am_I g7 0 16)) dX12_readPart_37 (fun h9 => (h9.2.1 0 _ rfl).2) 16 (by decide) (by decide) kF_X12_259 (fun _ => rfl) ?_
      refine ev_iconst dX12_readPart_40 rfl ?_
      refine am_jn_elim (fun q9 => ∀ (x10 : Int32) (g11 : am_G) (r : Int32 × am_G), q9 x10 g11 = some r → am_Ev zr MX12_readPart 4 60 [(0, .ref 0), (1, .int x6)] [.int x10] g11 (am_ri r)) h ?_ (fun j12 hj12 h => ?_)
      · intro x10 g11 r h
        try dsimp only at h
        refine ev_istore_n (ls' := [(2, .int x10), (0, .ref 0), (1, .int x6)]) dX12_readPart_60 rfl (by decide) rfl ?_
        refine ev_aload_n 1 dX12_readPart_61 rfl ?_
        refine ev_iload_n 2 dX12_readPart_62 rfl ?_
        refine ev_iconst dX12_readPart_63 rfl ?_
        refine am_jn_elim (fun q9 => ∀ (x14 : Int32) (g15 : am_G) (r : Int32 × am_G), q9 x14 g15 = some r → am_Ev zr MX12_readPart 4 76 [(0, .ref 0), (1, .int x6), (2, .int x10)] [.int x14, .ref 0] g15 (am_ri r)) h ?_ (fun j16 hj16 h => ?_)
        · intro x14 g15 r h
          try dsimp only at h
          refine ev_iload_n 1 dX12_readPart_76 rfl ?_
          refine ev_iconst dX12_readPart_77 rfl ?_
          refine am_jn_elim (fun q9 => ∀ (x18 : Int32) (g19 : am_G) (r : Int32 × am_G), q9 x18 g19 = some r → am_Ev zr MX12_readPart 4 86 [(0, .ref 0), (1, .int x6), (2, .int x10)] [.int x18, .int x14, .ref 0] g19 (am_ri r)) h ?_ (fun j20 hj20 h => ?_)
          · intro x18 g19 r h
            try dsimp only at h
            refine ev_iload_n 2 dX12_readPart_86 rfl ?_
            refine am_jn_elim (fun q9 => ∀ (x22 : Int32) (g23 : am_G) (r : Int32 × am_G), q9 x22 g23 = some r → am_Ev zr MX12_readPart 4 99 [(0, .ref 0), (1, .int x6)] [.int x22, .int x18, .int x14, .ref 0] g23 (am_ri r)) h ?_ (fun j24 hj24 h => ?_)
            · intro x22 g23 r h
              try dsimp only at h
              obtain ⟨u25, g26, e27, h⟩ := am_bd_elim h
              refine ev_callVv [.int x14, .int x18, .int x22] [] dX12_readPart_99 (tX12_leaf e27) (by decide) mo_X12_leaf kM_X12_330 ki_X12_leaf kv_X12_leaf (fun h9 => (h9.2.1 0 _ rfl).2) (by decide) rfl (Nat.le_of_ble_eq_true rfl) ?_
              refine ev_aload_n 0 dX12_readPart_102 rfl ?_
              refine ev_gf (v := .int (am_I g26 0 20)) dX12_readPart_103 (fun h9 => (h9.2.1 0 _ rfl).2) 20 (by decide) (by decide) kF_X12_318 (fun _ => rfl) ?_
              refine ev_if_eq 143 dX12_readPart_106 (by decide) (fun c28 => ?_) (fun c28 => ?_)
              · replace h := am_ifp c28 h
                refine ev_iconst dX12_readPart_143 rfl ?_
                cases h
                exact ev_iret dX12_readPart_144 rfl
              · replace h := am_ifn c28 h
                refine ev_iload_n 1 dX12_readPart_109 rfl ?_
                refine ev_bipush dX12_readPart_110 rfl ?_
                refine ev_icmp_lt 143 dX12_readPart_112 (by decide) (fun c29 => ?_) (fun c29 => ?_)
                · replace h := am_ifp c29 h
                  refine ev_iconst dX12_readPart_143 rfl ?_
                  cases h
                  exact ev_iret dX12_readPart_144 rfl
                · replace h := am_ifn c29 h
                  refine ev_aload_n 0 dX12_readPart_115 rfl ?_
                  refine ev_gf (v := .int (am_I g26 0 19)) dX12_readPart_116 (fun h9 => (h9.2.1 0 _ rfl).2) 19 (by decide) (by decide) kF_X12_239 (fun _ => rfl) ?_
                  refine ev_if_ne 143 dX12_readPart_119 (by decide) (fun c30 => ?_) (fun c30 => ?_)
                  · replace h := am_ifn c30 h
                    refine ev_iconst dX12_readPart_143 rfl ?_
                    cases h
                    exact ev_iret dX12_readPart_144 rfl
                  · replace h := am_ifp c30 h
                    refine ev_aload_n 0 dX12_readPart_122 rfl ?_
                    refine ev_gf (v := .int (am_I g26 0 23)) dX12_readPart_123 (fun h9 => (h9.2.1 0 _ rfl).2) 23 (by decide) (by decide) kF_X12_278 (fun _ => rfl) ?_
                    refine ev_iconst dX12_readPart_126 rfl ?_
                    refine ev_isub dX12_readPart_127 ?_
                    refine am_let_elim (P := fun x31 => am_Ev zr MX12_readPart 4 128 [(0, .ref 0), (1, .int x6)] [.int x31] g26 (am_ri r)) h fun x31 h => ?_
                    refine ev_istore_n (ls' := [(3, .int x31), (0, .ref 0), (1, .int x6)]) dX12_readPart_128 rfl (by decide) rfl ?_
                    refine ev_aload_n 1 dX12_readPart_129 rfl ?_
                    refine ev_gf (v := .ref 12) dX12_readPart_130 (fun h9 => (h9.2.1 0 _ rfl).2) 25 (by decide) (by decide) kF_X12_48 (fun h9 => congrArg va_rf (h9.2.2 0 25 12 rfl)) ?_
                    refine ev_iload_n 0 dX12_readPart_133 rfl ?_
                    refine ev_aload_n 1 dX12_readPart_134 rfl ?_
                    refine ev_lconst dX12_readPart_135 rfl ?_
                    refine ev_ldc2 dX12_readPart_136 kL_X12_187 ?_
                    obtain ⟨v32, g33, e34, h⟩ := am_bd_elim h
                    refine ev_callVi (v := v32) [.long (0 : Int64), .long (5 : Int64)] [.int x31, .ref 12] dX12_readPart_139 (tX12_number e34) (by decide) mo_X12_number kM_X12_334 ki_X12_number kv_X12_number (fun h9 => (h9.2.1 0 _ rfl).2) (by decide) rfl (Nat.le_of_ble_eq_true rfl) ?_
                    obtain ⟨c35, h⟩ := am_gd_elim h
                    refine ev_iast dX12_readPart_142 (fun h9 => (h9.2.1 12 _ rfl).2) (am_in_vp c35) ?_
                    refine am_let_elim (P := fun g36 => am_Ev zr MX12_readPart 4 143 [(3, .int x31), (0, .ref 0), (1, .int x6)] [] g36 (am_ri r)) h fun g36 h => ?_
                    refine ev_iconst dX12_readPart_143 rfl ?_
                    cases h
                    exact ev_iret dX12_readPart_144 rfl
            · refine ev_if_eq 98 dX12_readPart_87 (by decide) (fun c21 => ?_) (fun c21 => ?_)
              · replace h := am_ifp c21 h
                refine ev_iconst dX12_readPart_98 rfl ?_
                refine ev_sub [0, 1] rfl ?_
                exact hj24 _ _ _ h
              · replace h := am_ifn c21 h
                refine ev_aload_n 0 dX12_readPart_90 rfl ?_
                refine ev_gf (v := .long (am_L g19 0 17)) dX12_readPart_91 (fun h9 => (h9.2.1 0 _ rfl).2) 17 (by decide) (by decide) kF_X12_249 (fun _ => rfl) ?_
                refine ev_l2i dX12_readPart_94 ?_
                refine ev_goto 99 dX12_readPart_95 (by decide) ?_
                refine ev_sub [0, 1] rfl ?_
                exact hj24 _ _ _ h
          · refine ev_icmp_ne 85 dX12_readPart_78 (by decide) (fun c17 => ?_) (fun c17 => ?_)
            · replace h := am_ifn c17 h
              refine ev_iload_n 1 dX12_readPart_85 rfl ?_
              refine ev_sub [0, 1, 2] rfl ?_
              exact hj20 _ _ _ h
            · replace h := am_ifp c17 h
              refine ev_iconst dX12_readPart_81 rfl ?_
              refine ev_goto 86 dX12_readPart_82 (by decide) ?_
              refine ev_sub [0, 1, 2] rfl ?_
              exact hj20 _ _ _ h
        · refine am_jn_elim (fun q9 => ∀  (g37 : am_G) (r : Int32 × am_G), q9  g37 = some r → am_Ev zr MX12_readPart 4 71 [(0, .ref 0), (1, .int x6), (2, .int x10)] [.ref 0] g37 (am_ri r)) h ?_ (fun j38 hj38 h => ?_)
          · intro  g37 r h
            try dsimp only at h
            refine ev_iconst dX12_readPart_71 rfl ?_
            refine ev_goto 76 dX12_readPart_72 (by decide) ?_
            refine ev_sub [0, 1, 2] rfl ?_
            exact hj16 _ _ _ h
          · refine ev_icmp_ne 71 dX12_readPart_64 (by decide) (fun c13 => ?_) (fun c13 => ?_)
            · replace h := am_ifn c13 h
              refine ev_sub [1, 2, 0] rfl ?_
              exact hj38  _ _ h
            · replace h := am_ifp c13 h
              refine ev_iload_n 0 dX12_readPart_67 rfl ?_
              refine ev_if_eq 75 dX12_readPart_68 (by decide) (fun c39 => ?_) (fun c39 => ?_)
              · replace h := am_ifp c39 h
                refine ev_iconst dX12_readPart_75 rfl ?_
                refine ev_sub [1, 2, 0] rfl ?_
                exact hj16 _ _ _ h
              · replace h := am_ifn c39 h
                refine ev_sub [1, 2, 0] rfl ?_
                exact hj38  _ _ h
      · refine am_jn_elim (fun q9 => ∀  (g40 : am_G) (r : Int32 × am_G), q9  g40 = some r → am_Ev zr MX12_readPart 4 59 [(0, .ref 0), (1, .int x6)] [] g40 (am_ri r)) h ?_ (fun j41 hj41 h => ?_)
        · intro  g40 r h
          try dsimp only at h
          refine ev_iconst dX12_readPart_59 rfl ?_
          refine ev_sub [0, 1] rfl ?_
          exact hj12 _ _ _ h
        · refine ev_icmp_ne 59 dX12_readPart_41 (by decide) (fun c9 => ?_) (fun c9 => ?_)
          · replace h := am_ifn c9 h
            refine ev_sub [1, 0] rfl ?_
            exact hj41  _ _ h
          · replace h := am_ifp c9 h
            refine ev_aload_n 1 dX12_readPart_44 rfl ?_
            refine ev_gf (v := .long (am_L g7 0 17)) dX12_readPart_45 (fun h9 => (h9.2.1 0 _ rfl).2) 17 (by decide) (by decide) kF_X12_249 (fun _ => rfl) ?_
            refine ev_ldc2 dX12_readPart_48 kL_X12_328 ?_
            refine ev_lcmp dX12_readPart_51 ?_
            refine ev_if_gt 59 dX12_readPart_52 (by decide) (fun c42 => ?_) (fun c42 => ?_)
            · replace h := am_ifp c42 h
              refine ev_sub [1, 0] rfl ?_
              exact hj41  _ _ h
            · replace h := am_ifn c42 h
              refine ev_iconst dX12_readPart_55 rfl ?_
              refine ev_goto 60 dX12_readPart_56 (by decide) ?_
              refine ev_sub [1, 0] rfl ?_
              exact hj12 _ _ _ h
    · refine ev_if_eq 31 dX12_readPart_21 (by decide) (fun c5 => ?_) (fun c5 => ?_)
      · replace h := am_ifp c5 h
        refine ev_aload_n 0 dX12_readPart_31 rfl ?_
        obtain ⟨v43, g44, e45, h⟩ := am_bd_elim h
        refine ev_callVi (v := v43) [] [] dX12_readPart_32 (tX12_partAt e45) (by decide) mo_X12_partAt kM_X12_325 ki_X12_partAt kv_X12_partAt (fun h9 => (h9.2.1 0 _ rfl).2) (by decide) rfl (Nat.le_of_ble_eq_true rfl) ?_
        refine ev_sub [0] rfl ?_
        exact hj8 _ _ _ h
      · replace h := am_ifn c5 h
        refine ev_aload_n 0 dX12_readPart_24 rfl ?_
        obtain ⟨v46, g47, e48, h⟩ := am_bd_elim h
        refine ev_callVi (v := v46) [] [] dX12_readPart_25 (tX12_orderPartAt e48) (by decide) mo_X12_orderPartAt kM_X12_321 ki_X12_orderPartAt kv_X12_orderPartAt (fun h9 => (h9.2.1 0 _ rfl).2) (by decide) rfl (Nat.le_of_ble_eq_true rfl) ?_
        refine ev_goto 35 dX12_readPart_28 (by decide) ?_
        refine ev_sub [0] rfl ?_
        exact hj8 _ _ _ h
  · replace h := am_ifn c4 h
    refine ev_aload_n 0 dX12_readPart_9 rfl ?_
    refine ev_bipush dX12_readPart_10 rfl ?_
    obtain ⟨u49, g50, e51, h⟩ := am_bd_elim h
    refine ev_callVv [.int (32 : Int32)] [] dX12_readPart_12 (tX12_openBracket e51) (by decide) mo_X12_openBracket kM_X12_315 ki_X12_openBracket kv_X12_openBracket (fun h9 => (h9.2.1 0 _ rfl).2) (by decide) rfl (Nat.le_of_ble_eq_true rfl) ?_
    refine ev_iconst dX12_readPart_15 rfl ?_
    cases h
    exact ev_iret dX12_readPart_16 rfl
theorem tX12_readPart {g : am_G} {r : Int32 × am_G} (h : fX12_readPart g = some r) : am_Mt zr MX12_readPart 4 [.ref 0] g (am_ri r) := am_Mt.of rfl (Nat.le_of_ble_eq_true rfl) (eX12_readPart _ _ h)
def fX12_readPlain (g : am_G) : Option (Int32 × am_G) :=
  am_bd (fX12_isWord (14836 : Int64) g) fun v1 g2 =>
  if v1 = 0 then (
    am_bd (fX12_isSign (40 : Int32) g2) fun v5 g6 =>
    if v5 = 0 then (
      am_bd (fX12_readPart g6) fun v9 g10 =>
      some (v9, g10))
    else (
      am_bd (fX12_openBracket (31 : Int32) g6) fun u12 g13 =>
      some ((0 : Int32), g13)))
  else (
    am_bd (fX12_push (28 : Int32) (0 : Int32) g2) fun u15 g16 =>
    am_bd (fX12_next g16) fun u18 g19 =>
    some ((0 : Int32), g19))
set_option maxRecDepth 100000 in
set_option maxHeartbeats 4000000 in
theorem eX12_readPlain (g : am_G) (r : Int32 × am_G) (h : fX12_readPlain g = some r) : am_Ev zr MX12_readPlain 5 0 [(0, .ref 0)] [] g (am_ri r) := by
  unfold fX12_readPlain at h
  refine ev_aload_n 0 dX12_readPlain_0 rfl ?_
  refine ev_ldc2 dX12_readPlain_1 kL_X12_338 ?_
  obtain ⟨v1, g2, e3, h⟩ := am_bd_elim h
  refine ev_callVi (v := v1) [.long (14836 : Int64)] [] dX12_readPlain_4 (tX12_isWord e3) (by decide) mo_X12_isWord kM_X12_299 ki_X12_isWord kv_X12_isWord (fun h9 => (h9.2.1 0 _ rfl).2) (by decide) rfl (Nat.le_of_ble_eq_true rfl) ?_
  refine ev_if_eq 23 dX12_readPlain_7 (by decide) (fun c4 => ?_) (fun c4 => ?_)
  · replace h := am_ifp c4 h
    refine ev_aload_n 0 dX12_readPlain_23 rfl ?_
    refine ev_bipush dX12_readPlain_24 rfl ?_
    obtain ⟨v5, g6, e7, h⟩ := am_bd_elim h
    refine ev_callVi (v := v5) [.int (40 : Int32)] [] dX12_readPlain_26 (tX12_isSign e7) (by decide) mo_X12_isSign kM_X12_312 ki_X12_isSign kv_X12_isSign (fun h9 => (h9.2.1 0 _ rfl).2) (by decide) rfl (Nat.le_of_ble_eq_true rfl) ?_
    refine ev_if_eq 40 dX12_readPlain_29 (by decide) (fun c8 => ?_) (fun c8 => ?_)
    · replace h := am_ifp c8 h
      refine ev_aload_n 0 dX12_readPlain_40 rfl ?_
      obtain ⟨v9, g10, e11, h⟩ := am_bd_elim h
      refine ev_callVi (v := v9) [] [] dX12_readPlain_41 (tX12_readPart e11) (by decide) mo_X12_readPart kM_X12_340 ki_X12_readPart kv_X12_readPart (fun h9 => (h9.2.1 0 _ rfl).2) (by decide) rfl (Nat.le_of_ble_eq_true rfl) ?_
      cases h
      exact ev_iret dX12_readPlain_44 rfl
    · replace h := am_ifn c8 h
      refine ev_aload_n 0 dX12_readPlain_32 rfl ?_
      refine ev_bipush dX12_readPlain_33 rfl ?_
      obtain ⟨u12, g13, e14, h⟩ := am_bd_elim h
      refine ev_callVv [.int (31 : Int32)] [] dX12_readPlain_35 (tX12_openBracket e14) (by decide) mo_X12_openBracket kM_X12_315 ki_X12_openBracket kv_X12_openBracket (fun h9 => (h9.2.1 0 _ rfl).2) (by decide) rfl (Nat.le_of_ble_eq_true rfl) ?_
      refine ev_iconst dX12_readPlain_38 rfl ?_
      cases h
      exact ev_iret dX12_readPlain_39 rfl
  · replace h := am_ifn c4 h
    refine ev_aload_n 0 dX12_readPlain_10 rfl ?_
    refine ev_bipush dX12_readPlain_11 rfl ?_
    refine ev_iconst dX12_readPlain_13 rfl ?_
    obtain ⟨u15, g16, e17, h⟩ := am_bd_elim h
    refine ev_callVv [.int (28 : Int32), .int (0 : Int32)] [] dX12_readPlain_14 (tX12_push e17) (by decide) mo_X12_push kM_X12_306 ki_X12_push kv_X12_push (fun h9 => (h9.2.1 0 _ rfl).2) (by decide) rfl (Nat.le_of_ble_eq_true rfl) ?_
    refine ev_aload_n 0 dX12_readPlain_17 rfl ?_
    obtain ⟨u18, g19, e20, h⟩ := am_bd_elim h
    refine ev_callVv [] [] dX12_readPlain_18 (tX12_next e20) (by decide) mo_X12_next kM_X12_243 ki_X12_next kv_X12_next (fun h9 => (h9.2.1 0 _ rfl).2) (by decide) rfl (Nat.le_of_ble_eq_true rfl) ?_
    refine ev_iconst dX12_readPlain_21 rfl ?_
    cases h
    exact ev_iret dX12_readPlain_22 rfl
theorem tX12_readPlain {g : am_G} {r : Int32 × am_G} (h : fX12_readPlain g = some r) : am_Mt zr MX12_readPlain 5 [.ref 0] g (am_ri r) := am_Mt.of rfl (Nat.le_of_ble_eq_true rfl) (eX12_readPlain _ _ h)
def fX12_behindSum (a1 : Int32) (g : am_G) : Option (Int32 × am_G) :=
  am_bd (fX12_isSign (43 : Int32) g) fun v1 g2 =>
  am_jn (fun (x5 : Int32) (g6 : am_G) =>
    if x5 = (-1 : Int32) then (
      am_bd (fX12_inner g6) fun v9 g10 =>
      if v9 = (32 : Int32) then (
        am_bd (fX12_isSign (93 : Int32) g10) fun v52 g53 =>
        am_bd (fX12_must v52 g53) fun u55 g56 =>
        if (am_I g56 0 19) = 0 then (
          am_bd (fX12_settle (5 : Int32) g56) fun u59 g60 =>
          am_let (am_si g60 0 29 ((am_I g60 0 29) - (1 : Int32))) fun g62 =>
          am_let (am_si g62 0 30 ((am_I g62 0 30) - (1 : Int32))) fun g63 =>
          some ((3 : Int32), g63))
        else (
          some ((3 : Int32), g56)))
      else (
        am_jn (fun  (g14 : am_G) =>
          am_bd (fX12_isCompared g14) fun v16 g17 =>
          if v16 = 0 then (
            am_bd (fX12_isSign (60 : Int32) g17) fun v20 g21 =>
            am_jn (fun (x24 : Int32) (g25 : am_G) =>
              am_jn (fun (x28 : Int32) (g29 : am_G) =>
                am_bd (fX12_must x28 g29) fun u31 g32 =>
                if (am_I g32 0 19) = 0 then (
                  am_bd (fX12_settle (5 : Int32) g32) fun u35 g36 =>
                  am_bd (fX12_push x24 (0 : Int32) g36) fun u38 g39 =>
                  some ((1 : Int32), g39))
                else (
                  some ((1 : Int32), g32))) fun j30 =>
              am_jn (fun  (g41 : am_G) =>
                j30 (1 : Int32) g41) fun j42 =>
              if x24 = (27 : Int32) then (
                am_bd (fX12_isSign (61 : Int32) g25) fun v43 g44 =>
                if v43 = 0 then (
                  j30 (0 : Int32) g44)
                else (
                  j42 g44))
              else (
                j42 g25)) fun j26 =>
            if v20 = 0 then (
              am_bd (fX12_isSign (62 : Int32) g21) fun v47 g48 =>
              if v47 = 0 then (
                j26 (27 : Int32) g48)
              else (
                j26 (26 : Int32) g48))
            else (
              j26 (25 : Int32) g21))
          else (
            some ((2 : Int32), g17))) fun j15 =>
        if v9 = (-1 : Int32) then (
          if a1 = 0 then (
            some ((4 : Int32), g10))
          else (
            j15 g10))
        else (
          j15 g10)))
    else (
      am_bd (fX12_binds x5 g6) fun v64 g65 =>
      am_bd (fX12_settle v64 g65) fun u67 g68 =>
      am_bd (fX12_push x5 (0 : Int32) g68) fun u70 g71 =>
      am_bd (fX12_next g71) fun u73 g74 =>
      some ((1 : Int32), g74))) fun j7 =>
  if v1 = 0 then (
    am_bd (fX12_isSign (45 : Int32) g2) fun v76 g77 =>
    if v76 = 0 then (
      am_bd (fX12_isSign (42 : Int32) g77) fun v80 g81 =>
      if v80 = 0 then (
        am_bd (fX12_isSign (47 : Int32) g81) fun v84 g85 =>
        if v84 = 0 then (
          am_bd (fX12_isSign (37 : Int32) g85) fun v88 g89 =>
          if v88 = 0 then (
            j7 (-1 : Int32) g89)
          else (
            j7 (24 : Int32) g89))
        else (
          j7 (23 : Int32) g85))
      else (
        j7 (22 : Int32) g81))
    else (
      j7 (21 : Int32) g77))
  else (
    j7 (20 : Int32) g2)
set_option maxRecDepth 100000 in
set_option maxHeartbeats 4000000 in
theorem eX12_behindSum (a1 : Int32) (g : am_G) (r : Int32 × am_G) (h : fX12_behindSum a1 g = some r) : am_Ev zr MX12_behindSum 3 0 [(0, .ref 0), (1, .int a1)] [] g (am_ri r) := by
  unfold fX12_behindSum at h
  refine ev_aload_n 0 dX12_behindSum_0 rfl ?_
  refine ev_bipush dX12_behindSum_1 rfl ?_
  obtain ⟨v1, g2, e3, h⟩ := am_bd_elim h
  refine ev_callVi (v := v1) [.int (43 : Int32)] [] dX12_behindSum_3 (tX12_isSign e3) (by decide) mo_X12_isSign kM_X12_312 ki_X12_isSign kv_X12_isSign (fun h9 => (h9.2.1 0 _ rfl).2) (by decide) rfl (Nat.le_of_ble_eq_true rfl) ?_
  refine am_jn_elim (fun q9 => ∀ (x5 : Int32) (g6 : am_G) (r : Int32 × am_G), q9 x5 g6 = some r → am_Ev zr MX12_behindSum 3 71 [(0, .ref 0), (1, .int a1)] [.int x5] g6 (am_ri r)) h ?_ (fun j7 hj7 h => ?_)
  · intro x5 g6 r h
    try dsimp only at h
    refine ev_istore_n (ls' := [(2, .int x5), (0, .ref 0), (1, .int a1)]) dX12_behindSum_71 rfl (by decide) rfl ?_
    refine ev_iload_n 0 dX12_behindSum_72 rfl ?_
    refine ev_iconst dX12_behindSum_73 rfl ?_
    refine ev_icmp_eq 97 dX12_behindSum_74 (by decide) (fun c8 => ?_) (fun c8 => ?_)
    · replace h := am_ifp c8 h
      refine ev_aload_n 1 dX12_behindSum_97 rfl ?_
      obtain ⟨v9, g10, e11, h⟩ := am_bd_elim h
      refine ev_callVi (v := v9) [] [] dX12_behindSum_98 (tX12_inner e11) (by decide) mo_X12_inner kM_X12_346 ki_X12_inner kv_X12_inner (fun h9 => (h9.2.1 0 _ rfl).2) (by decide) rfl (Nat.le_of_ble_eq_true rfl) ?_
      refine ev_istore_n (ls' := [(3, .int v9), (2, .int x5), (0, .ref 0), (1, .int a1)]) dX12_behindSum_101 rfl (by decide) rfl ?_
      refine ev_iload_n 0 dX12_behindSum_102 rfl ?_
      refine ev_bipush dX12_behindSum_103 rfl ?_
      refine ev_icmp_ne 152 dX12_behindSum_105 (by decide) (fun c12 => ?_) (fun c12 => ?_)
      · replace h := am_ifn c12 h
        refine ev_iload_n 0 dX12_behindSum_152 rfl ?_
        refine ev_iconst dX12_behindSum_153 rfl ?_
        refine am_jn_elim (fun q9 => ∀  (g14 : am_G) (r : Int32 × am_G), q9  g14 = some r → am_Ev zr MX12_behindSum 3 163 [(0, .ref 0)] [] g14 (am_ri r)) h ?_ (fun j15 hj15 h => ?_)
        · intro  g14 r h
          try dsimp only at h
          refine ev_aload_n 0 dX12_behindSum_163 rfl ?_
          obtain ⟨v16, g17, e18, h⟩ := am_bd_elim h
          refine ev_callVi (v := v16) [] [] dX12_behindSum_164 (tX12_isCompared e18) (by decide) mo_X12_isCompared kM_X12_349 ki_X12_isCompared kv_X12_isCompared (fun h9 => (h9.2.1 0 _ rfl).2) (by decide) rfl (Nat.le_of_ble_eq_true rfl) ?_
          refine ev_if_eq 172 dX12_behindSum_167 (by decide) (fun c19 => ?_) (fun c19 => ?_)
          · replace h := am_ifp c19 h
            refine ev_aload_n 0 dX12_behindSum_172 rfl ?_
            refine ev_bipush dX12_behindSum_173 rfl ?_
            obtain ⟨v20, g21, e22, h⟩ := am_bd_elim h
            refine ev_callVi (v := v20) [.int (60 : Int32)] [] dX12_behindSum_175 (tX12_isSign e22) (by decide) mo_X12_isSign kM_X12_312 ki_X12_isSign kv_X12_isSign (fun h9 => (h9.2.1 0 _ rfl).2) (by decide) rfl (Nat.le_of_ble_eq_true rfl) ?_
            refine am_jn_elim (fun q9 => ∀ (x24 : Int32) (g25 : am_G) (r : Int32 × am_G), q9 x24 g25 = some r → am_Ev zr MX12_behindSum 3 202 [(0, .ref 0)] [.int x24] g25 (am_ri r)) h ?_ (fun j26 hj26 h => ?_)
            · intro x24 g25 r h
              try dsimp only at h
              refine ev_istore_n (ls' := [(2, .int x24), (0, .ref 0)]) dX12_behindSum_202 rfl (by decide) rfl ?_
              refine ev_aload_n 1 dX12_behindSum_203 rfl ?_
              refine ev_iload_n 0 dX12_behindSum_204 rfl ?_
              refine ev_bipush dX12_behindSum_205 rfl ?_
              refine am_jn_elim (fun q9 => ∀ (x28 : Int32) (g29 : am_G) (r : Int32 × am_G), q9 x28 g29 = some r → am_Ev zr MX12_behindSum 3 224 [(0, .ref 0), (2, .int x24)] [.int x28, .ref 0] g29 (am_ri r)) h ?_ (fun j30 hj30 h => ?_)
              · intro x28 g29 r h
                try dsimp only at h
                obtain ⟨u31, g32, e33, h⟩ := am_bd_elim h
                refine ev_callVv [.int x28] [] dX12_behindSum_224 (tX12_must e33) (by decide) mo_X12_must kM_X12_274 ki_X12_must kv_X12_must (fun h9 => (h9.2.1 0 _ rfl).2) (by decide) rfl (Nat.le_of_ble_eq_true rfl) ?_
                refine ev_aload_n 0 dX12_behindSum_227 rfl ?_
                refine ev_gf (v := .int (am_I g32 0 19)) dX12_behindSum_228 (fun h9 => (h9.2.1 0 _ rfl).2) 19 (by decide) (by decide) kF_X12_239 (fun _ => rfl) ?_
                refine ev_if_ne 245 dX12_behindSum_231 (by decide) (fun c34 => ?_) (fun c34 => ?_)
                · replace h := am_ifn c34 h
                  refine ev_iconst dX12_behindSum_245 rfl ?_
                  cases h
                  exact ev_iret dX12_behindSum_246 rfl
                · replace h := am_ifp c34 h
                  refine ev_aload_n 0 dX12_behindSum_234 rfl ?_
                  refine ev_iconst dX12_behindSum_235 rfl ?_
                  obtain ⟨u35, g36, e37, h⟩ := am_bd_elim h
                  refine ev_callVv [.int (5 : Int32)] [] dX12_behindSum_236 (tX12_settle e37) (by decide) mo_X12_settle kM_X12_343 ki_X12_settle kv_X12_settle (fun h9 => (h9.2.1 0 _ rfl).2) (by decide) rfl (Nat.le_of_ble_eq_true rfl) ?_
                  refine ev_aload_n 0 dX12_behindSum_239 rfl ?_
                  refine ev_iload_n 1 dX12_behindSum_240 rfl ?_
                  refine ev_iconst dX12_behindSum_241 rfl ?_
                  obtain ⟨u38, g39, e40, h⟩ := am_bd_elim h
                  refine ev_callVv [.int x24, .int (0 : Int32)] [] dX12_behindSum_242 (tX12_push e40) (by decide) mo_X12_push kM_X12_306 ki_X12_push kv_X12_push (fun h9 => (h9.2.1 0 _ rfl).2) (by decide) rfl (Nat.le_of_ble_eq_true rfl) ?_
                  refine ev_iconst dX12_behindSum_245 rfl ?_
                  cases h
                  exact ev_iret dX12_behindSum_246 rfl
              · refine am_jn_elim (fun q9 => ∀  (g41 : am_G) (r : Int32 × am_G), q9  g41 = some r → am_Ev zr MX12_behindSum 3 219 [(0, .ref 0), (2, .int x24)] [.ref 0] g41 (am_ri r)) h ?_ (fun j42 hj42 h => ?_)
                · intro  g41 r h
                  try dsimp only at h
                  refine ev_iconst dX12_behindSum_219 rfl ?_
                  refine ev_goto 224 dX12_behindSum_220 (by decide) ?_
                  refine ev_sub [0, 1] rfl ?_
                  exact hj30 _ _ _ h
                · refine ev_icmp_ne 219 dX12_behindSum_207 (by decide) (fun c27 => ?_) (fun c27 => ?_)
                  · replace h := am_ifn c27 h
                    refine ev_sub [1, 0] rfl ?_
                    exact hj42  _ _ h
                  · replace h := am_ifp c27 h
                    refine ev_aload_n 1 dX12_behindSum_210 rfl ?_
                    refine ev_bipush dX12_behindSum_211 rfl ?_
                    obtain ⟨v43, g44, e45, h⟩ := am_bd_elim h
                    refine ev_callVi (v := v43) [.int (61 : Int32)] [.ref 0] dX12_behindSum_213 (tX12_isSign e45) (by decide) mo_X12_isSign kM_X12_312 ki_X12_isSign kv_X12_isSign (fun h9 => (h9.2.1 0 _ rfl).2) (by decide) rfl (Nat.le_of_ble_eq_true rfl) ?_
                    refine ev_if_eq 223 dX12_behindSum_216 (by decide) (fun c46 => ?_) (fun c46 => ?_)
                    · replace h := am_ifp c46 h
                      refine ev_iconst dX12_behindSum_223 rfl ?_
                      refine ev_sub [1, 0] rfl ?_
                      exact hj30 _ _ _ h
                    · replace h := am_ifn c46 h
                      refine ev_sub [1, 0] rfl ?_
                      exact hj42  _ _ h
            · refine ev_if_eq 186 dX12_behindSum_178 (by decide) (fun c23 => ?_) (fun c23 => ?_)
              · replace h := am_ifp c23 h
                refine ev_aload_n 0 dX12_behindSum_186 rfl ?_
                refine ev_bipush dX12_behindSum_187 rfl ?_
                obtain ⟨v47, g48, e49, h⟩ := am_bd_elim h
                refine ev_callVi (v := v47) [.int (62 : Int32)] [] dX12_behindSum_189 (tX12_isSign e49) (by decide) mo_X12_isSign kM_X12_312 ki_X12_isSign kv_X12_isSign (fun h9 => (h9.2.1 0 _ rfl).2) (by decide) rfl (Nat.le_of_ble_eq_true rfl) ?_
                refine ev_if_eq 200 dX12_behindSum_192 (by decide) (fun c50 => ?_) (fun c50 => ?_)
                · replace h := am_ifp c50 h
                  refine ev_bipush dX12_behindSum_200 rfl ?_
                  refine ev_sub [0] rfl ?_
                  exact hj26 _ _ _ h
                · replace h := am_ifn c50 h
                  refine ev_bipush dX12_behindSum_195 rfl ?_
                  refine ev_goto 202 dX12_behindSum_197 (by decide) ?_
                  refine ev_sub [0] rfl ?_
                  exact hj26 _ _ _ h
              · replace h := am_ifn c23 h
                refine ev_bipush dX12_behindSum_181 rfl ?_
                refine ev_goto 202 dX12_behindSum_183 (by decide) ?_
                refine ev_sub [0] rfl ?_
                exact hj26 _ _ _ h
          · replace h := am_ifn c19 h
            refine ev_iconst dX12_behindSum_170 rfl ?_
            cases h
            exact ev_iret dX12_behindSum_171 rfl
        · refine ev_icmp_ne 163 dX12_behindSum_154 (by decide) (fun c13 => ?_) (fun c13 => ?_)
          · replace h := am_ifn c13 h
            refine ev_sub [2] rfl ?_
            exact hj15  _ _ h
          · replace h := am_ifp c13 h
            refine ev_iload_n 3 dX12_behindSum_157 rfl ?_
            refine ev_if_ne 163 dX12_behindSum_158 (by decide) (fun c51 => ?_) (fun c51 => ?_)
            · replace h := am_ifn c51 h
              refine ev_sub [2] rfl ?_
              exact hj15  _ _ h
            · replace h := am_ifp c51 h
              refine ev_iconst dX12_behindSum_161 rfl ?_
              cases h
              exact ev_iret dX12_behindSum_162 rfl
      · replace h := am_ifp c12 h
        refine ev_aload_n 2 dX12_behindSum_108 rfl ?_
        refine ev_aload_n 2 dX12_behindSum_109 rfl ?_
        refine ev_bipush dX12_behindSum_110 rfl ?_
        obtain ⟨v52, g53, e54, h⟩ := am_bd_elim h
        refine ev_callVi (v := v52) [.int (93 : Int32)] [.ref 0] dX12_behindSum_112 (tX12_isSign e54) (by decide) mo_X12_isSign kM_X12_312 ki_X12_isSign kv_X12_isSign (fun h9 => (h9.2.1 0 _ rfl).2) (by decide) rfl (Nat.le_of_ble_eq_true rfl) ?_
        obtain ⟨u55, g56, e57, h⟩ := am_bd_elim h
        refine ev_callVv [.int v52] [] dX12_behindSum_115 (tX12_must e57) (by decide) mo_X12_must kM_X12_274 ki_X12_must kv_X12_must (fun h9 => (h9.2.1 0 _ rfl).2) (by decide) rfl (Nat.le_of_ble_eq_true rfl) ?_
        refine ev_aload_n 2 dX12_behindSum_118 rfl ?_
        refine ev_gf (v := .int (am_I g56 0 19)) dX12_behindSum_119 (fun h9 => (h9.2.1 0 _ rfl).2) 19 (by decide) (by decide) kF_X12_239 (fun _ => rfl) ?_
        refine ev_if_ne 150 dX12_behindSum_122 (by decide) (fun c58 => ?_) (fun c58 => ?_)
        · replace h := am_ifn c58 h
          refine ev_iconst dX12_behindSum_150 rfl ?_
          cases h
          exact ev_iret dX12_behindSum_151 rfl
        · replace h := am_ifp c58 h
          refine ev_aload_n 2 dX12_behindSum_125 rfl ?_
          refine ev_iconst dX12_behindSum_126 rfl ?_
          obtain ⟨u59, g60, e61, h⟩ := am_bd_elim h
          refine ev_callVv [.int (5 : Int32)] [] dX12_behindSum_127 (tX12_settle e61) (by decide) mo_X12_settle kM_X12_343 ki_X12_settle kv_X12_settle (fun h9 => (h9.2.1 0 _ rfl).2) (by decide) rfl (Nat.le_of_ble_eq_true rfl) ?_
          refine ev_aload_n 2 dX12_behindSum_130 rfl ?_
          refine ev_dup dX12_behindSum_131 rfl ?_
          refine ev_gf (v := .int (am_I g60 0 29)) dX12_behindSum_132 (fun h9 => (h9.2.1 0 _ rfl).2) 29 (by decide) (by decide) kF_X12_281 (fun _ => rfl) ?_
          refine ev_iconst dX12_behindSum_135 rfl ?_
          refine ev_isub dX12_behindSum_136 ?_
          refine ev_pfi dX12_behindSum_137 (fun h9 => (h9.2.1 0 _ rfl).2) 29 (by decide) (by decide) kF_X12_281 rfl rfl rfl (fun _ => rfl) ?_
          refine am_let_elim (P := fun g62 => am_Ev zr MX12_behindSum 3 140 [(3, .int v9), (2, .int x5), (0, .ref 0), (1, .int a1)] [] g62 (am_ri r)) h fun g62 h => ?_
          refine ev_aload_n 2 dX12_behindSum_140 rfl ?_
          refine ev_dup dX12_behindSum_141 rfl ?_
          refine ev_gf (v := .int (am_I g62 0 30)) dX12_behindSum_142 (fun h9 => (h9.2.1 0 _ rfl).2) 30 (by decide) (by decide) kF_X12_303 (fun _ => rfl) ?_
          refine ev_iconst dX12_behindSum_145 rfl ?_
          refine ev_isub dX12_behindSum_146 ?_
          refine ev_pfi dX12_behindSum_147 (fun h9 => (h9.2.1 0 _ rfl).2) 30 (by decide) (by decide) kF_X12_303 rfl rfl rfl (fun _ => rfl) ?_
          refine am_let_elim (P := fun g63 => am_Ev zr MX12_behindSum 3 150 [(3, .int v9), (2, .int x5), (0, .ref 0), (1, .int a1)] [] g63 (am_ri r)) h fun g63 h => ?_
          refine ev_iconst dX12_behindSum_150 rfl ?_
          cases h
          exact ev_iret dX12_behindSum_151 rfl
    · replace h := am_ifn c8 h
      refine ev_aload_n 1 dX12_behindSum_77 rfl ?_
      refine ev_iload_n 0 dX12_behindSum_78 rfl ?_
      obtain ⟨v64, g65, e66, h⟩ := am_bd_elim h
      refine ev_callSi (v := v64) [.int x5] [.ref 0] dX12_behindSum_79 (tX12_binds e66) (by decide) mo_X12_binds kM_X12_284 ks_X12_binds (Nat.le_of_ble_eq_true rfl) ?_
      obtain ⟨u67, g68, e69, h⟩ := am_bd_elim h
      refine ev_callVv [.int v64] [] dX12_behindSum_82 (tX12_settle e69) (by decide) mo_X12_settle kM_X12_343 ki_X12_settle kv_X12_settle (fun h9 => (h9.2.1 0 _ rfl).2) (by decide) rfl (Nat.le_of_ble_eq_true rfl) ?_
      refine ev_aload_n 1 dX12_behindSum_85 rfl ?_
      refine ev_iload_n 0 dX12_behindSum_86 rfl ?_
      refine ev_iconst dX12_behindSum_87 rfl ?_
      obtain ⟨u70, g71, e72, h⟩ := am_bd_elim h
      refine ev_callVv [.int x5, .int (0 : Int32)] [] dX12_behindSum_88 (tX12_push e72) (by decide) mo_X12_push kM_X12_306 ki_X12_push kv_X12_push (fun h9 => (h9.2.1 0 _ rfl).2) (by decide) rfl (Nat.le_of_ble_eq_true rfl) ?_
      refine ev_aload_n 1 dX12_behindSum_91 rfl ?_
      obtain ⟨u73, g74, e75, h⟩ := am_bd_elim h
      refine ev_callVv [] [] dX12_behindSum_92 (tX12_next e75) (by decide) mo_X12_next kM_X12_243 ki_X12_next kv_X12_next (fun h9 => (h9.2.1 0 _ rfl).2) (by decide) rfl (Nat.le_of_ble_eq_true rfl) ?_
      refine ev_iconst dX12_behindSum_95 rfl ?_
      cases h
      exact ev_iret dX12_behindSum_96 rfl
  · refine ev_if_eq 14 dX12_behindSum_6 (by decide) (fun c4 => ?_) (fun c4 => ?_)
    · replace h := am_ifp c4 h
      refine ev_aload_n 0 dX12_behindSum_14 rfl ?_
      refine ev_bipush dX12_behindSum_15 rfl ?_
      obtain ⟨v76, g77, e78, h⟩ := am_bd_elim h
      refine ev_callVi (v := v76) [.int (45 : Int32)] [] dX12_behindSum_17 (tX12_isSign e78) (by decide) mo_X12_isSign kM_X12_312 ki_X12_isSign kv_X12_isSign (fun h9 => (h9.2.1 0 _ rfl).2) (by decide) rfl (Nat.le_of_ble_eq_true rfl) ?_
      refine ev_if_eq 28 dX12_behindSum_20 (by decide) (fun c79 => ?_) (fun c79 => ?_)
      · replace h := am_ifp c79 h
        refine ev_aload_n 0 dX12_behindSum_28 rfl ?_
        refine ev_bipush dX12_behindSum_29 rfl ?_
        obtain ⟨v80, g81, e82, h⟩ := am_bd_elim h
        refine ev_callVi (v := v80) [.int (42 : Int32)] [] dX12_behindSum_31 (tX12_isSign e82) (by decide) mo_X12_isSign kM_X12_312 ki_X12_isSign kv_X12_isSign (fun h9 => (h9.2.1 0 _ rfl).2) (by decide) rfl (Nat.le_of_ble_eq_true rfl) ?_
        refine ev_if_eq 42 dX12_behindSum_34 (by decide) (fun c83 => ?_) (fun c83 => ?_)
        · replace h := am_ifp c83 h
          refine ev_aload_n 0 dX12_behindSum_42 rfl ?_
          refine ev_bipush dX12_behindSum_43 rfl ?_
          obtain ⟨v84, g85, e86, h⟩ := am_bd_elim h
          refine ev_callVi (v := v84) [.int (47 : Int32)] [] dX12_behindSum_45 (tX12_isSign e86) (by decide) mo_X12_isSign kM_X12_312 ki_X12_isSign kv_X12_isSign (fun h9 => (h9.2.1 0 _ rfl).2) (by decide) rfl (Nat.le_of_ble_eq_true rfl) ?_
          refine ev_if_eq 56 dX12_behindSum_48 (by decide) (fun c87 => ?_) (fun c87 => ?_)
          · replace h := am_ifp c87 h
            refine ev_aload_n 0 dX12_behindSum_56 rfl ?_
            refine ev_bipush dX12_behindSum_57 rfl ?_
            obtain ⟨v88, g89, e90, h⟩ := am_bd_elim h
            refine ev_callVi (v := v88) [.int (37 : Int32)] [] dX12_behindSum_59 (tX12_isSign e90) (by decide) mo_X12_isSign kM_X12_312 ki_X12_isSign kv_X12_isSign (fun h9 => (h9.2.1 0 _ rfl).2) (by decide) rfl (Nat.le_of_ble_eq_true rfl) ?_
            refine ev_if_eq 70 dX12_behindSum_62 (by decide) (fun c91 => ?_) (fun c91 => ?_)
            · replace h := am_ifp c91 h
              refine ev_iconst dX12_behindSum_70 rfl ?_
              refine ev_sub [0, 1] rfl ?_
              exact hj7 _ _ _ h
            · replace h := am_ifn c91 h
              refine ev_bipush dX12_behindSum_65 rfl ?_
              refine ev_goto 71 dX12_behindSum_67 (by decide) ?_
              refine ev_sub [0, 1] rfl ?_
              exact hj7 _ _ _ h
          · replace h := am_ifn c87 h
            refine ev_bipush dX12_behindSum_51 rfl ?_
            refine ev_goto 71 dX12_behindSum_53 (by decide) ?_
            refine ev_sub [0, 1] rfl ?_
            exact hj7 _ _ _ h
        · replace h := am_ifn c83 h
          refine ev_bipush dX12_behindSum_37 rfl ?_
          refine ev_goto 71 dX12_behindSum_39 (by decide) ?_
          refine ev_sub [0, 1] rfl ?_
          exact hj7 _ _ _ h
      · replace h := am_ifn c79 h
        refine ev_bipush dX12_behindSum_23 rfl ?_
        refine ev_goto 71 dX12_behindSum_25 (by decide) ?_
        refine ev_sub [0, 1] rfl ?_
        exact hj7 _ _ _ h
    · replace h := am_ifn c4 h
      refine ev_bipush dX12_behindSum_9 rfl ?_
      refine ev_goto 71 dX12_behindSum_11 (by decide) ?_
      refine ev_sub [0, 1] rfl ?_
      exact hj7 _ _ _ h
theorem tX12_behindSum {a1 : Int32} {g : am_G} {r : Int32 × am_G} (h : fX12_behindSum a1 g = some r) : am_Mt zr MX12_behindSum 3 [.ref 0, .int a1] g (am_ri r) := am_Mt.of rfl (Nat.le_of_ble_eq_true rfl) (eX12_behindSum _ _ _ h)
def fX12_behindTest (g : am_G) : Option (Int32 × am_G) :=
  am_bd (fX12_isWord (1476 : Int64) g) fun v1 g2 =>
  am_jn (fun  (g5 : am_G) =>
    am_jn (fun (x8 : Int32) (g9 : am_G) =>
      am_bd (fX12_settle x8 g9) fun u11 g12 =>
      am_jn (fun (x15 : Int32) (g16 : am_G) =>
        am_bd (fX12_push x15 (am_I g16 0 23) g16) fun u18 g19 =>
        if v1 = 0 then (
          am_bd (fX12_emit (30 : Int32) (0 : Int32) g19) fun u22 g23 =>
          am_bd (fX12_next g23) fun u25 g26 =>
          some ((0 : Int32), g26))
        else (
          am_bd (fX12_emit (29 : Int32) (0 : Int32) g19) fun u28 g29 =>
          am_bd (fX12_next g29) fun u31 g32 =>
          some ((0 : Int32), g32))) fun j17 =>
      if v1 = 0 then (
        j17 (30 : Int32) g12)
      else (
        j17 (29 : Int32) g12)) fun j10 =>
    if v1 = 0 then (
      j10 (1 : Int32) g5)
    else (
      j10 (2 : Int32) g5)) fun j6 =>
  if v1 = 0 then (
    am_bd (fX12_isWord (498 : Int64) g2) fun v34 g35 =>
    if v34 = 0 then (
      am_bd (fX12_inner g35) fun v38 g39 =>
      if v38 = (-1 : Int32) then (
        some ((4 : Int32), g39))
      else (
        am_bd (fX12_isSign (41 : Int32) g39) fun v42 g43 =>
        am_bd (fX12_must v42 g43) fun u45 g46 =>
        if (am_I g46 0 19) = 0 then (
          am_bd (fX12_settle (1 : Int32) g46) fun u49 g50 =>
          am_let (am_si g50 0 29 ((am_I g50 0 29) - (1 : Int32))) fun g52 =>
          am_let (am_si g52 0 30 ((am_I g52 0 30) - (1 : Int32))) fun g53 =>
          some ((2 : Int32), g53))
        else (
          some ((2 : Int32), g46))))
    else (
      j6 g35))
  else (
    j6 g2)
set_option maxRecDepth 100000 in
set_option maxHeartbeats 4000000 in
theorem eX12_behindTest (g : am_G) (r : Int32 × am_G) (h : fX12_behindTest g = some r) : am_Ev zr MX12_behindTest 3 0 [(0, .ref 0)] [] g (am_ri r) := by
  unfold fX12_behindTest at h
  refine ev_aload_n 0 dX12_behindTest_0 rfl ?_
  refine ev_ldc2 dX12_behindTest_1 kL_X12_353 ?_
  obtain ⟨v1, g2, e3, h⟩ := am_bd_elim h
  refine ev_callVi (v := v1) [.long (1476 : Int64)] [] dX12_behindTest_4 (tX12_isWord e3) (by decide) mo_X12_isWord kM_X12_299 ki_X12_isWord kv_X12_isWord (fun h9 => (h9.2.1 0 _ rfl).2) (by decide) rfl (Nat.le_of_ble_eq_true rfl) ?_
  refine ev_istore_n (ls' := [(1, .int v1), (0, .ref 0)]) dX12_behindTest_7 rfl (by decide) rfl ?_
  refine ev_iload_n 0 dX12_behindTest_8 rfl ?_
  refine am_jn_elim (fun q9 => ∀  (g5 : am_G) (r : Int32 × am_G), q9  g5 = some r → am_Ev zr MX12_behindTest 3 22 [(0, .ref 0), (1, .int v1)] [] g5 (am_ri r)) h ?_ (fun j6 hj6 h => ?_)
  · intro  g5 r h
    try dsimp only at h
    refine ev_aload_n 0 dX12_behindTest_22 rfl ?_
    refine ev_iload_n 1 dX12_behindTest_23 rfl ?_
    refine am_jn_elim (fun q9 => ∀ (x8 : Int32) (g9 : am_G) (r : Int32 × am_G), q9 x8 g9 = some r → am_Ev zr MX12_behindTest 3 32 [(0, .ref 0), (1, .int v1)] [.int x8, .ref 0] g9 (am_ri r)) h ?_ (fun j10 hj10 h => ?_)
    · intro x8 g9 r h
      try dsimp only at h
      obtain ⟨u11, g12, e13, h⟩ := am_bd_elim h
      refine ev_callVv [.int x8] [] dX12_behindTest_32 (tX12_settle e13) (by decide) mo_X12_settle kM_X12_343 ki_X12_settle kv_X12_settle (fun h9 => (h9.2.1 0 _ rfl).2) (by decide) rfl (Nat.le_of_ble_eq_true rfl) ?_
      refine ev_aload_n 0 dX12_behindTest_35 rfl ?_
      refine ev_iload_n 1 dX12_behindTest_36 rfl ?_
      refine am_jn_elim (fun q9 => ∀ (x15 : Int32) (g16 : am_G) (r : Int32 × am_G), q9 x15 g16 = some r → am_Ev zr MX12_behindTest 3 47 [(0, .ref 0), (1, .int v1)] [.int x15, .ref 0] g16 (am_ri r)) h ?_ (fun j17 hj17 h => ?_)
      · intro x15 g16 r h
        try dsimp only at h
        refine ev_aload_n 0 dX12_behindTest_47 rfl ?_
        refine ev_gf (v := .int (am_I g16 0 23)) dX12_behindTest_48 (fun h9 => (h9.2.1 0 _ rfl).2) 23 (by decide) (by decide) kF_X12_278 (fun _ => rfl) ?_
        obtain ⟨u18, g19, e20, h⟩ := am_bd_elim h
        refine ev_callVv [.int x15, .int (am_I g16 0 23)] [] dX12_behindTest_51 (tX12_push e20) (by decide) mo_X12_push kM_X12_306 ki_X12_push kv_X12_push (fun h9 => (h9.2.1 0 _ rfl).2) (by decide) rfl (Nat.le_of_ble_eq_true rfl) ?_
        refine ev_aload_n 0 dX12_behindTest_54 rfl ?_
        refine ev_iload_n 1 dX12_behindTest_55 rfl ?_
        refine ev_if_eq 64 dX12_behindTest_56 (by decide) (fun c21 => ?_) (fun c21 => ?_)
        · replace h := am_ifp c21 h
          refine ev_bipush dX12_behindTest_64 rfl ?_
          refine ev_iconst dX12_behindTest_66 rfl ?_
          obtain ⟨u22, g23, e24, h⟩ := am_bd_elim h
          refine ev_callVv [.int (30 : Int32), .int (0 : Int32)] [] dX12_behindTest_67 (tX12_emit e24) (by decide) mo_X12_emit kM_X12_287 ki_X12_emit kv_X12_emit (fun h9 => (h9.2.1 0 _ rfl).2) (by decide) rfl (Nat.le_of_ble_eq_true rfl) ?_
          refine ev_aload_n 0 dX12_behindTest_70 rfl ?_
          obtain ⟨u25, g26, e27, h⟩ := am_bd_elim h
          refine ev_callVv [] [] dX12_behindTest_71 (tX12_next e27) (by decide) mo_X12_next kM_X12_243 ki_X12_next kv_X12_next (fun h9 => (h9.2.1 0 _ rfl).2) (by decide) rfl (Nat.le_of_ble_eq_true rfl) ?_
          refine ev_iconst dX12_behindTest_74 rfl ?_
          cases h
          exact ev_iret dX12_behindTest_75 rfl
        · replace h := am_ifn c21 h
          refine ev_bipush dX12_behindTest_59 rfl ?_
          refine ev_goto 66 dX12_behindTest_61 (by decide) ?_
          refine ev_iconst dX12_behindTest_66 rfl ?_
          obtain ⟨u28, g29, e30, h⟩ := am_bd_elim h
          refine ev_callVv [.int (29 : Int32), .int (0 : Int32)] [] dX12_behindTest_67 (tX12_emit e30) (by decide) mo_X12_emit kM_X12_287 ki_X12_emit kv_X12_emit (fun h9 => (h9.2.1 0 _ rfl).2) (by decide) rfl (Nat.le_of_ble_eq_true rfl) ?_
          refine ev_aload_n 0 dX12_behindTest_70 rfl ?_
          obtain ⟨u31, g32, e33, h⟩ := am_bd_elim h
          refine ev_callVv [] [] dX12_behindTest_71 (tX12_next e33) (by decide) mo_X12_next kM_X12_243 ki_X12_next kv_X12_next (fun h9 => (h9.2.1 0 _ rfl).2) (by decide) rfl (Nat.le_of_ble_eq_true rfl) ?_
          refine ev_iconst dX12_behindTest_74 rfl ?_
          cases h
          exact ev_iret dX12_behindTest_75 rfl
      · refine ev_if_eq 45 dX12_behindTest_37 (by decide) (fun c14 => ?_) (fun c14 => ?_)
        · replace h := am_ifp c14 h
          refine ev_bipush dX12_behindTest_45 rfl ?_
          refine ev_sub [0, 1] rfl ?_
          exact hj17 _ _ _ h
        · replace h := am_ifn c14 h
          refine ev_bipush dX12_behindTest_40 rfl ?_
          refine ev_goto 47 dX12_behindTest_42 (by decide) ?_
          refine ev_sub [0, 1] rfl ?_
          exact hj17 _ _ _ h
    · refine ev_if_eq 31 dX12_behindTest_24 (by decide) (fun c7 => ?_) (fun c7 => ?_)
      · replace h := am_ifp c7 h
        refine ev_iconst dX12_behindTest_31 rfl ?_
        refine ev_sub [0, 1] rfl ?_
        exact hj10 _ _ _ h
      · replace h := am_ifn c7 h
        refine ev_iconst dX12_behindTest_27 rfl ?_
        refine ev_goto 32 dX12_behindTest_28 (by decide) ?_
        refine ev_sub [0, 1] rfl ?_
        exact hj10 _ _ _ h
  · refine ev_if_ne 22 dX12_behindTest_9 (by decide) (fun c4 => ?_) (fun c4 => ?_)
    · replace h := am_ifn c4 h
      refine ev_sub [1, 0] rfl ?_
      exact hj6  _ _ h
    · replace h := am_ifp c4 h
      refine ev_aload_n 1 dX12_behindTest_12 rfl ?_
      refine ev_ldc2 dX12_behindTest_13 kL_X12_355 ?_
      obtain ⟨v34, g35, e36, h⟩ := am_bd_elim h
      refine ev_callVi (v := v34) [.long (498 : Int64)] [] dX12_behindTest_16 (tX12_isWord e36) (by decide) mo_X12_isWord kM_X12_299 ki_X12_isWord kv_X12_isWord (fun h9 => (h9.2.1 0 _ rfl).2) (by decide) rfl (Nat.le_of_ble_eq_true rfl) ?_
      refine ev_if_eq 76 dX12_behindTest_19 (by decide) (fun c37 => ?_) (fun c37 => ?_)
      · replace h := am_ifp c37 h
        refine ev_aload_n 1 dX12_behindTest_76 rfl ?_
        obtain ⟨v38, g39, e40, h⟩ := am_bd_elim h
        refine ev_callVi (v := v38) [] [] dX12_behindTest_77 (tX12_inner e40) (by decide) mo_X12_inner kM_X12_346 ki_X12_inner kv_X12_inner (fun h9 => (h9.2.1 0 _ rfl).2) (by decide) rfl (Nat.le_of_ble_eq_true rfl) ?_
        refine ev_iconst dX12_behindTest_80 rfl ?_
        refine ev_icmp_ne 86 dX12_behindTest_81 (by decide) (fun c41 => ?_) (fun c41 => ?_)
        · replace h := am_ifn c41 h
          refine ev_aload_n 1 dX12_behindTest_86 rfl ?_
          refine ev_aload_n 1 dX12_behindTest_87 rfl ?_
          refine ev_bipush dX12_behindTest_88 rfl ?_
          obtain ⟨v42, g43, e44, h⟩ := am_bd_elim h
          refine ev_callVi (v := v42) [.int (41 : Int32)] [.ref 0] dX12_behindTest_90 (tX12_isSign e44) (by decide) mo_X12_isSign kM_X12_312 ki_X12_isSign kv_X12_isSign (fun h9 => (h9.2.1 0 _ rfl).2) (by decide) rfl (Nat.le_of_ble_eq_true rfl) ?_
          obtain ⟨u45, g46, e47, h⟩ := am_bd_elim h
          refine ev_callVv [.int v42] [] dX12_behindTest_93 (tX12_must e47) (by decide) mo_X12_must kM_X12_274 ki_X12_must kv_X12_must (fun h9 => (h9.2.1 0 _ rfl).2) (by decide) rfl (Nat.le_of_ble_eq_true rfl) ?_
          refine ev_aload_n 1 dX12_behindTest_96 rfl ?_
          refine ev_gf (v := .int (am_I g46 0 19)) dX12_behindTest_97 (fun h9 => (h9.2.1 0 _ rfl).2) 19 (by decide) (by decide) kF_X12_239 (fun _ => rfl) ?_
          refine ev_if_ne 128 dX12_behindTest_100 (by decide) (fun c48 => ?_) (fun c48 => ?_)
          · replace h := am_ifn c48 h
            refine ev_iconst dX12_behindTest_128 rfl ?_
            cases h
            exact ev_iret dX12_behindTest_129 rfl
          · replace h := am_ifp c48 h
            refine ev_aload_n 1 dX12_behindTest_103 rfl ?_
            refine ev_iconst dX12_behindTest_104 rfl ?_
            obtain ⟨u49, g50, e51, h⟩ := am_bd_elim h
            refine ev_callVv [.int (1 : Int32)] [] dX12_behindTest_105 (tX12_settle e51) (by decide) mo_X12_settle kM_X12_343 ki_X12_settle kv_X12_settle (fun h9 => (h9.2.1 0 _ rfl).2) (by decide) rfl (Nat.le_of_ble_eq_true rfl) ?_
            refine ev_aload_n 1 dX12_behindTest_108 rfl ?_
            refine ev_dup dX12_behindTest_109 rfl ?_
            refine ev_gf (v := .int (am_I g50 0 29)) dX12_behindTest_110 (fun h9 => (h9.2.1 0 _ rfl).2) 29 (by decide) (by decide) kF_X12_281 (fun _ => rfl) ?_
            refine ev_iconst dX12_behindTest_113 rfl ?_
            refine ev_isub dX12_behindTest_114 ?_
            refine ev_pfi dX12_behindTest_115 (fun h9 => (h9.2.1 0 _ rfl).2) 29 (by decide) (by decide) kF_X12_281 rfl rfl rfl (fun _ => rfl) ?_
            refine am_let_elim (P := fun g52 => am_Ev zr MX12_behindTest 3 118 [(1, .int v1), (0, .ref 0)] [] g52 (am_ri r)) h fun g52 h => ?_
            refine ev_aload_n 1 dX12_behindTest_118 rfl ?_
            refine ev_dup dX12_behindTest_119 rfl ?_
            refine ev_gf (v := .int (am_I g52 0 30)) dX12_behindTest_120 (fun h9 => (h9.2.1 0 _ rfl).2) 30 (by decide) (by decide) kF_X12_303 (fun _ => rfl) ?_
            refine ev_iconst dX12_behindTest_123 rfl ?_
            refine ev_isub dX12_behindTest_124 ?_
            refine ev_pfi dX12_behindTest_125 (fun h9 => (h9.2.1 0 _ rfl).2) 30 (by decide) (by decide) kF_X12_303 rfl rfl rfl (fun _ => rfl) ?_
            refine am_let_elim (P := fun g53 => am_Ev zr MX12_behindTest 3 128 [(1, .int v1), (0, .ref 0)] [] g53 (am_ri r)) h fun g53 h => ?_
            refine ev_iconst dX12_behindTest_128 rfl ?_
            cases h
            exact ev_iret dX12_behindTest_129 rfl
        · replace h := am_ifp c41 h
          refine ev_iconst dX12_behindTest_84 rfl ?_
          cases h
          exact ev_iret dX12_behindTest_85 rfl
      · replace h := am_ifn c37 h
        refine ev_sub [1, 0] rfl ?_
        exact hj6  _ _ h
theorem tX12_behindTest {g : am_G} {r : Int32 × am_G} (h : fX12_behindTest g = some r) : am_Mt zr MX12_behindTest 3 [.ref 0] g (am_ri r) := am_Mt.of rfl (Nat.le_of_ble_eq_true rfl) (eX12_behindTest _ _ h)
def fX12_readExpression_L20 (a1 : Int32) : Nat → Int32 → am_G → Option (Unit × am_G)
  | 0, _, _ => none
  | n + 1, x7, g8 =>
    if (am_I g8 0 19) = 0 then (
      if x7 = (4 : Int32) then (
        am_bd (fX12_settle (1 : Int32) g8) fun u14 g15 =>
        some ((), g15))
      else (
        am_jn (fun (x18 : Int32) (g19 : am_G) =>
          fX12_readExpression_L20 a1 n x18 g19) fun j20 =>
        if x7 = 0 then (
          am_bd (fX12_readPlain g8) fun v32 g33 =>
          j20 v32 g33)
        else (
          if x7 = (1 : Int32) then (
            am_bd (fX12_readPart g8) fun v29 g30 =>
            j20 v29 g30)
          else (
            if x7 = (3 : Int32) then (
              am_bd (fX12_behindSum a1 g8) fun v26 g27 =>
              j20 v26 g27)
            else (
              am_bd (fX12_behindTest g8) fun v23 g24 =>
              j20 v23 g24)))))
    else (
      am_bd (fX12_settle (1 : Int32) g8) fun u10 g11 =>
      some ((), g11))
def fX12_readExpression (a1 : Int32) (g : am_G) : Option (Unit × am_G) :=
  am_let (am_si g 0 29 (0 : Int32)) fun g1 =>
  am_let (am_si g1 0 30 (0 : Int32)) fun g2 =>
  am_jn (fun (x4 : Int32) (g5 : am_G) =>
    fX12_readExpression_L20 a1 am_fu x4 g5) fun j6 =>
  if a1 = 0 then (
    j6 (1 : Int32) g2)
  else (
    j6 (0 : Int32) g2)
set_option maxRecDepth 100000 in
set_option maxHeartbeats 4000000 in
theorem tfX12_readExpression_L20  (a1 : Int32) : ∀ (n : Nat) (x7 : Int32) (g8 : am_G) (r : Unit × am_G), fX12_readExpression_L20 a1 n x7 g8 = some r → am_Ev zr MX12_readExpression 6 20 [(0, .ref 0), (1, .int a1), (2, .int x7)] [] g8 (am_rv r) := by
  intro n
  induction n with
  | zero => intro x7 g8 r h; exact nomatch (show (none : Option (Unit × am_G)) = some r from h)
  | succ n ih =>
    intro x7 g8 r h
    rw [fX12_readExpression_L20] at h
    refine ev_aload_n 0 dX12_readExpression_20 rfl ?_
    refine ev_gf (v := .int (am_I g8 0 19)) dX12_readExpression_21 (fun h9 => (h9.2.1 0 _ rfl).2) 19 (by decide) (by decide) kF_X12_239 (fun _ => rfl) ?_
    refine ev_if_ne 76 dX12_readExpression_24 (by decide) (fun c9 => ?_) (fun c9 => ?_)
    · replace h := am_ifn c9 h
      refine ev_aload_n 0 dX12_readExpression_76 rfl ?_
      refine ev_iconst dX12_readExpression_77 rfl ?_
      obtain ⟨u10, g11, e12, h⟩ := am_bd_elim h
      refine ev_callVv [.int (1 : Int32)] [] dX12_readExpression_78 (tX12_settle e12) (by decide) mo_X12_settle kM_X12_343 ki_X12_settle kv_X12_settle (fun h9 => (h9.2.1 0 _ rfl).2) (by decide) rfl (Nat.le_of_ble_eq_true rfl) ?_
      cases h
      exact ev_ret dX12_readExpression_81 rfl
    · replace h := am_ifp c9 h
      refine ev_iload_n 2 dX12_readExpression_27 rfl ?_
      refine ev_iconst dX12_readExpression_28 rfl ?_
      refine ev_icmp_eq 76 dX12_readExpression_29 (by decide) (fun c13 => ?_) (fun c13 => ?_)
      · replace h := am_ifp c13 h
        refine ev_aload_n 0 dX12_readExpression_76 rfl ?_
        refine ev_iconst dX12_readExpression_77 rfl ?_
        obtain ⟨u14, g15, e16, h⟩ := am_bd_elim h
        refine ev_callVv [.int (1 : Int32)] [] dX12_readExpression_78 (tX12_settle e16) (by decide) mo_X12_settle kM_X12_343 ki_X12_settle kv_X12_settle (fun h9 => (h9.2.1 0 _ rfl).2) (by decide) rfl (Nat.le_of_ble_eq_true rfl) ?_
        cases h
        exact ev_ret dX12_readExpression_81 rfl
      · replace h := am_ifn c13 h
        refine ev_iload_n 2 dX12_readExpression_32 rfl ?_
        refine am_jn_elim (fun q9 => ∀ (x18 : Int32) (g19 : am_G) (r : Unit × am_G), q9 x18 g19 = some r → am_Ev zr MX12_readExpression 6 72 [(0, .ref 0), (1, .int a1)] [.int x18] g19 (am_rv r)) h ?_ (fun j20 hj20 h => ?_)
        · intro x18 g19 r h
          try dsimp only at h
          refine ev_istore_n (ls' := [(2, .int x18), (0, .ref 0), (1, .int a1)]) dX12_readExpression_72 rfl (by decide) rfl ?_
          refine ev_goto 20 dX12_readExpression_73 (by decide) ?_
          refine ev_sub [1, 2, 0] rfl ?_
          exact ih _ _ _ h
        · refine ev_if_ne 43 dX12_readExpression_33 (by decide) (fun c17 => ?_) (fun c17 => ?_)
          · replace h := am_ifn c17 h
            refine ev_iload_n 2 dX12_readExpression_43 rfl ?_
            refine ev_iconst dX12_readExpression_44 rfl ?_
            refine ev_icmp_ne 55 dX12_readExpression_45 (by decide) (fun c21 => ?_) (fun c21 => ?_)
            · replace h := am_ifn c21 h
              refine ev_iload_n 2 dX12_readExpression_55 rfl ?_
              refine ev_iconst dX12_readExpression_56 rfl ?_
              refine ev_icmp_ne 68 dX12_readExpression_57 (by decide) (fun c22 => ?_) (fun c22 => ?_)
              · replace h := am_ifn c22 h
                refine ev_aload_n 0 dX12_readExpression_68 rfl ?_
                obtain ⟨v23, g24, e25, h⟩ := am_bd_elim h
                refine ev_callVi (v := v23) [] [] dX12_readExpression_69 (tX12_behindTest e25) (by decide) mo_X12_behindTest kM_X12_364 ki_X12_behindTest kv_X12_behindTest (fun h9 => (h9.2.1 0 _ rfl).2) (by decide) rfl (Nat.le_of_ble_eq_true rfl) ?_
                refine ev_sub [0, 1] rfl ?_
                exact hj20 _ _ _ h
              · replace h := am_ifp c22 h
                refine ev_aload_n 0 dX12_readExpression_60 rfl ?_
                refine ev_iload_n 1 dX12_readExpression_61 rfl ?_
                obtain ⟨v26, g27, e28, h⟩ := am_bd_elim h
                refine ev_callVi (v := v26) [.int a1] [] dX12_readExpression_62 (tX12_behindSum e28) (by decide) mo_X12_behindSum kM_X12_360 ki_X12_behindSum kv_X12_behindSum (fun h9 => (h9.2.1 0 _ rfl).2) (by decide) rfl (Nat.le_of_ble_eq_true rfl) ?_
                refine ev_goto 72 dX12_readExpression_65 (by decide) ?_
                refine ev_sub [0, 1] rfl ?_
                exact hj20 _ _ _ h
            · replace h := am_ifp c21 h
              refine ev_aload_n 0 dX12_readExpression_48 rfl ?_
              obtain ⟨v29, g30, e31, h⟩ := am_bd_elim h
              refine ev_callVi (v := v29) [] [] dX12_readExpression_49 (tX12_readPart e31) (by decide) mo_X12_readPart kM_X12_340 ki_X12_readPart kv_X12_readPart (fun h9 => (h9.2.1 0 _ rfl).2) (by decide) rfl (Nat.le_of_ble_eq_true rfl) ?_
              refine ev_goto 72 dX12_readExpression_52 (by decide) ?_
              refine ev_sub [0, 1] rfl ?_
              exact hj20 _ _ _ h
          · replace h := am_ifp c17 h
            refine ev_aload_n 0 dX12_readExpression_36 rfl ?_
            obtain ⟨v32, g33, e34, h⟩ := am_bd_elim h
            refine ev_callVi (v := v32) [] [] dX12_readExpression_37 (tX12_readPlain e34) (by decide) mo_X12_readPlain kM_X12_357 ki_X12_readPlain kv_X12_readPlain (fun h9 => (h9.2.1 0 _ rfl).2) (by decide) rfl (Nat.le_of_ble_eq_true rfl) ?_
            refine ev_goto 72 dX12_readExpression_40 (by decide) ?_
            refine ev_sub [0, 1] rfl ?_
            exact hj20 _ _ _ h
set_option maxRecDepth 100000 in
set_option maxHeartbeats 4000000 in
theorem eX12_readExpression (a1 : Int32) (g : am_G) (r : Unit × am_G) (h : fX12_readExpression a1 g = some r) : am_Ev zr MX12_readExpression 6 0 [(0, .ref 0), (1, .int a1)] [] g (am_rv r) := by
  unfold fX12_readExpression at h
  refine ev_aload_n 0 dX12_readExpression_0 rfl ?_
  refine ev_iconst dX12_readExpression_1 rfl ?_
  refine ev_pfi dX12_readExpression_2 (fun h9 => (h9.2.1 0 _ rfl).2) 29 (by decide) (by decide) kF_X12_281 rfl rfl rfl (fun _ => rfl) ?_
  refine am_let_elim (P := fun g1 => am_Ev zr MX12_readExpression 6 5 [(0, .ref 0), (1, .int a1)] [] g1 (am_rv r)) h fun g1 h => ?_
  refine ev_aload_n 0 dX12_readExpression_5 rfl ?_
  refine ev_iconst dX12_readExpression_6 rfl ?_
  refine ev_pfi dX12_readExpression_7 (fun h9 => (h9.2.1 0 _ rfl).2) 30 (by decide) (by decide) kF_X12_303 rfl rfl rfl (fun _ => rfl) ?_
  refine am_let_elim (P := fun g2 => am_Ev zr MX12_readExpression 6 10 [(0, .ref 0), (1, .int a1)] [] g2 (am_rv r)) h fun g2 h => ?_
  refine ev_iload_n 1 dX12_readExpression_10 rfl ?_
  refine am_jn_elim (fun q9 => ∀ (x4 : Int32) (g5 : am_G) (r : Unit × am_G), q9 x4 g5 = some r → am_Ev zr MX12_readExpression 6 19 [(0, .ref 0), (1, .int a1)] [.int x4] g5 (am_rv r)) h ?_ (fun j6 hj6 h => ?_)
  · intro x4 g5 r h
    try dsimp only at h
    refine ev_istore_n (ls' := [(2, .int x4), (0, .ref 0), (1, .int a1)]) dX12_readExpression_19 rfl (by decide) rfl ?_
    refine ev_sub [1, 2, 0] rfl ?_
    exact tfX12_readExpression_L20 a1 _ _ _ _ h
  · refine ev_if_eq 18 dX12_readExpression_11 (by decide) (fun c3 => ?_) (fun c3 => ?_)
    · replace h := am_ifp c3 h
      refine ev_iconst dX12_readExpression_18 rfl ?_
      refine ev_sub [0, 1] rfl ?_
      exact hj6 _ _ _ h
    · replace h := am_ifn c3 h
      refine ev_iconst dX12_readExpression_14 rfl ?_
      refine ev_goto 19 dX12_readExpression_15 (by decide) ?_
      refine ev_sub [0, 1] rfl ?_
      exact hj6 _ _ _ h
theorem tX12_readExpression {a1 : Int32} {g : am_G} {r : Unit × am_G} (h : fX12_readExpression a1 g = some r) : am_Mt zr MX12_readExpression 6 [.ref 0, .int a1] g (am_rv r) := am_Mt.of rfl (Nat.le_of_ble_eq_true rfl) (eX12_readExpression _ _ _ h)
def fX12_beginText (a1 : Int32) (g : am_G) : Option (Unit × am_G) :=
  am_gd (am_zb a1) <|
  am_let (am_si g 0 20 a1) fun g1 =>
  am_bd (fX12_begin g1) fun u3 g4 =>
  am_let (am_si g4 0 21 (0 : Int32)) fun g6 =>
  am_let (am_si g6 0 23 (0 : Int32)) fun g7 =>
  am_let (am_si g7 0 26 (0 : Int32)) fun g8 =>
  some ((), g8)
set_option maxRecDepth 100000 in
set_option maxHeartbeats 4000000 in
theorem eX12_beginText (a1 : Int32) (g : am_G) (r : Unit × am_G) (h : fX12_beginText a1 g = some r) : am_Ev zr MX12_beginText 3 0 [(0, .ref 0), (1, .int a1)] [] g (am_rv r) := by
  unfold fX12_beginText at h
  refine ev_aload_n 0 dX12_beginText_0 rfl ?_
  refine ev_iload_n 1 dX12_beginText_1 rfl ?_
  obtain ⟨c2, h⟩ := am_gd_elim h
  refine ev_pfi dX12_beginText_2 (fun h9 => (h9.2.1 0 _ rfl).2) 20 (by decide) (by decide) kF_X12_318 rfl (am_zb_n c2) (am_zb_f c2) (fun _ => rfl) ?_
  refine am_let_elim (P := fun g1 => am_Ev zr MX12_beginText 3 5 [(0, .ref 0), (1, .int a1)] [] g1 (am_rv r)) h fun g1 h => ?_
  refine ev_aload_n 0 dX12_beginText_5 rfl ?_
  obtain ⟨u3, g4, e5, h⟩ := am_bd_elim h
  refine ev_callVv [] [] dX12_beginText_6 (tX12_begin e5) (by decide) mo_X12_begin kM_X12_367 ki_X12_begin kv_X12_begin (fun h9 => (h9.2.1 0 _ rfl).2) (by decide) rfl (Nat.le_of_ble_eq_true rfl) ?_
  refine ev_aload_n 0 dX12_beginText_9 rfl ?_
  refine ev_iconst dX12_beginText_10 rfl ?_
  refine ev_pfi dX12_beginText_11 (fun h9 => (h9.2.1 0 _ rfl).2) 21 (by decide) (by decide) kF_X12_370 rfl rfl rfl (fun _ => rfl) ?_
  refine am_let_elim (P := fun g6 => am_Ev zr MX12_beginText 3 14 [(0, .ref 0), (1, .int a1)] [] g6 (am_rv r)) h fun g6 h => ?_
  refine ev_aload_n 0 dX12_beginText_14 rfl ?_
  refine ev_iconst dX12_beginText_15 rfl ?_
  refine ev_pfi dX12_beginText_16 (fun h9 => (h9.2.1 0 _ rfl).2) 23 (by decide) (by decide) kF_X12_278 rfl rfl rfl (fun _ => rfl) ?_
  refine am_let_elim (P := fun g7 => am_Ev zr MX12_beginText 3 19 [(0, .ref 0), (1, .int a1)] [] g7 (am_rv r)) h fun g7 h => ?_
  refine ev_aload_n 0 dX12_beginText_19 rfl ?_
  refine ev_iconst dX12_beginText_20 rfl ?_
  refine ev_pfi dX12_beginText_21 (fun h9 => (h9.2.1 0 _ rfl).2) 26 (by decide) (by decide) kF_X12_309 rfl rfl rfl (fun _ => rfl) ?_
  refine am_let_elim (P := fun g8 => am_Ev zr MX12_beginText 3 24 [(0, .ref 0), (1, .int a1)] [] g8 (am_rv r)) h fun g8 h => ?_
  cases h
  exact ev_ret dX12_beginText_24 rfl
theorem tX12_beginText {a1 : Int32} {g : am_G} {r : Unit × am_G} (h : fX12_beginText a1 g = some r) : am_Mt zr MX12_beginText 3 [.ref 0, .int a1] g (am_rv r) := am_Mt.of rfl (Nat.le_of_ble_eq_true rfl) (eX12_beginText _ _ _ h)
def fX12_endText (g : am_G) : Option (Unit × am_G) :=
  if (am_I g 0 19) = 0 then (
    if (am_I g 0 16) = 0 then (
      am_let (am_si g 0 20 (0 : Int32)) fun g5 =>
      am_let (am_si g5 0 13 (0 : Int32)) fun g6 =>
      some ((), g6))
    else (
      am_bd (fX12_must (0 : Int32) g) fun u7 g8 =>
      am_let (am_si g8 0 20 (0 : Int32)) fun g10 =>
      am_let (am_si g10 0 13 (0 : Int32)) fun g11 =>
      some ((), g11)))
  else (
    am_let (am_si g 0 20 (0 : Int32)) fun g2 =>
    am_let (am_si g2 0 13 (0 : Int32)) fun g3 =>
    some ((), g3))
set_option maxRecDepth 100000 in
set_option maxHeartbeats 4000000 in
theorem eX12_endText (g : am_G) (r : Unit × am_G) (h : fX12_endText g = some r) : am_Ev zr MX12_endText 3 0 [(0, .ref 0)] [] g (am_rv r) := by
  unfold fX12_endText at h
  refine ev_aload_n 0 dX12_endText_0 rfl ?_
  refine ev_gf (v := .int (am_I g 0 19)) dX12_endText_1 (fun h9 => (h9.2.1 0 _ rfl).2) 19 (by decide) (by decide) kF_X12_239 (fun _ => rfl) ?_
  refine ev_if_ne 19 dX12_endText_4 (by decide) (fun c1 => ?_) (fun c1 => ?_)
  · replace h := am_ifn c1 h
    refine ev_aload_n 0 dX12_endText_19 rfl ?_
    refine ev_iconst dX12_endText_20 rfl ?_
    refine ev_pfi dX12_endText_21 (fun h9 => (h9.2.1 0 _ rfl).2) 20 (by decide) (by decide) kF_X12_318 rfl rfl rfl (fun _ => rfl) ?_
    refine am_let_elim (P := fun g2 => am_Ev zr MX12_endText 3 24 [(0, .ref 0)] [] g2 (am_rv r)) h fun g2 h => ?_
    refine ev_aload_n 0 dX12_endText_24 rfl ?_
    refine ev_iconst dX12_endText_25 rfl ?_
    refine ev_pfi dX12_endText_26 (fun h9 => (h9.2.1 0 _ rfl).2) 13 (by decide) (by decide) kF_X12_227 rfl rfl rfl (fun _ => rfl) ?_
    refine am_let_elim (P := fun g3 => am_Ev zr MX12_endText 3 29 [(0, .ref 0)] [] g3 (am_rv r)) h fun g3 h => ?_
    cases h
    exact ev_ret dX12_endText_29 rfl
  · replace h := am_ifp c1 h
    refine ev_aload_n 0 dX12_endText_7 rfl ?_
    refine ev_gf (v := .int (am_I g 0 16)) dX12_endText_8 (fun h9 => (h9.2.1 0 _ rfl).2) 16 (by decide) (by decide) kF_X12_259 (fun _ => rfl) ?_
    refine ev_if_eq 19 dX12_endText_11 (by decide) (fun c4 => ?_) (fun c4 => ?_)
    · replace h := am_ifp c4 h
      refine ev_aload_n 0 dX12_endText_19 rfl ?_
      refine ev_iconst dX12_endText_20 rfl ?_
      refine ev_pfi dX12_endText_21 (fun h9 => (h9.2.1 0 _ rfl).2) 20 (by decide) (by decide) kF_X12_318 rfl rfl rfl (fun _ => rfl) ?_
      refine am_let_elim (P := fun g5 => am_Ev zr MX12_endText 3 24 [(0, .ref 0)] [] g5 (am_rv r)) h fun g5 h => ?_
      refine ev_aload_n 0 dX12_endText_24 rfl ?_
      refine ev_iconst dX12_endText_25 rfl ?_
      refine ev_pfi dX12_endText_26 (fun h9 => (h9.2.1 0 _ rfl).2) 13 (by decide) (by decide) kF_X12_227 rfl rfl rfl (fun _ => rfl) ?_
      refine am_let_elim (P := fun g6 => am_Ev zr MX12_endText 3 29 [(0, .ref 0)] [] g6 (am_rv r)) h fun g6 h => ?_
      cases h
      exact ev_ret dX12_endText_29 rfl
    · replace h := am_ifn c4 h
      refine ev_aload_n 0 dX12_endText_14 rfl ?_
      refine ev_iconst dX12_endText_15 rfl ?_
      obtain ⟨u7, g8, e9, h⟩ := am_bd_elim h
      refine ev_callVv [.int (0 : Int32)] [] dX12_endText_16 (tX12_must e9) (by decide) mo_X12_must kM_X12_274 ki_X12_must kv_X12_must (fun h9 => (h9.2.1 0 _ rfl).2) (by decide) rfl (Nat.le_of_ble_eq_true rfl) ?_
      refine ev_aload_n 0 dX12_endText_19 rfl ?_
      refine ev_iconst dX12_endText_20 rfl ?_
      refine ev_pfi dX12_endText_21 (fun h9 => (h9.2.1 0 _ rfl).2) 20 (by decide) (by decide) kF_X12_318 rfl rfl rfl (fun _ => rfl) ?_
      refine am_let_elim (P := fun g10 => am_Ev zr MX12_endText 3 24 [(0, .ref 0)] [] g10 (am_rv r)) h fun g10 h => ?_
      refine ev_aload_n 0 dX12_endText_24 rfl ?_
      refine ev_iconst dX12_endText_25 rfl ?_
      refine ev_pfi dX12_endText_26 (fun h9 => (h9.2.1 0 _ rfl).2) 13 (by decide) (by decide) kF_X12_227 rfl rfl rfl (fun _ => rfl) ?_
      refine am_let_elim (P := fun g11 => am_Ev zr MX12_endText 3 29 [(0, .ref 0)] [] g11 (am_rv r)) h fun g11 h => ?_
      cases h
      exact ev_ret dX12_endText_29 rfl
theorem tX12_endText {g : am_G} {r : Unit × am_G} (h : fX12_endText g = some r) : am_Mt zr MX12_endText 3 [.ref 0] g (am_rv r) := am_Mt.of rfl (Nat.le_of_ble_eq_true rfl) (eX12_endText _ _ h)
def fX12_readLaw_L4 (k : Int32 → am_G → Option (Unit × am_G)) : Nat → Int32 → Int32 → am_G → Option (Unit × am_G)
  | 0, _, _, _ => none
  | n + 1, x1, x2, g3 =>
    if (4 : Int32) ≤ x2 then (
      k x1 g3)
    else (
      am_gd (am_in x2 4) <|
      am_bd (fX12_isWord (am_L g3 17 x2.toNatClampNeg) g3) fun v8 g9 =>
      am_jn (fun (x12 : Int32) (g13 : am_G) =>
        am_let (x2 + (1 : Int32)) fun x15 =>
        fX12_readLaw_L4 k n x12 x15 g13) fun j14 =>
      if v8 = 0 then (
        j14 x1 g9)
      else (
        j14 x2 g9))
def fX12_readLaw_L75 (k : am_G → Option (Unit × am_G)) (x16 : Int32) (x26 : Int32) : Nat → Int32 → am_G → Option (Unit × am_G)
  | 0, _, _ => none
  | n + 1, x27, g28 =>
    if (8 : Int32) ≤ x27 then (
      k g28)
    else (
      am_gd (am_in (x26 + x27) 96) <|
      am_let (am_si g28 10 (x26 + x27).toNatClampNeg (0 : Int32)) fun g32 =>
      am_let (x27 + (1 : Int32)) fun x33 =>
      fX12_readLaw_L75 k x16 x26 n x33 g32)
def fX12_readLaw (g : am_G) : Option (Unit × am_G) :=
  fX12_readLaw_L4 (fun (x16 : Int32) (g17 : am_G) =>
    am_jn (fun (x19 : Int32) (g20 : am_G) =>
      am_bd (fX12_must x19 g20) fun u22 g23 =>
      if (am_I g23 0 19) = 0 then (
        am_let ((8 : Int32) * (am_I g23 0 21)) fun x26 =>
        fX12_readLaw_L75 (fun  (g34 : am_G) =>
          am_gd (am_in x26 96) <|
          am_let (am_si g34 10 x26.toNatClampNeg x16) fun g36 =>
          am_let (am_si g36 0 21 ((am_I g36 0 21) + (1 : Int32))) fun g37 =>
          am_gd (am_in (x26 + (3 : Int32)) 96) <|
          am_let (am_si g37 10 (x26 + (3 : Int32)).toNatClampNeg (am_I g37 0 23)) fun g39 =>
          am_jn (fun  (g41 : am_G) =>
            am_gd (am_in (x26 + (4 : Int32)) 96) <|
            am_let (am_si g41 10 (x26 + (4 : Int32)).toNatClampNeg (am_I g41 0 23)) fun g44 =>
            am_gd (am_in (x26 + (5 : Int32)) 96) <|
            am_let (am_si g44 10 (x26 + (5 : Int32)).toNatClampNeg (am_I g44 0 23)) fun g46 =>
            if (am_I g46 0 19) = 0 then (
              am_bd (fX12_isWord (294 : Int64) g46) fun v50 g51 =>
              if v50 = 0 then (
                am_gd (am_in (x26 + (6 : Int32)) 96) <|
                am_let (am_si g51 10 (x26 + (6 : Int32)).toNatClampNeg (am_I g51 0 23)) fun g55 =>
                some ((), g55))
              else (
                am_bd (fX12_next g51) fun u56 g57 =>
                am_bd (fX12_readExpression (1 : Int32) g57) fun u59 g60 =>
                am_gd (am_in (x26 + (6 : Int32)) 96) <|
                am_let (am_si g60 10 (x26 + (6 : Int32)).toNatClampNeg (am_I g60 0 23)) fun g63 =>
                some ((), g63)))
            else (
              am_gd (am_in (x26 + (6 : Int32)) 96) <|
              am_let (am_si g46 10 (x26 + (6 : Int32)).toNatClampNeg (am_I g46 0 23)) fun g49 =>
              some ((), g49))) fun j42 =>
          if x16 = (3 : Int32) then (
            j42 g39)
          else (
            am_bd (fX12_readExpression (0 : Int32) g39) fun u64 g65 =>
            j42 g65)) x16 x26 am_fu (0 : Int32) g23)
      else (
        some ((), g23))) fun j21 =>
    am_jn (fun  (g67 : am_G) =>
      j21 (0 : Int32) g67) fun j68 =>
    if x16 = (-1 : Int32) then (
      j68 g17)
    else (
      if (12 : Int32) ≤ (am_I g17 0 21) then (
        j68 g17)
      else (
        j21 (1 : Int32) g17))) am_fu (-1 : Int32) (0 : Int32) g
set_option maxRecDepth 100000 in
set_option maxHeartbeats 4000000 in
theorem tfX12_readLaw_L4  {k : Int32 → am_G → Option (Unit × am_G)} (hk : ∀ (x4 : Int32) (g5 : am_G) (r : Unit × am_G), k x4 g5 = some r → am_Ev zr MX12_readLaw 7 34 [(0, .ref 0), (1, .int x4)] [] g5 (am_rv r)) : ∀ (n : Nat) (x1 : Int32) (x2 : Int32) (g3 : am_G) (r : Unit × am_G), fX12_readLaw_L4 k n x1 x2 g3 = some r → am_Ev zr MX12_readLaw 7 4 [(0, .ref 0), (1, .int x1), (2, .int x2)] [] g3 (am_rv r) := by
  intro n
  induction n with
  | zero => intro x1 x2 g3 r h; exact nomatch (show (none : Option (Unit × am_G)) = some r from h)
  | succ n ih =>
    intro x1 x2 g3 r h
    rw [fX12_readLaw_L4] at h
    refine ev_iload_n 2 dX12_readLaw_4 rfl ?_
    refine ev_iconst dX12_readLaw_5 rfl ?_
    refine ev_icmp_ge 34 dX12_readLaw_6 (by decide) (fun c6 => ?_) (fun c6 => ?_)
    · replace h := am_ifp c6 h
      refine ev_sub [0, 1] rfl ?_
      exact hk _ _ _ h
    · replace h := am_ifn c6 h
      refine ev_aload_n 0 dX12_readLaw_9 rfl ?_
      refine ev_aload_n 0 dX12_readLaw_10 rfl ?_
      refine ev_gf (v := .ref 17) dX12_readLaw_11 (fun h9 => (h9.2.1 0 _ rfl).2) 33 (by decide) (by decide) kF_X12_102 (fun h9 => congrArg va_rf (h9.2.2 0 33 17 rfl)) ?_
      refine ev_iload_n 2 dX12_readLaw_14 rfl ?_
      obtain ⟨c7, h⟩ := am_gd_elim h
      refine ev_lald dX12_readLaw_15 (fun h9 => (h9.2.1 17 _ rfl).2) (am_in_vp c7) ?_
      obtain ⟨v8, g9, e10, h⟩ := am_bd_elim h
      refine ev_callVi (v := v8) [.long (am_L g3 17 x2.toNatClampNeg)] [] dX12_readLaw_16 (tX12_isWord e10) (by decide) mo_X12_isWord kM_X12_299 ki_X12_isWord kv_X12_isWord (fun h9 => (h9.2.1 0 _ rfl).2) (by decide) rfl (Nat.le_of_ble_eq_true rfl) ?_
      refine am_jn_elim (fun q9 => ∀ (x12 : Int32) (g13 : am_G) (r : Unit × am_G), q9 x12 g13 = some r → am_Ev zr MX12_readLaw 7 27 [(0, .ref 0), (2, .int x2)] [.int x12] g13 (am_rv r)) h ?_ (fun j14 hj14 h => ?_)
      · intro x12 g13 r h
        try dsimp only at h
        refine ev_istore_n (ls' := [(1, .int x12), (0, .ref 0), (2, .int x2)]) dX12_readLaw_27 rfl (by decide) rfl ?_
        obtain ⟨x15, ex15, h⟩ := am_let_ex h
        refine ev_iinc (ls' := [(2, .int x15), (1, .int x12), (0, .ref 0)]) 2 dX12_readLaw_28 rfl ex15 (by decide) rfl ?_
        refine ev_goto 4 dX12_readLaw_31 (by decide) ?_
        refine ev_sub [2, 1, 0] rfl ?_
        exact ih _ _ _ _ h
      · refine ev_if_eq 26 dX12_readLaw_19 (by decide) (fun c11 => ?_) (fun c11 => ?_)
        · replace h := am_ifp c11 h
          refine ev_iload_n 1 dX12_readLaw_26 rfl ?_
          refine ev_sub [0, 2] rfl ?_
          exact hj14 _ _ _ h
        · replace h := am_ifn c11 h
          refine ev_iload_n 2 dX12_readLaw_22 rfl ?_
          refine ev_goto 27 dX12_readLaw_23 (by decide) ?_
          refine ev_sub [0, 2] rfl ?_
          exact hj14 _ _ _ h
set_option maxRecDepth 100000 in
set_option maxHeartbeats 4000000 in
theorem tfX12_readLaw_L75  {k : am_G → Option (Unit × am_G)} (x16 : Int32) (x26 : Int32) (hk : ∀  (g29 : am_G) (r : Unit × am_G), k  g29 = some r → am_Ev zr MX12_readLaw 7 96 [(0, .ref 0), (1, .int x16), (2, .int x26)] [] g29 (am_rv r)) : ∀ (n : Nat) (x27 : Int32) (g28 : am_G) (r : Unit × am_G), fX12_readLaw_L75 k x16 x26 n x27 g28 = some r → am_Ev zr MX12_readLaw 7 75 [(0, .ref 0), (1, .int x16), (2, .int x26), (3, .int x27)] [] g28 (am_rv r) := by
  intro n
  induction n with
  | zero => intro x27 g28 r h; exact nomatch (show (none : Option (Unit × am_G)) = some r from h)
  | succ n ih =>
    intro x27 g28 r h
    rw [fX12_readLaw_L75] at h
    refine ev_iload_n 3 dX12_readLaw_75 rfl ?_
    refine ev_bipush dX12_readLaw_76 rfl ?_
    refine ev_icmp_ge 96 dX12_readLaw_78 (by decide) (fun c30 => ?_) (fun c30 => ?_)
    · replace h := am_ifp c30 h
      refine ev_sub [0, 1, 2] rfl ?_
      exact hk  _ _ h
    · replace h := am_ifn c30 h
      refine ev_aload_n 0 dX12_readLaw_81 rfl ?_
      refine ev_gf (v := .ref 10) dX12_readLaw_82 (fun h9 => (h9.2.1 0 _ rfl).2) 22 (by decide) (by decide) kF_X12_42 (fun h9 => congrArg va_rf (h9.2.2 0 22 10 rfl)) ?_
      refine ev_iload_n 2 dX12_readLaw_85 rfl ?_
      refine ev_iload_n 3 dX12_readLaw_86 rfl ?_
      refine ev_iadd dX12_readLaw_87 ?_
      refine ev_iconst dX12_readLaw_88 rfl ?_
      obtain ⟨c31, h⟩ := am_gd_elim h
      refine ev_iast dX12_readLaw_89 (fun h9 => (h9.2.1 10 _ rfl).2) (am_in_vp c31) ?_
      refine am_let_elim (P := fun g32 => am_Ev zr MX12_readLaw 7 90 [(0, .ref 0), (1, .int x16), (2, .int x26), (3, .int x27)] [] g32 (am_rv r)) h fun g32 h => ?_
      obtain ⟨x33, ex33, h⟩ := am_let_ex h
      refine ev_iinc (ls' := [(3, .int x33), (0, .ref 0), (1, .int x16), (2, .int x26)]) 3 dX12_readLaw_90 rfl ex33 (by decide) rfl ?_
      refine ev_goto 75 dX12_readLaw_93 (by decide) ?_
      refine ev_sub [1, 2, 3, 0] rfl ?_
      exact ih _ _ _ h
set_option maxRecDepth 100000 in
set_option maxHeartbeats 4000000 in
theorem eX12_readLaw (g : am_G) (r : Unit × am_G) (h : fX12_readLaw g = some r) : am_Ev zr MX12_readLaw 7 0 [(0, .ref 0)] [] g (am_rv r) := by
  unfold fX12_readLaw at h
  refine ev_iconst dX12_readLaw_0 rfl ?_
  refine ev_istore_n (ls' := [(1, .int (-1 : Int32)), (0, .ref 0)]) dX12_readLaw_1 rfl (by decide) rfl ?_
  refine ev_iconst dX12_readLaw_2 rfl ?_
  refine ev_istore_n (ls' := [(2, .int (0 : Int32)), (1, .int (-1 : Int32)), (0, .ref 0)]) dX12_readLaw_3 rfl (by decide) rfl ?_
  refine ev_sub [2, 1, 0] rfl ?_
  refine tfX12_readLaw_L4 ?_ _ _ _ _ _ h
  intro x16 g17 r h
  try dsimp only at h
  refine ev_aload_n 0 dX12_readLaw_34 rfl ?_
  refine ev_iload_n 1 dX12_readLaw_35 rfl ?_
  refine ev_iconst dX12_readLaw_36 rfl ?_
  refine am_jn_elim (fun q9 => ∀ (x19 : Int32) (g20 : am_G) (r : Unit × am_G), q9 x19 g20 = some r → am_Ev zr MX12_readLaw 7 54 [(0, .ref 0), (1, .int x16)] [.int x19, .ref 0] g20 (am_rv r)) h ?_ (fun j21 hj21 h => ?_)
  · intro x19 g20 r h
    try dsimp only at h
    obtain ⟨u22, g23, e24, h⟩ := am_bd_elim h
    refine ev_callVv [.int x19] [] dX12_readLaw_54 (tX12_must e24) (by decide) mo_X12_must kM_X12_274 ki_X12_must kv_X12_must (fun h9 => (h9.2.1 0 _ rfl).2) (by decide) rfl (Nat.le_of_ble_eq_true rfl) ?_
    refine ev_aload_n 0 dX12_readLaw_57 rfl ?_
    refine ev_gf (v := .int (am_I g23 0 19)) dX12_readLaw_58 (fun h9 => (h9.2.1 0 _ rfl).2) 19 (by decide) (by decide) kF_X12_239 (fun _ => rfl) ?_
    refine ev_if_eq 65 dX12_readLaw_61 (by decide) (fun c25 => ?_) (fun c25 => ?_)
    · replace h := am_ifp c25 h
      refine ev_bipush dX12_readLaw_65 rfl ?_
      refine ev_aload_n 0 dX12_readLaw_67 rfl ?_
      refine ev_gf (v := .int (am_I g23 0 21)) dX12_readLaw_68 (fun h9 => (h9.2.1 0 _ rfl).2) 21 (by decide) (by decide) kF_X12_370 (fun _ => rfl) ?_
      refine ev_imul dX12_readLaw_71 ?_
      refine am_let_elim (P := fun x26 => am_Ev zr MX12_readLaw 7 72 [(0, .ref 0), (1, .int x16)] [.int x26] g23 (am_rv r)) h fun x26 h => ?_
      refine ev_istore_n (ls' := [(2, .int x26), (0, .ref 0), (1, .int x16)]) dX12_readLaw_72 rfl (by decide) rfl ?_
      refine ev_iconst dX12_readLaw_73 rfl ?_
      refine ev_istore_n (ls' := [(3, .int (0 : Int32)), (2, .int x26), (0, .ref 0), (1, .int x16)]) dX12_readLaw_74 rfl (by decide) rfl ?_
      refine ev_sub [2, 3, 1, 0] rfl ?_
      refine tfX12_readLaw_L75 x16 x26 ?_ _ _ _ _ h
      intro  g34 r h
      try dsimp only at h
      refine ev_aload_n 0 dX12_readLaw_96 rfl ?_
      refine ev_gf (v := .ref 10) dX12_readLaw_97 (fun h9 => (h9.2.1 0 _ rfl).2) 22 (by decide) (by decide) kF_X12_42 (fun h9 => congrArg va_rf (h9.2.2 0 22 10 rfl)) ?_
      refine ev_iload_n 2 dX12_readLaw_100 rfl ?_
      refine ev_iload_n 1 dX12_readLaw_101 rfl ?_
      obtain ⟨c35, h⟩ := am_gd_elim h
      refine ev_iast dX12_readLaw_102 (fun h9 => (h9.2.1 10 _ rfl).2) (am_in_vp c35) ?_
      refine am_let_elim (P := fun g36 => am_Ev zr MX12_readLaw 7 103 [(0, .ref 0), (1, .int x16), (2, .int x26)] [] g36 (am_rv r)) h fun g36 h => ?_
      refine ev_aload_n 0 dX12_readLaw_103 rfl ?_
      refine ev_dup dX12_readLaw_104 rfl ?_
      refine ev_gf (v := .int (am_I g36 0 21)) dX12_readLaw_105 (fun h9 => (h9.2.1 0 _ rfl).2) 21 (by decide) (by decide) kF_X12_370 (fun _ => rfl) ?_
      refine ev_iconst dX12_readLaw_108 rfl ?_
      refine ev_iadd dX12_readLaw_109 ?_
      refine ev_pfi dX12_readLaw_110 (fun h9 => (h9.2.1 0 _ rfl).2) 21 (by decide) (by decide) kF_X12_370 rfl rfl rfl (fun _ => rfl) ?_
      refine am_let_elim (P := fun g37 => am_Ev zr MX12_readLaw 7 113 [(0, .ref 0), (1, .int x16), (2, .int x26)] [] g37 (am_rv r)) h fun g37 h => ?_
      refine ev_aload_n 0 dX12_readLaw_113 rfl ?_
      refine ev_gf (v := .ref 10) dX12_readLaw_114 (fun h9 => (h9.2.1 0 _ rfl).2) 22 (by decide) (by decide) kF_X12_42 (fun h9 => congrArg va_rf (h9.2.2 0 22 10 rfl)) ?_
      refine ev_iload_n 2 dX12_readLaw_117 rfl ?_
      refine ev_iconst dX12_readLaw_118 rfl ?_
      refine ev_iadd dX12_readLaw_119 ?_
      refine ev_aload_n 0 dX12_readLaw_120 rfl ?_
      refine ev_gf (v := .int (am_I g37 0 23)) dX12_readLaw_121 (fun h9 => (h9.2.1 0 _ rfl).2) 23 (by decide) (by decide) kF_X12_278 (fun _ => rfl) ?_
      obtain ⟨c38, h⟩ := am_gd_elim h
      refine ev_iast dX12_readLaw_124 (fun h9 => (h9.2.1 10 _ rfl).2) (am_in_vp c38) ?_
      refine am_let_elim (P := fun g39 => am_Ev zr MX12_readLaw 7 125 [(0, .ref 0), (1, .int x16), (2, .int x26)] [] g39 (am_rv r)) h fun g39 h => ?_
      refine ev_iload_n 1 dX12_readLaw_125 rfl ?_
      refine ev_iconst dX12_readLaw_126 rfl ?_
      refine am_jn_elim (fun q9 => ∀  (g41 : am_G) (r : Unit × am_G), q9  g41 = some r → am_Ev zr MX12_readLaw 7 135 [(0, .ref 0), (2, .int x26)] [] g41 (am_rv r)) h ?_ (fun j42 hj42 h => ?_)
      · intro  g41 r h
        try dsimp only at h
        refine ev_aload_n 0 dX12_readLaw_135 rfl ?_
        refine ev_gf (v := .ref 10) dX12_readLaw_136 (fun h9 => (h9.2.1 0 _ rfl).2) 22 (by decide) (by decide) kF_X12_42 (fun h9 => congrArg va_rf (h9.2.2 0 22 10 rfl)) ?_
        refine ev_iload_n 1 dX12_readLaw_139 rfl ?_
        refine ev_iconst dX12_readLaw_140 rfl ?_
        refine ev_iadd dX12_readLaw_141 ?_
        refine ev_aload_n 0 dX12_readLaw_142 rfl ?_
        refine ev_gf (v := .int (am_I g41 0 23)) dX12_readLaw_143 (fun h9 => (h9.2.1 0 _ rfl).2) 23 (by decide) (by decide) kF_X12_278 (fun _ => rfl) ?_
        obtain ⟨c43, h⟩ := am_gd_elim h
        refine ev_iast dX12_readLaw_146 (fun h9 => (h9.2.1 10 _ rfl).2) (am_in_vp c43) ?_
        refine am_let_elim (P := fun g44 => am_Ev zr MX12_readLaw 7 147 [(0, .ref 0), (2, .int x26)] [] g44 (am_rv r)) h fun g44 h => ?_
        refine ev_aload_n 0 dX12_readLaw_147 rfl ?_
        refine ev_gf (v := .ref 10) dX12_readLaw_148 (fun h9 => (h9.2.1 0 _ rfl).2) 22 (by decide) (by decide) kF_X12_42 (fun h9 => congrArg va_rf (h9.2.2 0 22 10 rfl)) ?_
        refine ev_iload_n 1 dX12_readLaw_151 rfl ?_
        refine ev_iconst dX12_readLaw_152 rfl ?_
        refine ev_iadd dX12_readLaw_153 ?_
        refine ev_aload_n 0 dX12_readLaw_154 rfl ?_
        refine ev_gf (v := .int (am_I g44 0 23)) dX12_readLaw_155 (fun h9 => (h9.2.1 0 _ rfl).2) 23 (by decide) (by decide) kF_X12_278 (fun _ => rfl) ?_
        obtain ⟨c45, h⟩ := am_gd_elim h
        refine ev_iast dX12_readLaw_158 (fun h9 => (h9.2.1 10 _ rfl).2) (am_in_vp c45) ?_
        refine am_let_elim (P := fun g46 => am_Ev zr MX12_readLaw 7 159 [(0, .ref 0), (2, .int x26)] [] g46 (am_rv r)) h fun g46 h => ?_
        refine ev_aload_n 0 dX12_readLaw_159 rfl ?_
        refine ev_gf (v := .int (am_I g46 0 19)) dX12_readLaw_160 (fun h9 => (h9.2.1 0 _ rfl).2) 19 (by decide) (by decide) kF_X12_239 (fun _ => rfl) ?_
        refine ev_if_ne 185 dX12_readLaw_163 (by decide) (fun c47 => ?_) (fun c47 => ?_)
        · replace h := am_ifn c47 h
          refine ev_aload_n 0 dX12_readLaw_185 rfl ?_
          refine ev_gf (v := .ref 10) dX12_readLaw_186 (fun h9 => (h9.2.1 0 _ rfl).2) 22 (by decide) (by decide) kF_X12_42 (fun h9 => congrArg va_rf (h9.2.2 0 22 10 rfl)) ?_
          refine ev_iload_n 1 dX12_readLaw_189 rfl ?_
          refine ev_bipush dX12_readLaw_190 rfl ?_
          refine ev_iadd dX12_readLaw_192 ?_
          refine ev_aload_n 0 dX12_readLaw_193 rfl ?_
          refine ev_gf (v := .int (am_I g46 0 23)) dX12_readLaw_194 (fun h9 => (h9.2.1 0 _ rfl).2) 23 (by decide) (by decide) kF_X12_278 (fun _ => rfl) ?_
          obtain ⟨c48, h⟩ := am_gd_elim h
          refine ev_iast dX12_readLaw_197 (fun h9 => (h9.2.1 10 _ rfl).2) (am_in_vp c48) ?_
          refine am_let_elim (P := fun g49 => am_Ev zr MX12_readLaw 7 198 [(0, .ref 0), (2, .int x26)] [] g49 (am_rv r)) h fun g49 h => ?_
          cases h
          exact ev_ret dX12_readLaw_198 rfl
        · replace h := am_ifp c47 h
          refine ev_aload_n 0 dX12_readLaw_166 rfl ?_
          refine ev_ldc2 dX12_readLaw_167 kL_X12_376 ?_
          obtain ⟨v50, g51, e52, h⟩ := am_bd_elim h
          refine ev_callVi (v := v50) [.long (294 : Int64)] [] dX12_readLaw_170 (tX12_isWord e52) (by decide) mo_X12_isWord kM_X12_299 ki_X12_isWord kv_X12_isWord (fun h9 => (h9.2.1 0 _ rfl).2) (by decide) rfl (Nat.le_of_ble_eq_true rfl) ?_
          refine ev_if_eq 185 dX12_readLaw_173 (by decide) (fun c53 => ?_) (fun c53 => ?_)
          · replace h := am_ifp c53 h
            refine ev_aload_n 0 dX12_readLaw_185 rfl ?_
            refine ev_gf (v := .ref 10) dX12_readLaw_186 (fun h9 => (h9.2.1 0 _ rfl).2) 22 (by decide) (by decide) kF_X12_42 (fun h9 => congrArg va_rf (h9.2.2 0 22 10 rfl)) ?_
            refine ev_iload_n 1 dX12_readLaw_189 rfl ?_
            refine ev_bipush dX12_readLaw_190 rfl ?_
            refine ev_iadd dX12_readLaw_192 ?_
            refine ev_aload_n 0 dX12_readLaw_193 rfl ?_
            refine ev_gf (v := .int (am_I g51 0 23)) dX12_readLaw_194 (fun h9 => (h9.2.1 0 _ rfl).2) 23 (by decide) (by decide) kF_X12_278 (fun _ => rfl) ?_
            obtain ⟨c54, h⟩ := am_gd_elim h
            refine ev_iast dX12_readLaw_197 (fun h9 => (h9.2.1 10 _ rfl).2) (am_in_vp c54) ?_
            refine am_let_elim (P := fun g55 => am_Ev zr MX12_readLaw 7 198 [(0, .ref 0), (2, .int x26)] [] g55 (am_rv r)) h fun g55 h => ?_
            cases h
            exact ev_ret dX12_readLaw_198 rfl
          · replace h := am_ifn c53 h
            refine ev_aload_n 0 dX12_readLaw_176 rfl ?_
            obtain ⟨u56, g57, e58, h⟩ := am_bd_elim h
            refine ev_callVv [] [] dX12_readLaw_177 (tX12_next e58) (by decide) mo_X12_next kM_X12_243 ki_X12_next kv_X12_next (fun h9 => (h9.2.1 0 _ rfl).2) (by decide) rfl (Nat.le_of_ble_eq_true rfl) ?_
            refine ev_aload_n 0 dX12_readLaw_180 rfl ?_
            refine ev_iconst dX12_readLaw_181 rfl ?_
            obtain ⟨u59, g60, e61, h⟩ := am_bd_elim h
            refine ev_callVv [.int (1 : Int32)] [] dX12_readLaw_182 (tX12_readExpression e61) (by decide) mo_X12_readExpression kM_X12_373 ki_X12_readExpression kv_X12_readExpression (fun h9 => (h9.2.1 0 _ rfl).2) (by decide) rfl (Nat.le_of_ble_eq_true rfl) ?_
            refine ev_aload_n 0 dX12_readLaw_185 rfl ?_
            refine ev_gf (v := .ref 10) dX12_readLaw_186 (fun h9 => (h9.2.1 0 _ rfl).2) 22 (by decide) (by decide) kF_X12_42 (fun h9 => congrArg va_rf (h9.2.2 0 22 10 rfl)) ?_
            refine ev_iload_n 1 dX12_readLaw_189 rfl ?_
            refine ev_bipush dX12_readLaw_190 rfl ?_
            refine ev_iadd dX12_readLaw_192 ?_
            refine ev_aload_n 0 dX12_readLaw_193 rfl ?_
            refine ev_gf (v := .int (am_I g60 0 23)) dX12_readLaw_194 (fun h9 => (h9.2.1 0 _ rfl).2) 23 (by decide) (by decide) kF_X12_278 (fun _ => rfl) ?_
            obtain ⟨c62, h⟩ := am_gd_elim h
            refine ev_iast dX12_readLaw_197 (fun h9 => (h9.2.1 10 _ rfl).2) (am_in_vp c62) ?_
            refine am_let_elim (P := fun g63 => am_Ev zr MX12_readLaw 7 198 [(0, .ref 0), (2, .int x26)] [] g63 (am_rv r)) h fun g63 h => ?_
            cases h
            exact ev_ret dX12_readLaw_198 rfl
      · refine ev_icmp_eq 135 dX12_readLaw_127 (by decide) (fun c40 => ?_) (fun c40 => ?_)
        · replace h := am_ifp c40 h
          refine ev_sub [0, 2] rfl ?_
          exact hj42  _ _ h
        · replace h := am_ifn c40 h
          refine ev_aload_n 0 dX12_readLaw_130 rfl ?_
          refine ev_iconst dX12_readLaw_131 rfl ?_
          obtain ⟨u64, g65, e66, h⟩ := am_bd_elim h
          refine ev_callVv [.int (0 : Int32)] [] dX12_readLaw_132 (tX12_readExpression e66) (by decide) mo_X12_readExpression kM_X12_373 ki_X12_readExpression kv_X12_readExpression (fun h9 => (h9.2.1 0 _ rfl).2) (by decide) rfl (Nat.le_of_ble_eq_true rfl) ?_
          refine ev_sub [0, 2] rfl ?_
          exact hj42  _ _ h
    · replace h := am_ifn c25 h
      cases h
      exact ev_ret dX12_readLaw_64 rfl
  · refine am_jn_elim (fun q9 => ∀  (g67 : am_G) (r : Unit × am_G), q9  g67 = some r → am_Ev zr MX12_readLaw 7 53 [(0, .ref 0), (1, .int x16)] [.ref 0] g67 (am_rv r)) h ?_ (fun j68 hj68 h => ?_)
    · intro  g67 r h
      try dsimp only at h
      refine ev_iconst dX12_readLaw_53 rfl ?_
      refine ev_sub [0, 1] rfl ?_
      exact hj21 _ _ _ h
    · refine ev_icmp_eq 53 dX12_readLaw_37 (by decide) (fun c18 => ?_) (fun c18 => ?_)
      · replace h := am_ifp c18 h
        refine ev_sub [0, 1] rfl ?_
        exact hj68  _ _ h
      · replace h := am_ifn c18 h
        refine ev_aload_n 0 dX12_readLaw_40 rfl ?_
        refine ev_gf (v := .int (am_I g17 0 21)) dX12_readLaw_41 (fun h9 => (h9.2.1 0 _ rfl).2) 21 (by decide) (by decide) kF_X12_370 (fun _ => rfl) ?_
        refine ev_bipush dX12_readLaw_44 rfl ?_
        refine ev_icmp_ge 53 dX12_readLaw_46 (by decide) (fun c69 => ?_) (fun c69 => ?_)
        · replace h := am_ifp c69 h
          refine ev_sub [0, 1] rfl ?_
          exact hj68  _ _ h
        · replace h := am_ifn c69 h
          refine ev_iconst dX12_readLaw_49 rfl ?_
          refine ev_goto 54 dX12_readLaw_50 (by decide) ?_
          refine ev_sub [0, 1] rfl ?_
          exact hj21 _ _ _ h
theorem tX12_readLaw {g : am_G} {r : Unit × am_G} (h : fX12_readLaw g = some r) : am_Mt zr MX12_readLaw 7 [.ref 0] g (am_rv r) := am_Mt.of rfl (Nat.le_of_ble_eq_true rfl) (eX12_readLaw _ _ h)
