def fX3_note (a1 : Int32) (a2 : Int32) (g : am_G) : Option (Unit × am_G) :=
  am_jn (fun  (g2 : am_G) =>
    if a1 = (am_I g2 39 7) then (
      am_let (am_si g2 39 8 ((am_I g2 39 8) + a2)) fun g5 =>
      some ((), g5))
    else (
      some ((), g2))) fun j3 =>
  if (am_I g 39 7) ≤ a1 then (
    j3 g)
  else (
    am_let (am_si g 39 7 a1) fun g6 =>
    am_let (am_si g6 39 8 (0 : Int32)) fun g7 =>
    am_gd (am_co (0 : Int32) (0 : Int32) (5 : Int32) 5 5) <|
    am_let (am_cp g7 43 44 (0 : Int32).toNatClampNeg (0 : Int32).toNatClampNeg (5 : Int32).toNatClampNeg) fun g9 =>
    j3 g9)
set_option maxRecDepth 100000 in
set_option maxHeartbeats 4000000 in
theorem eX3_note (a1 : Int32) (a2 : Int32) (g : am_G) (r : Unit × am_G) (h : fX3_note a1 a2 g = some r) : am_Ev zc MX3_note 0 0 [(0, .ref 39), (1, .int a1), (2, .int a2)] [] g (am_rv r) := by
  unfold fX3_note at h
  refine ev_iload_n 1 dX3_note_0 rfl ?_
  refine ev_aload_n 0 dX3_note_1 rfl ?_
  refine ev_gf (v := .int (am_I g 39 7)) dX3_note_2 (fun h9 => (h9.2.1 39 _ rfl).2) 7 (by decide) (by decide) kF_X3_37 (fun _ => rfl) ?_
  refine am_jn_elim (fun q9 => ∀  (g2 : am_G) (r : Unit × am_G), q9  g2 = some r → am_Ev zc MX3_note 0 32 [(0, .ref 39), (1, .int a1), (2, .int a2)] [] g2 (am_rv r)) h ?_ (fun j3 hj3 h => ?_)
  · intro  g2 r h
    try dsimp only at h
    refine ev_iload_n 1 dX3_note_32 rfl ?_
    refine ev_aload_n 0 dX3_note_33 rfl ?_
    refine ev_gf (v := .int (am_I g2 39 7)) dX3_note_34 (fun h9 => (h9.2.1 39 _ rfl).2) 7 (by decide) (by decide) kF_X3_37 (fun _ => rfl) ?_
    refine ev_icmp_ne 50 dX3_note_37 (by decide) (fun c4 => ?_) (fun c4 => ?_)
    · replace h := am_ifn c4 h
      cases h
      exact ev_ret dX3_note_50 rfl
    · replace h := am_ifp c4 h
      refine ev_aload_n 0 dX3_note_40 rfl ?_
      refine ev_dup dX3_note_41 rfl ?_
      refine ev_gf (v := .int (am_I g2 39 8)) dX3_note_42 (fun h9 => (h9.2.1 39 _ rfl).2) 8 (by decide) (by decide) kF_X3_41 (fun _ => rfl) ?_
      refine ev_iload_n 2 dX3_note_45 rfl ?_
      refine ev_iadd dX3_note_46 ?_
      refine ev_pfi dX3_note_47 (fun h9 => (h9.2.1 39 _ rfl).2) 8 (by decide) (by decide) kF_X3_41 rfl rfl rfl (fun _ => rfl) ?_
      refine am_let_elim (P := fun g5 => am_Ev zc MX3_note 0 50 [(0, .ref 39), (1, .int a1), (2, .int a2)] [] g5 (am_rv r)) h fun g5 h => ?_
      cases h
      exact ev_ret dX3_note_50 rfl
  · refine ev_icmp_ge 32 dX3_note_5 (by decide) (fun c1 => ?_) (fun c1 => ?_)
    · replace h := am_ifp c1 h
      refine ev_sub [0, 1, 2] rfl ?_
      exact hj3  _ _ h
    · replace h := am_ifn c1 h
      refine ev_aload_n 0 dX3_note_8 rfl ?_
      refine ev_iload_n 1 dX3_note_9 rfl ?_
      refine ev_pfi dX3_note_10 (fun h9 => (h9.2.1 39 _ rfl).2) 7 (by decide) (by decide) kF_X3_37 rfl rfl rfl (fun _ => rfl) ?_
      refine am_let_elim (P := fun g6 => am_Ev zc MX3_note 0 13 [(0, .ref 39), (1, .int a1), (2, .int a2)] [] g6 (am_rv r)) h fun g6 h => ?_
      refine ev_aload_n 0 dX3_note_13 rfl ?_
      refine ev_iconst dX3_note_14 rfl ?_
      refine ev_pfi dX3_note_15 (fun h9 => (h9.2.1 39 _ rfl).2) 8 (by decide) (by decide) kF_X3_41 rfl rfl rfl (fun _ => rfl) ?_
      refine am_let_elim (P := fun g7 => am_Ev zc MX3_note 0 18 [(0, .ref 39), (1, .int a1), (2, .int a2)] [] g7 (am_rv r)) h fun g7 h => ?_
      refine ev_aload_n 0 dX3_note_18 rfl ?_
      refine ev_gf (v := .ref 43) dX3_note_19 (fun h9 => (h9.2.1 39 _ rfl).2) 5 (by decide) (by decide) kF_X3_22 (fun h9 => congrArg va_rf (h9.2.2 39 5 43 rfl)) ?_
      refine ev_iconst dX3_note_22 rfl ?_
      refine ev_aload_n 0 dX3_note_23 rfl ?_
      refine ev_gf (v := .ref 44) dX3_note_24 (fun h9 => (h9.2.1 39 _ rfl).2) 6 (by decide) (by decide) kF_X3_25 (fun h9 => congrArg va_rf (h9.2.2 39 6 44 rfl)) ?_
      refine ev_iconst dX3_note_27 rfl ?_
      refine ev_iconst dX3_note_28 rfl ?_
      obtain ⟨c8, h⟩ := am_gd_elim h
      refine ev_copyi dX3_note_29 kM_X3_114 k_cpN k_cpS kS_System (fun h9 => (h9.2.1 43 _ rfl).2) (fun h9 => (h9.2.1 44 _ rfl).2) (am_co_elim c8).1 (am_co_elim c8).2.1 (am_co_elim c8).2.2.1 (am_co_elim c8).2.2.2.1 (am_co_elim c8).2.2.2.2 (Nat.le_of_ble_eq_true rfl) ?_
      refine am_let_elim (P := fun g9 => am_Ev zc MX3_note 0 32 [(0, .ref 39), (1, .int a1), (2, .int a2)] [] g9 (am_rv r)) h fun g9 h => ?_
      refine ev_sub [0, 1, 2] rfl ?_
      exact hj3  _ _ h
theorem tX3_note {a1 : Int32} {a2 : Int32} {g : am_G} {r : Unit × am_G} (h : fX3_note a1 a2 g = some r) : am_Mt zc MX3_note 0 [.ref 39, .int a1, .int a2] g (am_rv r) := am_Mt.of rfl (Nat.le_of_ble_eq_true rfl) (eX3_note _ _ _ _ h)
def fX3_fits_L2 (a1 : Int32) (a2 : Int32) : Nat → Int32 → am_G → Option (Int32 × am_G)
  | 0, _, _ => none
  | n + 1, x1, g2 =>
    if (6 : Int32) ≤ x1 then (
      some ((1 : Int32), g2))
    else (
      am_gd (am_in ((a1 * (6 : Int32)) + x1) 36) <|
      am_gd (am_in ((a2 * (6 : Int32)) + x1) 96) <|
      am_let ((am_I g2 42 ((a1 * (6 : Int32)) + x1).toNatClampNeg) - (am_I g2 41 ((a2 * (6 : Int32)) + x1).toNatClampNeg)) fun x6 =>
      if 0 ≤ x6 then (
        am_gd (am_in (((a1 + (1 : Int32)) * (6 : Int32)) + x1) 36) <|
        am_let (am_si g2 42 (((a1 + (1 : Int32)) * (6 : Int32)) + x1).toNatClampNeg x6) fun g9 =>
        am_let (x1 + (1 : Int32)) fun x10 =>
        fX3_fits_L2 a1 a2 n x10 g9)
      else (
        some ((0 : Int32), g2)))
def fX3_fits (a1 : Int32) (a2 : Int32) (g : am_G) : Option (Int32 × am_G) :=
  fX3_fits_L2 a1 a2 am_fu (0 : Int32) g
set_option maxRecDepth 100000 in
set_option maxHeartbeats 4000000 in
theorem tfX3_fits_L2  (a1 : Int32) (a2 : Int32) : ∀ (n : Nat) (x1 : Int32) (g2 : am_G) (r : Int32 × am_G), fX3_fits_L2 a1 a2 n x1 g2 = some r → am_Ev zc MX3_fits 0 2 [(0, .ref 39), (1, .int a1), (2, .int a2), (3, .int x1)] [] g2 (am_ri r) := by
  intro n
  induction n with
  | zero => intro x1 g2 r h; exact nomatch (show (none : Option (Int32 × am_G)) = some r from h)
  | succ n ih =>
    intro x1 g2 r h
    rw [fX3_fits_L2] at h
    refine ev_iload_n 3 dX3_fits_2 rfl ?_
    refine ev_bipush dX3_fits_3 rfl ?_
    refine ev_icmp_ge 61 dX3_fits_5 (by decide) (fun c3 => ?_) (fun c3 => ?_)
    · replace h := am_ifp c3 h
      refine ev_iconst dX3_fits_61 rfl ?_
      cases h
      exact ev_zret dX3_fits_62 rfl rfl
    · replace h := am_ifn c3 h
      refine ev_aload_n 0 dX3_fits_8 rfl ?_
      refine ev_gf (v := .ref 42) dX3_fits_9 (fun h9 => (h9.2.1 39 _ rfl).2) 4 (by decide) (by decide) kF_X3_19 (fun h9 => congrArg va_rf (h9.2.2 39 4 42 rfl)) ?_
      refine ev_iload_n 1 dX3_fits_12 rfl ?_
      refine ev_bipush dX3_fits_13 rfl ?_
      refine ev_imul dX3_fits_15 ?_
      refine ev_iload_n 3 dX3_fits_16 rfl ?_
      refine ev_iadd dX3_fits_17 ?_
      obtain ⟨c4, h⟩ := am_gd_elim h
      refine ev_iald dX3_fits_18 (fun h9 => (h9.2.1 42 _ rfl).2) (am_in_vp c4) ?_
      refine ev_aload_n 0 dX3_fits_19 rfl ?_
      refine ev_gf (v := .ref 41) dX3_fits_20 (fun h9 => (h9.2.1 39 _ rfl).2) 3 (by decide) (by decide) kF_X3_15 (fun h9 => congrArg va_rf (h9.2.2 39 3 41 rfl)) ?_
      refine ev_iload_n 2 dX3_fits_23 rfl ?_
      refine ev_bipush dX3_fits_24 rfl ?_
      refine ev_imul dX3_fits_26 ?_
      refine ev_iload_n 3 dX3_fits_27 rfl ?_
      refine ev_iadd dX3_fits_28 ?_
      obtain ⟨c5, h⟩ := am_gd_elim h
      refine ev_iald dX3_fits_29 (fun h9 => (h9.2.1 41 _ rfl).2) (am_in_vp c5) ?_
      refine ev_isub dX3_fits_30 ?_
      refine am_let_elim (P := fun x6 => am_Ev zc MX3_fits 0 31 [(0, .ref 39), (1, .int a1), (2, .int a2), (3, .int x1)] [.int x6] g2 (am_ri r)) h fun x6 h => ?_
      refine ev_istore (ls' := [(4, .int x6), (0, .ref 39), (1, .int a1), (2, .int a2), (3, .int x1)]) dX3_fits_31 (by decide) rfl ?_
      refine ev_iload 0 dX3_fits_33 rfl ?_
      refine ev_if_ge 40 dX3_fits_35 (by decide) (fun c7 => ?_) (fun c7 => ?_)
      · replace h := am_ifp c7 h
        refine ev_aload_n 1 dX3_fits_40 rfl ?_
        refine ev_gf (v := .ref 42) dX3_fits_41 (fun h9 => (h9.2.1 39 _ rfl).2) 4 (by decide) (by decide) kF_X3_19 (fun h9 => congrArg va_rf (h9.2.2 39 4 42 rfl)) ?_
        refine ev_iload_n 2 dX3_fits_44 rfl ?_
        refine ev_iconst dX3_fits_45 rfl ?_
        refine ev_iadd dX3_fits_46 ?_
        refine ev_bipush dX3_fits_47 rfl ?_
        refine ev_imul dX3_fits_49 ?_
        refine ev_iload_n 4 dX3_fits_50 rfl ?_
        refine ev_iadd dX3_fits_51 ?_
        refine ev_iload 0 dX3_fits_52 rfl ?_
        obtain ⟨c8, h⟩ := am_gd_elim h
        refine ev_iast dX3_fits_54 (fun h9 => (h9.2.1 42 _ rfl).2) (am_in_vp c8) ?_
        refine am_let_elim (P := fun g9 => am_Ev zc MX3_fits 0 55 [(4, .int x6), (0, .ref 39), (1, .int a1), (2, .int a2), (3, .int x1)] [] g9 (am_ri r)) h fun g9 h => ?_
        obtain ⟨x10, ex10, h⟩ := am_let_ex h
        refine ev_iinc (ls' := [(3, .int x10), (4, .int x6), (0, .ref 39), (1, .int a1), (2, .int a2)]) 4 dX3_fits_55 rfl ex10 (by decide) rfl ?_
        refine ev_goto 2 dX3_fits_58 (by decide) ?_
        refine ev_sub [2, 3, 4, 0] rfl ?_
        exact ih _ _ _ h
      · replace h := am_ifn c7 h
        refine ev_iconst dX3_fits_38 rfl ?_
        cases h
        exact ev_zret dX3_fits_39 rfl rfl
set_option maxRecDepth 100000 in
set_option maxHeartbeats 4000000 in
theorem eX3_fits (a1 : Int32) (a2 : Int32) (g : am_G) (r : Int32 × am_G) (h : fX3_fits a1 a2 g = some r) : am_Ev zc MX3_fits 0 0 [(0, .ref 39), (1, .int a1), (2, .int a2)] [] g (am_ri r) := by
  unfold fX3_fits at h
  refine ev_iconst dX3_fits_0 rfl ?_
  refine ev_istore_n (ls' := [(3, .int (0 : Int32)), (0, .ref 39), (1, .int a1), (2, .int a2)]) dX3_fits_1 rfl (by decide) rfl ?_
  refine ev_sub [1, 2, 3, 0] rfl ?_
  exact tfX3_fits_L2 a1 a2 _ _ _ _ h
theorem tX3_fits {a1 : Int32} {a2 : Int32} {g : am_G} {r : Int32 × am_G} (h : fX3_fits a1 a2 g = some r) : am_Mt zc MX3_fits 0 [.ref 39, .int a1, .int a2] g (am_ri r) := am_Mt.of rfl (Nat.le_of_ble_eq_true rfl) (eX3_fits _ _ _ _ h)
def fX3_timesChosen_L5 (a1 : Int32) (a2 : Int32) : Nat → Int32 → Int32 → am_G → Option (Int32 × am_G)
  | 0, _, _, _ => none
  | n + 1, x1, x2, g3 =>
    if a1 ≤ x2 then (
      some (x1, g3))
    else (
      am_gd (am_in x2 5) <|
      am_jn (fun (x7 : Int32) (g8 : am_G) =>
        am_let (x2 + (1 : Int32)) fun x10 =>
        fX3_timesChosen_L5 a1 a2 n x7 x10 g8) fun j9 =>
      if (am_I g3 43 x2.toNatClampNeg) = a2 then (
        am_let (x1 + (1 : Int32)) fun x11 =>
        j9 x11 g3)
      else (
        j9 x1 g3))
def fX3_timesChosen (a1 : Int32) (a2 : Int32) (g : am_G) : Option (Int32 × am_G) :=
  fX3_timesChosen_L5 a1 a2 am_fu (1 : Int32) (0 : Int32) g
set_option maxRecDepth 100000 in
set_option maxHeartbeats 4000000 in
theorem tfX3_timesChosen_L5  (a1 : Int32) (a2 : Int32) : ∀ (n : Nat) (x1 : Int32) (x2 : Int32) (g3 : am_G) (r : Int32 × am_G), fX3_timesChosen_L5 a1 a2 n x1 x2 g3 = some r → am_Ev zc MX3_timesChosen 0 5 [(0, .ref 39), (1, .int a1), (2, .int a2), (3, .int x1), (4, .int x2)] [] g3 (am_ri r) := by
  intro n
  induction n with
  | zero => intro x1 x2 g3 r h; exact nomatch (show (none : Option (Int32 × am_G)) = some r from h)
  | succ n ih =>
    intro x1 x2 g3 r h
    rw [fX3_timesChosen_L5] at h
    refine ev_iload 4 dX3_timesChosen_5 rfl ?_
    refine ev_iload_n 1 dX3_timesChosen_7 rfl ?_
    refine ev_icmp_ge 31 dX3_timesChosen_8 (by decide) (fun c4 => ?_) (fun c4 => ?_)
    · replace h := am_ifp c4 h
      refine ev_iload_n 3 dX3_timesChosen_31 rfl ?_
      cases h
      exact ev_iret dX3_timesChosen_32 rfl
    · replace h := am_ifn c4 h
      refine ev_aload_n 0 dX3_timesChosen_11 rfl ?_
      refine ev_gf (v := .ref 43) dX3_timesChosen_12 (fun h9 => (h9.2.1 39 _ rfl).2) 5 (by decide) (by decide) kF_X3_22 (fun h9 => congrArg va_rf (h9.2.2 39 5 43 rfl)) ?_
      refine ev_iload 4 dX3_timesChosen_15 rfl ?_
      obtain ⟨c5, h⟩ := am_gd_elim h
      refine ev_iald dX3_timesChosen_17 (fun h9 => (h9.2.1 43 _ rfl).2) (am_in_vp c5) ?_
      refine ev_iload_n 2 dX3_timesChosen_18 rfl ?_
      refine am_jn_elim (fun q9 => ∀ (x7 : Int32) (g8 : am_G) (r : Int32 × am_G), q9 x7 g8 = some r → am_Ev zc MX3_timesChosen 0 25 [(0, .ref 39), (1, .int a1), (2, .int a2), (3, .int x7), (4, .int x2)] [] g8 (am_ri r)) h ?_ (fun j9 hj9 h => ?_)
      · intro x7 g8 r h
        try dsimp only at h
        obtain ⟨x10, ex10, h⟩ := am_let_ex h
        refine ev_iinc (ls' := [(4, .int x10), (0, .ref 39), (1, .int a1), (2, .int a2), (3, .int x7)]) 4 dX3_timesChosen_25 rfl ex10 (by decide) rfl ?_
        refine ev_goto 5 dX3_timesChosen_28 (by decide) ?_
        refine ev_sub [1, 2, 3, 4, 0] rfl ?_
        exact ih _ _ _ _ h
      · refine ev_icmp_ne 25 dX3_timesChosen_19 (by decide) (fun c6 => ?_) (fun c6 => ?_)
        · replace h := am_ifn c6 h
          refine ev_sub [0, 1, 2, 3, 4] rfl ?_
          exact hj9 _ _ _ h
        · replace h := am_ifp c6 h
          obtain ⟨x11, ex11, h⟩ := am_let_ex h
          refine ev_iinc (ls' := [(3, .int x11), (0, .ref 39), (1, .int a1), (2, .int a2), (4, .int x2)]) 3 dX3_timesChosen_22 rfl ex11 (by decide) rfl ?_
          refine ev_sub [1, 2, 3, 0, 4] rfl ?_
          exact hj9 _ _ _ h
set_option maxRecDepth 100000 in
set_option maxHeartbeats 4000000 in
theorem eX3_timesChosen (a1 : Int32) (a2 : Int32) (g : am_G) (r : Int32 × am_G) (h : fX3_timesChosen a1 a2 g = some r) : am_Ev zc MX3_timesChosen 0 0 [(0, .ref 39), (1, .int a1), (2, .int a2)] [] g (am_ri r) := by
  unfold fX3_timesChosen at h
  refine ev_iconst dX3_timesChosen_0 rfl ?_
  refine ev_istore_n (ls' := [(3, .int (1 : Int32)), (0, .ref 39), (1, .int a1), (2, .int a2)]) dX3_timesChosen_1 rfl (by decide) rfl ?_
  refine ev_iconst dX3_timesChosen_2 rfl ?_
  refine ev_istore (ls' := [(4, .int (0 : Int32)), (3, .int (1 : Int32)), (0, .ref 39), (1, .int a1), (2, .int a2)]) dX3_timesChosen_3 (by decide) rfl ?_
  refine ev_sub [2, 3, 4, 1, 0] rfl ?_
  exact tfX3_timesChosen_L5 a1 a2 _ _ _ _ _ h
theorem tX3_timesChosen {a1 : Int32} {a2 : Int32} {g : am_G} {r : Int32 × am_G} (h : fX3_timesChosen a1 a2 g = some r) : am_Mt zc MX3_timesChosen 0 [.ref 39, .int a1, .int a2] g (am_ri r) := am_Mt.of rfl (Nat.le_of_ble_eq_true rfl) (eX3_timesChosen _ _ _ _ h)
def fX3_search_L38 (rec : Int32 → Int32 → Int32 → am_G → Option (Unit × am_G)) (k : Int32 → Int32 → am_G → Option (Unit × am_G)) (a1 : Int32) (a2 : Int32) (a3 : Int32) (x3 : Int32) : Nat → Int32 → Int32 → Int32 → am_G → Option (Unit × am_G)
  | 0, _, _, _, _ => none
  | n + 1, x4, x5, x6, g7 =>
    if a1 ≤ x6 then (
      k x4 x5 g7)
    else (
      am_gd (am_in x6 5) <|
      am_jn (fun (x14 : Int32) (x15 : Int32) (g16 : am_G) =>
        am_let (x6 + (1 : Int32)) fun x18 =>
        fX3_search_L38 rec k a1 a2 a3 x3 n x14 x15 x18 g16) fun j17 =>
      if (am_I g7 17 x6.toNatClampNeg) = x3 then (
        am_let (x4 + (1 : Int32)) fun x19 =>
        am_gd (am_in x6 5) <|
        am_let (am_I g7 43 x6.toNatClampNeg) fun x21 =>
        j17 x19 x21 g7)
      else (
        j17 x4 x5 g7))
def fX3_search_L81 (rec : Int32 → Int32 → Int32 → am_G → Option (Unit × am_G)) (a1 : Int32) (a2 : Int32) (a3 : Int32) (x3 : Int32) (x22 : Int32) : Nat → Int32 → am_G → Option (Unit × am_G)
  | 0, _, _ => none
  | n + 1, x25, g26 =>
    if (am_I g26 12 4) ≤ x25 then (
      some ((), g26))
    else (
      am_gd (am_in x25 16) <|
      am_let (a2 + (am_I g26 13 x25.toNatClampNeg)) fun x29 =>
      am_gd (am_in x25 16) <|
      am_jn (fun  (g32 : am_G) =>
        am_let (x25 + (1 : Int32)) fun x34 =>
        fX3_search_L81 rec a1 a2 a3 x3 x22 n x34 g32) fun j33 =>
      if (am_I g26 40 x25.toNatClampNeg) = 0 then (
        j33 g26)
      else (
        am_gd (am_in x25 16) <|
        if (am_I g26 15 x25.toNatClampNeg) = x3 then (
          if (am_I g26 39 7) < x29 then (
            j33 g26)
          else (
            am_bd (fX3_fits a1 x25 g26) fun v38 g39 =>
            if v38 = 0 then (
              j33 g39)
            else (
              am_gd (am_in a1 5) <|
              am_let (am_si g39 43 a1.toNatClampNeg x25) fun g43 =>
              am_bd (fX3_timesChosen a1 x25 g43) fun v44 g45 =>
              am_gd (!decide (v44 = 0)) <|
              am_bd (rec (a1 + (1 : Int32)) x29 ((a3 * (x22 + (1 : Int32))) / v44) g45) fun u48 g49 =>
              j33 g49)))
        else (
          j33 g26)))
def bX3_search (rec : Int32 → Int32 → Int32 → am_G → Option (Unit × am_G)) (a1 : Int32) (a2 : Int32) (a3 : Int32) (g : am_G) : Option (Unit × am_G) :=
  if a1 < (am_I g 1 14) then (
    am_gd (am_in a1 5) <|
    am_let (am_I g 17 a1.toNatClampNeg) fun x3 =>
    fX3_search_L38 rec (fun (x22 : Int32) (x23 : Int32) (g24 : am_G) =>
      fX3_search_L81 rec a1 a2 a3 x3 x22 am_fu x23 g24) a1 a2 a3 x3 am_fu (0 : Int32) (0 : Int32) (0 : Int32) g)
  else (
    am_bd (fX3_note a2 a3 g) fun u51 g52 =>
    some ((), g52))
set_option maxRecDepth 100000 in
set_option maxHeartbeats 4000000 in
theorem tfX3_search_L38 {rec : Int32 → Int32 → Int32 → am_G → Option (Unit × am_G)} {dd : Nat} (hdd : 0 ≤ dd) (hrec : ∀ (a1 : Int32) (a2 : Int32) (a3 : Int32) (g : am_G) (r : Unit × am_G), rec a1 a2 a3 g = some r → am_Mt zc MX3_search dd [.ref 39, .int a1, .int a2, .int a3] g (am_rv r))  {k : Int32 → Int32 → am_G → Option (Unit × am_G)} (a1 : Int32) (a2 : Int32) (a3 : Int32) (x3 : Int32) (hk : ∀ (x8 : Int32) (x9 : Int32) (g10 : am_G) (r : Unit × am_G), k x8 x9 g10 = some r → am_Ev zc MX3_search (dd + 1) 77 [(0, .ref 39), (1, .int a1), (2, .int a2), (3, .int a3), (4, .int x3), (5, .int x8), (6, .int x9)] [] g10 (am_rv r)) : ∀ (n : Nat) (x4 : Int32) (x5 : Int32) (x6 : Int32) (g7 : am_G) (r : Unit × am_G), fX3_search_L38 rec k a1 a2 a3 x3 n x4 x5 x6 g7 = some r → am_Ev zc MX3_search (dd + 1) 38 [(0, .ref 39), (1, .int a1), (2, .int a2), (3, .int a3), (4, .int x3), (5, .int x4), (6, .int x5), (7, .int x6)] [] g7 (am_rv r) := by
  intro n
  induction n with
  | zero => intro x4 x5 x6 g7 r h; exact nomatch (show (none : Option (Unit × am_G)) = some r from h)
  | succ n ih =>
    intro x4 x5 x6 g7 r h
    rw [fX3_search_L38] at h
    refine ev_iload 7 dX3_search_38 rfl ?_
    refine ev_iload_n 1 dX3_search_40 rfl ?_
    refine ev_icmp_ge 77 dX3_search_41 (by decide) (fun c11 => ?_) (fun c11 => ?_)
    · replace h := am_ifp c11 h
      refine ev_sub [0, 1, 2, 3, 4, 5, 6] rfl ?_
      exact hk _ _ _ _ h
    · replace h := am_ifn c11 h
      refine ev_aload_n 0 dX3_search_44 rfl ?_
      refine ev_gf (v := .ref 1) dX3_search_45 (fun h9 => (h9.2.1 39 _ rfl).2) 0 (by decide) (by decide) kF_X3_28 (fun h9 => congrArg va_rf (h9.2.2 39 0 1 rfl)) ?_
      refine ev_gf (v := .ref 17) dX3_search_48 (fun h9 => (h9.2.1 1 _ rfl).2) 6 (by decide) (by decide) kF_X3_95 (fun h9 => congrArg va_rf (h9.2.2 1 6 17 rfl)) ?_
      refine ev_iload 7 dX3_search_51 rfl ?_
      obtain ⟨c12, h⟩ := am_gd_elim h
      refine ev_iald dX3_search_53 (fun h9 => (h9.2.1 17 _ rfl).2) (am_in_vp c12) ?_
      refine ev_iload 4 dX3_search_54 rfl ?_
      refine am_jn_elim (fun q9 => ∀ (x14 : Int32) (x15 : Int32) (g16 : am_G) (r : Unit × am_G), q9 x14 x15 g16 = some r → am_Ev zc MX3_search (dd + 1) 71 [(0, .ref 39), (1, .int a1), (2, .int a2), (3, .int a3), (4, .int x3), (5, .int x14), (6, .int x15), (7, .int x6)] [] g16 (am_rv r)) h ?_ (fun j17 hj17 h => ?_)
      · intro x14 x15 g16 r h
        try dsimp only at h
        obtain ⟨x18, ex18, h⟩ := am_let_ex h
        refine ev_iinc (ls' := [(7, .int x18), (0, .ref 39), (1, .int a1), (2, .int a2), (3, .int a3), (4, .int x3), (5, .int x14), (6, .int x15)]) 7 dX3_search_71 rfl ex18 (by decide) rfl ?_
        refine ev_goto 38 dX3_search_74 (by decide) ?_
        refine ev_sub [1, 2, 3, 4, 5, 6, 7, 0] rfl ?_
        exact ih _ _ _ _ _ h
      · refine ev_icmp_ne 71 dX3_search_56 (by decide) (fun c13 => ?_) (fun c13 => ?_)
        · replace h := am_ifn c13 h
          refine ev_sub [0, 1, 2, 3, 4, 5, 6, 7] rfl ?_
          exact hj17 _ _ _ _ h
        · replace h := am_ifp c13 h
          obtain ⟨x19, ex19, h⟩ := am_let_ex h
          refine ev_iinc (ls' := [(5, .int x19), (0, .ref 39), (1, .int a1), (2, .int a2), (3, .int a3), (4, .int x3), (6, .int x5), (7, .int x6)]) 5 dX3_search_59 rfl ex19 (by decide) rfl ?_
          refine ev_aload_n 1 dX3_search_62 rfl ?_
          refine ev_gf (v := .ref 43) dX3_search_63 (fun h9 => (h9.2.1 39 _ rfl).2) 5 (by decide) (by decide) kF_X3_22 (fun h9 => congrArg va_rf (h9.2.2 39 5 43 rfl)) ?_
          refine ev_iload 7 dX3_search_66 rfl ?_
          obtain ⟨c20, h⟩ := am_gd_elim h
          refine ev_iald dX3_search_68 (fun h9 => (h9.2.1 43 _ rfl).2) (am_in_vp c20) ?_
          refine am_let_elim (P := fun x21 => am_Ev zc MX3_search (dd + 1) 69 [(5, .int x19), (0, .ref 39), (1, .int a1), (2, .int a2), (3, .int a3), (4, .int x3), (6, .int x5), (7, .int x6)] [.int x21] g7 (am_rv r)) h fun x21 h => ?_
          refine ev_istore (ls' := [(6, .int x21), (5, .int x19), (0, .ref 39), (1, .int a1), (2, .int a2), (3, .int a3), (4, .int x3), (7, .int x6)]) dX3_search_69 (by decide) rfl ?_
          refine ev_sub [2, 3, 4, 5, 6, 1, 0, 7] rfl ?_
          exact hj17 _ _ _ _ h
set_option maxRecDepth 100000 in
set_option maxHeartbeats 4000000 in
theorem tfX3_search_L81 {rec : Int32 → Int32 → Int32 → am_G → Option (Unit × am_G)} {dd : Nat} (hdd : 0 ≤ dd) (hrec : ∀ (a1 : Int32) (a2 : Int32) (a3 : Int32) (g : am_G) (r : Unit × am_G), rec a1 a2 a3 g = some r → am_Mt zc MX3_search dd [.ref 39, .int a1, .int a2, .int a3] g (am_rv r))  (a1 : Int32) (a2 : Int32) (a3 : Int32) (x3 : Int32) (x22 : Int32) : ∀ (n : Nat) (x25 : Int32) (g26 : am_G) (r : Unit × am_G), fX3_search_L81 rec a1 a2 a3 x3 x22 n x25 g26 = some r → am_Ev zc MX3_search (dd + 1) 81 [(0, .ref 39), (1, .int a1), (2, .int a2), (3, .int a3), (4, .int x3), (5, .int x22), (7, .int x25)] [] g26 (am_rv r) := by
  intro n
  induction n with
  | zero => intro x25 g26 r h; exact nomatch (show (none : Option (Unit × am_G)) = some r from h)
  | succ n ih =>
    intro x25 g26 r h
    rw [fX3_search_L81] at h
    refine ev_iload 6 dX3_search_81 rfl ?_
    refine ev_aload_n 0 dX3_search_83 rfl ?_
    refine ev_gf (v := .ref 1) dX3_search_84 (fun h9 => (h9.2.1 39 _ rfl).2) 0 (by decide) (by decide) kF_X3_28 (fun h9 => congrArg va_rf (h9.2.2 39 0 1 rfl)) ?_
    refine ev_gf (v := .ref 12) dX3_search_87 (fun h9 => (h9.2.1 1 _ rfl).2) 5 (by decide) (by decide) kF_X3_65 (fun h9 => congrArg va_rf (h9.2.2 1 5 12 rfl)) ?_
    refine ev_gf (v := .int (am_I g26 12 4)) dX3_search_90 (fun h9 => (h9.2.1 12 _ rfl).2) 4 (by decide) (by decide) kF_X3_69 (fun _ => rfl) ?_
    refine ev_icmp_ge 197 dX3_search_93 (by decide) (fun c27 => ?_) (fun c27 => ?_)
    · replace h := am_ifp c27 h
      cases h
      exact ev_ret dX3_search_197 rfl
    · replace h := am_ifn c27 h
      refine ev_iload_n 2 dX3_search_96 rfl ?_
      refine ev_aload_n 0 dX3_search_97 rfl ?_
      refine ev_gf (v := .ref 1) dX3_search_98 (fun h9 => (h9.2.1 39 _ rfl).2) 0 (by decide) (by decide) kF_X3_28 (fun h9 => congrArg va_rf (h9.2.2 39 0 1 rfl)) ?_
      refine ev_gf (v := .ref 12) dX3_search_101 (fun h9 => (h9.2.1 1 _ rfl).2) 5 (by decide) (by decide) kF_X3_65 (fun h9 => congrArg va_rf (h9.2.2 1 5 12 rfl)) ?_
      refine ev_gf (v := .ref 13) dX3_search_104 (fun h9 => (h9.2.1 12 _ rfl).2) 0 (by decide) (by decide) kF_X3_98 (fun h9 => congrArg va_rf (h9.2.2 12 0 13 rfl)) ?_
      refine ev_iload 6 dX3_search_107 rfl ?_
      obtain ⟨c28, h⟩ := am_gd_elim h
      refine ev_iald dX3_search_109 (fun h9 => (h9.2.1 13 _ rfl).2) (am_in_vp c28) ?_
      refine ev_iadd dX3_search_110 ?_
      refine am_let_elim (P := fun x29 => am_Ev zc MX3_search (dd + 1) 111 [(0, .ref 39), (1, .int a1), (2, .int a2), (3, .int a3), (4, .int x3), (5, .int x22), (7, .int x25)] [.int x29] g26 (am_rv r)) h fun x29 h => ?_
      refine ev_istore (ls' := [(8, .int x29), (0, .ref 39), (1, .int a1), (2, .int a2), (3, .int a3), (4, .int x3), (5, .int x22), (7, .int x25)]) dX3_search_111 (by decide) rfl ?_
      refine ev_aload_n 1 dX3_search_113 rfl ?_
      refine ev_gf (v := .ref 40) dX3_search_114 (fun h9 => (h9.2.1 39 _ rfl).2) 2 (by decide) (by decide) kF_X3_9 (fun h9 => congrArg va_rf (h9.2.2 39 2 40 rfl)) ?_
      refine ev_iload 7 dX3_search_117 rfl ?_
      obtain ⟨c30, h⟩ := am_gd_elim h
      refine ev_zald dX3_search_119 (fun h9 => (h9.2.1 40 _ rfl).2) (am_in_vp c30) ?_
      refine am_jn_elim (fun q9 => ∀  (g32 : am_G) (r : Unit × am_G), q9  g32 = some r → am_Ev zc MX3_search (dd + 1) 191 [(0, .ref 39), (1, .int a1), (2, .int a2), (3, .int a3), (4, .int x3), (5, .int x22), (7, .int x25)] [] g32 (am_rv r)) h ?_ (fun j33 hj33 h => ?_)
      · intro  g32 r h
        try dsimp only at h
        obtain ⟨x34, ex34, h⟩ := am_let_ex h
        refine ev_iinc (ls' := [(7, .int x34), (0, .ref 39), (1, .int a1), (2, .int a2), (3, .int a3), (4, .int x3), (5, .int x22)]) 6 dX3_search_191 rfl ex34 (by decide) rfl ?_
        refine ev_goto 81 dX3_search_194 (by decide) ?_
        refine ev_sub [1, 2, 3, 4, 5, 6, 0] rfl ?_
        exact ih _ _ _ h
      · refine ev_if_eq 191 dX3_search_120 (by decide) (fun c31 => ?_) (fun c31 => ?_)
        · replace h := am_ifp c31 h
          refine ev_sub [1, 2, 3, 4, 5, 6, 7] rfl ?_
          exact hj33  _ _ h
        · replace h := am_ifn c31 h
          refine ev_aload_n 1 dX3_search_123 rfl ?_
          refine ev_gf (v := .ref 1) dX3_search_124 (fun h9 => (h9.2.1 39 _ rfl).2) 0 (by decide) (by decide) kF_X3_28 (fun h9 => congrArg va_rf (h9.2.2 39 0 1 rfl)) ?_
          refine ev_gf (v := .ref 12) dX3_search_127 (fun h9 => (h9.2.1 1 _ rfl).2) 5 (by decide) (by decide) kF_X3_65 (fun h9 => congrArg va_rf (h9.2.2 1 5 12 rfl)) ?_
          refine ev_gf (v := .ref 15) dX3_search_130 (fun h9 => (h9.2.1 12 _ rfl).2) 2 (by decide) (by decide) kF_X3_101 (fun h9 => congrArg va_rf (h9.2.2 12 2 15 rfl)) ?_
          refine ev_iload 7 dX3_search_133 rfl ?_
          obtain ⟨c35, h⟩ := am_gd_elim h
          refine ev_iald dX3_search_135 (fun h9 => (h9.2.1 15 _ rfl).2) (am_in_vp c35) ?_
          refine ev_iload 5 dX3_search_136 rfl ?_
          refine ev_icmp_ne 191 dX3_search_138 (by decide) (fun c36 => ?_) (fun c36 => ?_)
          · replace h := am_ifn c36 h
            refine ev_sub [1, 2, 3, 4, 5, 6, 7] rfl ?_
            exact hj33  _ _ h
          · replace h := am_ifp c36 h
            refine ev_iload 0 dX3_search_141 rfl ?_
            refine ev_aload_n 1 dX3_search_143 rfl ?_
            refine ev_gf (v := .int (am_I g26 39 7)) dX3_search_144 (fun h9 => (h9.2.1 39 _ rfl).2) 7 (by decide) (by decide) kF_X3_37 (fun _ => rfl) ?_
            refine ev_icmp_gt 191 dX3_search_147 (by decide) (fun c37 => ?_) (fun c37 => ?_)
            · replace h := am_ifp c37 h
              refine ev_sub [1, 2, 3, 4, 5, 6, 7] rfl ?_
              exact hj33  _ _ h
            · replace h := am_ifn c37 h
              refine ev_aload_n 1 dX3_search_150 rfl ?_
              refine ev_iload_n 2 dX3_search_151 rfl ?_
              refine ev_iload 7 dX3_search_152 rfl ?_
              obtain ⟨v38, g39, e40, h⟩ := am_bd_elim h
              refine ev_callVi (v := v38) [.int a1, .int x25] [] dX3_search_154 (tX3_fits e40) (by omega) mo_X3_fits kM_X3_104 ki_X3_fits kv_X3_fits (fun h9 => (h9.2.1 39 _ rfl).2) (by decide) rfl (Nat.le_of_ble_eq_true rfl) ?_
              refine ev_if_eq 191 dX3_search_157 (by decide) (fun c41 => ?_) (fun c41 => ?_)
              · replace h := am_ifp c41 h
                refine ev_sub [1, 2, 3, 4, 5, 6, 7] rfl ?_
                exact hj33  _ _ h
              · replace h := am_ifn c41 h
                refine ev_aload_n 1 dX3_search_160 rfl ?_
                refine ev_gf (v := .ref 43) dX3_search_161 (fun h9 => (h9.2.1 39 _ rfl).2) 5 (by decide) (by decide) kF_X3_22 (fun h9 => congrArg va_rf (h9.2.2 39 5 43 rfl)) ?_
                refine ev_iload_n 2 dX3_search_164 rfl ?_
                refine ev_iload 7 dX3_search_165 rfl ?_
                obtain ⟨c42, h⟩ := am_gd_elim h
                refine ev_iast dX3_search_167 (fun h9 => (h9.2.1 43 _ rfl).2) (am_in_vp c42) ?_
                refine am_let_elim (P := fun g43 => am_Ev zc MX3_search (dd + 1) 168 [(8, .int x29), (0, .ref 39), (1, .int a1), (2, .int a2), (3, .int a3), (4, .int x3), (5, .int x22), (7, .int x25)] [] g43 (am_rv r)) h fun g43 h => ?_
                refine ev_aload_n 1 dX3_search_168 rfl ?_
                refine ev_iload_n 2 dX3_search_169 rfl ?_
                refine ev_iconst dX3_search_170 rfl ?_
                refine ev_iadd dX3_search_171 ?_
                refine ev_iload 0 dX3_search_172 rfl ?_
                refine ev_iload_n 4 dX3_search_174 rfl ?_
                refine ev_iload 6 dX3_search_175 rfl ?_
                refine ev_iconst dX3_search_177 rfl ?_
                refine ev_iadd dX3_search_178 ?_
                refine ev_imul dX3_search_179 ?_
                refine ev_aload_n 1 dX3_search_180 rfl ?_
                refine ev_iload_n 2 dX3_search_181 rfl ?_
                refine ev_iload 7 dX3_search_182 rfl ?_
                obtain ⟨v44, g45, e46, h⟩ := am_bd_elim h
                refine ev_callVi (v := v44) [.int a1, .int x25] [.int (a3 * (x22 + (1 : Int32))), .int x29, .int (a1 + (1 : Int32)), .ref 39] dX3_search_184 (tX3_timesChosen e46) (by omega) mo_X3_timesChosen kM_X3_108 ki_X3_timesChosen kv_X3_timesChosen (fun h9 => (h9.2.1 39 _ rfl).2) (by decide) rfl (Nat.le_of_ble_eq_true rfl) ?_
                obtain ⟨c47, h⟩ := am_gd_elim h
                refine ev_idiv dX3_search_187 (by simpa using c47) ?_
                obtain ⟨u48, g49, e50, h⟩ := am_bd_elim h
                refine ev_callVv [.int (a1 + (1 : Int32)), .int x29, .int ((a3 * (x22 + (1 : Int32))) / v44)] [] dX3_search_188 (hrec (a1 + (1 : Int32)) x29 ((a3 * (x22 + (1 : Int32))) / v44) g45 _ e50) (Nat.lt_succ_self _) mo_X3_search kM_X3_111 ki_X3_search kv_X3_search (fun h9 => (h9.2.1 39 _ rfl).2) (by decide) rfl (Nat.le_of_ble_eq_true rfl) ?_
                refine ev_sub [1, 2, 3, 4, 5, 6, 7] rfl ?_
                exact hj33  _ _ h
set_option maxRecDepth 100000 in
set_option maxHeartbeats 4000000 in
theorem eX3_search {rec : Int32 → Int32 → Int32 → am_G → Option (Unit × am_G)} {dd : Nat} (hdd : 0 ≤ dd) (hrec : ∀ (a1 : Int32) (a2 : Int32) (a3 : Int32) (g : am_G) (r : Unit × am_G), rec a1 a2 a3 g = some r → am_Mt zc MX3_search dd [.ref 39, .int a1, .int a2, .int a3] g (am_rv r)) (a1 : Int32) (a2 : Int32) (a3 : Int32) (g : am_G) (r : Unit × am_G) (h : bX3_search rec a1 a2 a3 g = some r) : am_Ev zc MX3_search (dd + 1) 0 [(0, .ref 39), (1, .int a1), (2, .int a2), (3, .int a3)] [] g (am_rv r) := by
  unfold bX3_search at h
  refine ev_iload_n 1 dX3_search_0 rfl ?_
  refine ev_aload_n 0 dX3_search_1 rfl ?_
  refine ev_gf (v := .ref 1) dX3_search_2 (fun h9 => (h9.2.1 39 _ rfl).2) 0 (by decide) (by decide) kF_X3_28 (fun h9 => congrArg va_rf (h9.2.2 39 0 1 rfl)) ?_
  refine ev_gf (v := .int (am_I g 1 14)) dX3_search_5 (fun h9 => (h9.2.1 1 _ rfl).2) 14 (by decide) (by decide) kF_X3_88 (fun _ => rfl) ?_
  refine ev_icmp_lt 18 dX3_search_8 (by decide) (fun c1 => ?_) (fun c1 => ?_)
  · replace h := am_ifp c1 h
    refine ev_aload_n 0 dX3_search_18 rfl ?_
    refine ev_gf (v := .ref 1) dX3_search_19 (fun h9 => (h9.2.1 39 _ rfl).2) 0 (by decide) (by decide) kF_X3_28 (fun h9 => congrArg va_rf (h9.2.2 39 0 1 rfl)) ?_
    refine ev_gf (v := .ref 17) dX3_search_22 (fun h9 => (h9.2.1 1 _ rfl).2) 6 (by decide) (by decide) kF_X3_95 (fun h9 => congrArg va_rf (h9.2.2 1 6 17 rfl)) ?_
    refine ev_iload_n 1 dX3_search_25 rfl ?_
    obtain ⟨c2, h⟩ := am_gd_elim h
    refine ev_iald dX3_search_26 (fun h9 => (h9.2.1 17 _ rfl).2) (am_in_vp c2) ?_
    refine am_let_elim (P := fun x3 => am_Ev zc MX3_search (dd + 1) 27 [(0, .ref 39), (1, .int a1), (2, .int a2), (3, .int a3)] [.int x3] g (am_rv r)) h fun x3 h => ?_
    refine ev_istore (ls' := [(4, .int x3), (0, .ref 39), (1, .int a1), (2, .int a2), (3, .int a3)]) dX3_search_27 (by decide) rfl ?_
    refine ev_iconst dX3_search_29 rfl ?_
    refine ev_istore (ls' := [(5, .int (0 : Int32)), (4, .int x3), (0, .ref 39), (1, .int a1), (2, .int a2), (3, .int a3)]) dX3_search_30 (by decide) rfl ?_
    refine ev_iconst dX3_search_32 rfl ?_
    refine ev_istore (ls' := [(6, .int (0 : Int32)), (5, .int (0 : Int32)), (4, .int x3), (0, .ref 39), (1, .int a1), (2, .int a2), (3, .int a3)]) dX3_search_33 (by decide) rfl ?_
    refine ev_iconst dX3_search_35 rfl ?_
    refine ev_istore (ls' := [(7, .int (0 : Int32)), (6, .int (0 : Int32)), (5, .int (0 : Int32)), (4, .int x3), (0, .ref 39), (1, .int a1), (2, .int a2), (3, .int a3)]) dX3_search_36 (by decide) rfl ?_
    refine ev_sub [4, 5, 6, 7, 3, 2, 1, 0] rfl ?_
    refine tfX3_search_L38 hdd hrec a1 a2 a3 x3 ?_ _ _ _ _ _ _ h
    intro x22 x23 g24 r h
    try dsimp only at h
    refine ev_iload 6 dX3_search_77 rfl ?_
    refine ev_istore (ls' := [(7, .int x23), (0, .ref 39), (1, .int a1), (2, .int a2), (3, .int a3), (4, .int x3), (5, .int x22), (6, .int x23)]) dX3_search_79 (by decide) rfl ?_
    refine ev_sub [1, 2, 3, 4, 5, 6, 0] rfl ?_
    exact tfX3_search_L81 hdd hrec a1 a2 a3 x3 x22 _ _ _ _ h
  · replace h := am_ifn c1 h
    refine ev_aload_n 0 dX3_search_11 rfl ?_
    refine ev_iload_n 2 dX3_search_12 rfl ?_
    refine ev_iload_n 3 dX3_search_13 rfl ?_
    obtain ⟨u51, g52, e53, h⟩ := am_bd_elim h
    refine ev_callVv [.int a2, .int a3] [] dX3_search_14 (tX3_note e53) (by omega) mo_X3_note kM_X3_91 ki_X3_note kv_X3_note (fun h9 => (h9.2.1 39 _ rfl).2) (by decide) rfl (Nat.le_of_ble_eq_true rfl) ?_
    cases h
    exact ev_ret dX3_search_17 rfl
def fX3_search : Nat → Int32 → Int32 → Int32 → am_G → Option (Unit × am_G)
  | 0, _, _, _, _ => none
  | n + 1, a1, a2, a3, g => bX3_search (fX3_search n) a1 a2 a3 g
theorem tX3_search : ∀ (n : Nat) (a1 : Int32) (a2 : Int32) (a3 : Int32) (g : am_G) (r : Unit × am_G), fX3_search n a1 a2 a3 g = some r → am_Mt zc MX3_search (0 + n) [.ref 39, .int a1, .int a2, .int a3] g (am_rv r) := by
  intro n
  induction n with
  | zero => intro a1 a2 a3 g r h; exact nomatch (show (none : Option (Unit × am_G)) = some r from h)
  | succ n ih =>
    intro a1 a2 a3 g r h
    exact am_Mt.of rfl (Nat.le_of_ble_eq_true rfl) (eX3_search (rec := fX3_search n) (dd := 0 + n) (Nat.le_add_right _ _) ih _ _ _ _ _ h)
theorem tX3_search_f {a1 : Int32} {a2 : Int32} {a3 : Int32} {g : am_G} {r : Unit × am_G} (h : fX3_search 64 a1 a2 a3 g = some r) : am_Mt zc MX3_search 64 [.ref 39, .int a1, .int a2, .int a3] g (am_rv r) := tX3_search 64 _ _ _ _ _ h
def fX4_init (fx : Nat) (a0 : Nat) (a1 : Nat) (a2 : Nat) (g : am_G) : Option (Unit × am_G) :=
  am_let (am_n g) fun p1 =>
  am_let (am_new g 20 24) fun g2 =>
  am_gd (decide (am_S g2 a0 = (4, 9))) <|
  am_gd (decide (fx ≤ a0)) <|
  am_let (am_sp g2 a0 2 (some p1)) fun g4 =>
  am_let (am_n g4) fun p6 =>
  am_let (am_new g4 22 24) fun g7 =>
  am_gd (decide (am_S g7 a0 = (4, 9))) <|
  am_gd (decide (fx ≤ a0)) <|
  am_let (am_sp g7 a0 3 (some p6)) fun g9 =>
  am_let (am_n g9) fun p11 =>
  am_let (am_new g9 20 144) fun g12 =>
  am_gd (decide (am_S g12 a0 = (4, 9))) <|
  am_gd (decide (fx ≤ a0)) <|
  am_let (am_sp g12 a0 4 (some p11)) fun g14 =>
  am_let (am_n g14) fun p16 =>
  am_let (am_new g14 20 6) fun g17 =>
  am_gd (decide (am_S g17 a0 = (4, 9))) <|
  am_gd (decide (fx ≤ a0)) <|
  am_let (am_sp g17 a0 5 (some p16)) fun g19 =>
  am_let (am_n g19) fun p21 =>
  am_let (am_new g19 20 6) fun g22 =>
  am_gd (decide (am_S g22 a0 = (4, 9))) <|
  am_gd (decide (fx ≤ a0)) <|
  am_let (am_sp g22 a0 6 (some p21)) fun g24 =>
  am_gd (decide (am_S g24 a0 = (4, 9))) <|
  am_gd (decide (fx ≤ a0)) <|
  am_let (am_sp g24 a0 0 (some a1)) fun g27 =>
  am_gd (decide (am_S g27 a0 = (4, 9))) <|
  am_gd (decide (fx ≤ a0)) <|
  am_let (am_sp g27 a0 1 (some a2)) fun g30 =>
  some ((), g30)
set_option maxRecDepth 100000 in
set_option maxHeartbeats 4000000 in
theorem eX4_init {Z : am_Z} {fx : Nat} (hF : ∀ g : am_G, am_ok Z g → ∀ k, Z.2 (am_n g) k = none) (hZ : ∀ a k, fx ≤ a → Z.2 a k = none) (a0 : Nat) (a1 : Nat) (a2 : Nat) (g : am_G) (r : Unit × am_G) (h : fX4_init fx a0 a1 a2 g = some r) : am_Ev Z MX4_init 0 0 [(0, .ref a0), (1, .ref a1), (2, .ref a2)] [] g (am_rv r) := by
  unfold fX4_init at h
  refine ev_aload_n 0 dX4_init_0 rfl ?_
  refine ev_objInit dX4_init_1 kM_X4_3 k_objI k_objC (Nat.le_of_ble_eq_true rfl) ?_
  refine ev_aload_n 0 dX4_init_4 rfl ?_
  refine ev_bipush dX4_init_5 rfl ?_
  refine ev_newa 20 24 dX4_init_7 (fun h9 => hF _ h9) (by decide) (by decide) kA_int (by decide) rfl (by decide) ?_
  refine am_let_elim (P := fun p1 => am_Ev Z MX4_init 0 9 [(0, .ref a0), (1, .ref a1), (2, .ref a2)] [.ref p1, .ref a0] (am_new g 20 24) (am_rv r)) h fun p1 h => ?_
  refine am_let_elim (P := fun g2 => am_Ev Z MX4_init 0 9 [(0, .ref a0), (1, .ref a1), (2, .ref a2)] [.ref p1, .ref a0] g2 (am_rv r)) h fun g2 h => ?_
  obtain ⟨c3, h⟩ := am_gd_elim h
  obtain ⟨c5, h⟩ := am_gd_elim h
  refine ev_pfr dX4_init_9 (fun _ => am_sh c3) 2 (by decide) (by decide) kF_X4_9 rfl ⟨rfl, rfl⟩ (hZ _ _ (of_decide_eq_true c5)) (fun _ => rfl) (fun _ => rfl) (fun _ => rfl) ?_
  refine am_let_elim (P := fun g4 => am_Ev Z MX4_init 0 12 [(0, .ref a0), (1, .ref a1), (2, .ref a2)] [] g4 (am_rv r)) h fun g4 h => ?_
  refine ev_aload_n 0 dX4_init_12 rfl ?_
  refine ev_bipush dX4_init_13 rfl ?_
  refine ev_newa 22 24 dX4_init_15 (fun h9 => hF _ h9) (by decide) (by decide) kA_boolean (by decide) rfl (by decide) ?_
  refine am_let_elim (P := fun p6 => am_Ev Z MX4_init 0 17 [(0, .ref a0), (1, .ref a1), (2, .ref a2)] [.ref p6, .ref a0] (am_new g4 22 24) (am_rv r)) h fun p6 h => ?_
  refine am_let_elim (P := fun g7 => am_Ev Z MX4_init 0 17 [(0, .ref a0), (1, .ref a1), (2, .ref a2)] [.ref p6, .ref a0] g7 (am_rv r)) h fun g7 h => ?_
  obtain ⟨c8, h⟩ := am_gd_elim h
  obtain ⟨c10, h⟩ := am_gd_elim h
  refine ev_pfr dX4_init_17 (fun _ => am_sh c8) 3 (by decide) (by decide) kF_X4_15 rfl ⟨rfl, rfl⟩ (hZ _ _ (of_decide_eq_true c10)) (fun _ => rfl) (fun _ => rfl) (fun _ => rfl) ?_
  refine am_let_elim (P := fun g9 => am_Ev Z MX4_init 0 20 [(0, .ref a0), (1, .ref a1), (2, .ref a2)] [] g9 (am_rv r)) h fun g9 h => ?_
  refine ev_aload_n 0 dX4_init_20 rfl ?_
  refine ev_sipush dX4_init_21 rfl ?_
  refine ev_newa 20 144 dX4_init_24 (fun h9 => hF _ h9) (by decide) (by decide) kA_int (by decide) rfl (by decide) ?_
  refine am_let_elim (P := fun p11 => am_Ev Z MX4_init 0 26 [(0, .ref a0), (1, .ref a1), (2, .ref a2)] [.ref p11, .ref a0] (am_new g9 20 144) (am_rv r)) h fun p11 h => ?_
  refine am_let_elim (P := fun g12 => am_Ev Z MX4_init 0 26 [(0, .ref a0), (1, .ref a1), (2, .ref a2)] [.ref p11, .ref a0] g12 (am_rv r)) h fun g12 h => ?_
  obtain ⟨c13, h⟩ := am_gd_elim h
  obtain ⟨c15, h⟩ := am_gd_elim h
  refine ev_pfr dX4_init_26 (fun _ => am_sh c13) 4 (by decide) (by decide) kF_X4_19 rfl ⟨rfl, rfl⟩ (hZ _ _ (of_decide_eq_true c15)) (fun _ => rfl) (fun _ => rfl) (fun _ => rfl) ?_
  refine am_let_elim (P := fun g14 => am_Ev Z MX4_init 0 29 [(0, .ref a0), (1, .ref a1), (2, .ref a2)] [] g14 (am_rv r)) h fun g14 h => ?_
  refine ev_aload_n 0 dX4_init_29 rfl ?_
  refine ev_bipush dX4_init_30 rfl ?_
  refine ev_newa 20 6 dX4_init_32 (fun h9 => hF _ h9) (by decide) (by decide) kA_int (by decide) rfl (by decide) ?_
  refine am_let_elim (P := fun p16 => am_Ev Z MX4_init 0 34 [(0, .ref a0), (1, .ref a1), (2, .ref a2)] [.ref p16, .ref a0] (am_new g14 20 6) (am_rv r)) h fun p16 h => ?_
  refine am_let_elim (P := fun g17 => am_Ev Z MX4_init 0 34 [(0, .ref a0), (1, .ref a1), (2, .ref a2)] [.ref p16, .ref a0] g17 (am_rv r)) h fun g17 h => ?_
  obtain ⟨c18, h⟩ := am_gd_elim h
  obtain ⟨c20, h⟩ := am_gd_elim h
  refine ev_pfr dX4_init_34 (fun _ => am_sh c18) 5 (by decide) (by decide) kF_X4_22 rfl ⟨rfl, rfl⟩ (hZ _ _ (of_decide_eq_true c20)) (fun _ => rfl) (fun _ => rfl) (fun _ => rfl) ?_
  refine am_let_elim (P := fun g19 => am_Ev Z MX4_init 0 37 [(0, .ref a0), (1, .ref a1), (2, .ref a2)] [] g19 (am_rv r)) h fun g19 h => ?_
  refine ev_aload_n 0 dX4_init_37 rfl ?_
  refine ev_bipush dX4_init_38 rfl ?_
  refine ev_newa 20 6 dX4_init_40 (fun h9 => hF _ h9) (by decide) (by decide) kA_int (by decide) rfl (by decide) ?_
  refine am_let_elim (P := fun p21 => am_Ev Z MX4_init 0 42 [(0, .ref a0), (1, .ref a1), (2, .ref a2)] [.ref p21, .ref a0] (am_new g19 20 6) (am_rv r)) h fun p21 h => ?_
  refine am_let_elim (P := fun g22 => am_Ev Z MX4_init 0 42 [(0, .ref a0), (1, .ref a1), (2, .ref a2)] [.ref p21, .ref a0] g22 (am_rv r)) h fun g22 h => ?_
  obtain ⟨c23, h⟩ := am_gd_elim h
  obtain ⟨c25, h⟩ := am_gd_elim h
  refine ev_pfr dX4_init_42 (fun _ => am_sh c23) 6 (by decide) (by decide) kF_X4_25 rfl ⟨rfl, rfl⟩ (hZ _ _ (of_decide_eq_true c25)) (fun _ => rfl) (fun _ => rfl) (fun _ => rfl) ?_
  refine am_let_elim (P := fun g24 => am_Ev Z MX4_init 0 45 [(0, .ref a0), (1, .ref a1), (2, .ref a2)] [] g24 (am_rv r)) h fun g24 h => ?_
  refine ev_aload_n 0 dX4_init_45 rfl ?_
  refine ev_aload_n 1 dX4_init_46 rfl ?_
  obtain ⟨c26, h⟩ := am_gd_elim h
  obtain ⟨c28, h⟩ := am_gd_elim h
  refine ev_pfr dX4_init_47 (fun _ => am_sh c26) 0 (by decide) (by decide) kF_X4_28 rfl ⟨rfl, rfl⟩ (hZ _ _ (of_decide_eq_true c28)) (fun _ => rfl) (fun _ => rfl) (fun _ => rfl) ?_
  refine am_let_elim (P := fun g27 => am_Ev Z MX4_init 0 50 [(0, .ref a0), (1, .ref a1), (2, .ref a2)] [] g27 (am_rv r)) h fun g27 h => ?_
  refine ev_aload_n 0 dX4_init_50 rfl ?_
  refine ev_aload_n 2 dX4_init_51 rfl ?_
  obtain ⟨c29, h⟩ := am_gd_elim h
  obtain ⟨c31, h⟩ := am_gd_elim h
  refine ev_pfr dX4_init_52 (fun _ => am_sh c29) 1 (by decide) (by decide) kF_X4_32 rfl ⟨rfl, rfl⟩ (hZ _ _ (of_decide_eq_true c31)) (fun _ => rfl) (fun _ => rfl) (fun _ => rfl) ?_
  refine am_let_elim (P := fun g30 => am_Ev Z MX4_init 0 55 [(0, .ref a0), (1, .ref a1), (2, .ref a2)] [] g30 (am_rv r)) h fun g30 h => ?_
  cases h
  exact ev_ret dX4_init_55 rfl
theorem tX4_init {Z : am_Z} {fx : Nat} (hF : ∀ g : am_G, am_ok Z g → ∀ k, Z.2 (am_n g) k = none) (hZ : ∀ a k, fx ≤ a → Z.2 a k = none) {a0 : Nat} {a1 : Nat} {a2 : Nat} {g : am_G} {r : Unit × am_G} (h : fX4_init fx a0 a1 a2 g = some r) : am_Mt Z MX4_init 0 [.ref a0, .ref a1, .ref a2] g (am_rv r) := am_Mt.of rfl (Nat.le_of_ble_eq_true rfl) (eX4_init hF hZ _ _ _ _ _ h)
def fX4_noteDay_L13 (k : am_G → Option (Unit × am_G)) (a1 : Int32) (a2 : Nat) : Nat → Int32 → am_G → Option (Unit × am_G)
  | 0, _, _ => none
  | n + 1, x5, g6 =>
    if (6 : Int32) ≤ x5 then (
      k g6)
    else (
      am_bd (fX9_roomOn x5 a2 g6) fun v9 g10 =>
      am_gd (am_in ((a1 * (6 : Int32)) + x5) 24) <|
      am_let (am_si g10 46 ((a1 * (6 : Int32)) + x5).toNatClampNeg v9) fun g13 =>
      am_let (x5 + (1 : Int32)) fun x14 =>
      fX4_noteDay_L13 k a1 a2 n x14 g13)
def fX4_noteDay_L125 (k : am_G → Option (Unit × am_G)) (a1 : Int32) (a2 : Nat) (x16 : Int32) (x19 : Int32) : Nat → Int32 → am_G → Option (Unit × am_G)
  | 0, _, _ => none
  | n + 1, x36, g37 =>
    if (6 : Int32) ≤ x36 then (
      k g37)
    else (
      am_gd (decide (am_S g37 a2 = (2, 8))) <|
      am_oc (am_P g37 a2 0) (fun p41 =>
      am_gd (decide ((am_S g37 p41).1 = 20)) <|
      am_gd (am_in x36 ((am_S g37 p41).2)) <|
      am_bd (fX0_shakes x36 (am_I g37 p41 x36.toNatClampNeg) g37) fun v45 g46 =>
      am_gd (am_in ((x19 * (6 : Int32)) + x36) 144) <|
      am_let (am_si g46 48 ((x19 * (6 : Int32)) + x36).toNatClampNeg v45) fun g49 =>
      am_let (x36 + (1 : Int32)) fun x50 =>
      fX4_noteDay_L125 k a1 a2 x16 x19 n x50 g49) none)
def fX4_noteDay_L47 (a1 : Int32) (a2 : Nat) : Nat → Int32 → am_G → Option (Unit × am_G)
  | 0, _, _ => none
  | n + 1, x16, g17 =>
    if (am_I g17 1 15) ≤ x16 then (
      some ((), g17))
    else (
      am_let ((a1 * (6 : Int32)) + x16) fun x19 =>
      am_gd (am_in x16 6) <|
      am_gd (am_in x16 6) <|
      am_gd (am_in x16 6) <|
      am_bd (fX0_ofSaid (am_I g17 18 x16.toNatClampNeg) (am_I g17 19 x16.toNatClampNeg) (am_I g17 20 x16.toNatClampNeg) g17) fun u23 g24 =>
      am_bd (fX0_bars g24) fun v26 g27 =>
      am_jn (fun (x30 : Int32) (g31 : am_G) =>
        am_gd (am_in x19 24) <|
        am_gd (am_zb x30) <|
        am_let (am_si g31 47 x19.toNatClampNeg x30) fun g35 =>
        fX4_noteDay_L125 (fun  (g51 : am_G) =>
          am_let (x16 + (1 : Int32)) fun x52 =>
          fX4_noteDay_L47 a1 a2 n x52 g51) a1 a2 x16 x19 am_fu (0 : Int32) g35) fun j32 =>
      if v26 = 0 then (
        j32 (1 : Int32) g27)
      else (
        j32 (0 : Int32) g27))
def fX4_noteDay (a1 : Int32) (a2 : Nat) (g : am_G) : Option (Unit × am_G) :=
  am_gd (decide (am_S g a2 = (2, 8))) <|
  am_bd (fX0_onDay (am_I g a2 5) g) fun u2 g3 =>
  fX4_noteDay_L13 (fun  (g15 : am_G) =>
    fX4_noteDay_L47 a1 a2 am_fu (0 : Int32) g15) a1 a2 am_fu (0 : Int32) g3
set_option maxRecDepth 100000 in
set_option maxHeartbeats 4000000 in
theorem tfX4_noteDay_L13  {k : am_G → Option (Unit × am_G)} (a1 : Int32) (a2 : Nat) (hk : ∀  (g7 : am_G) (r : Unit × am_G), k  g7 = some r → am_Ev zc MX4_noteDay 4 45 [(0, .ref 45), (1, .int a1), (2, .ref a2)] [] g7 (am_rv r)) : ∀ (n : Nat) (x5 : Int32) (g6 : am_G) (r : Unit × am_G), fX4_noteDay_L13 k a1 a2 n x5 g6 = some r → am_Ev zc MX4_noteDay 4 13 [(0, .ref 45), (1, .int a1), (2, .ref a2), (3, .int x5)] [] g6 (am_rv r) := by
  intro n
  induction n with
  | zero => intro x5 g6 r h; exact nomatch (show (none : Option (Unit × am_G)) = some r from h)
  | succ n ih =>
    intro x5 g6 r h
    rw [fX4_noteDay_L13] at h
    refine ev_iload_n 3 dX4_noteDay_13 rfl ?_
    refine ev_bipush dX4_noteDay_14 rfl ?_
    refine ev_icmp_ge 45 dX4_noteDay_16 (by decide) (fun c8 => ?_) (fun c8 => ?_)
    · replace h := am_ifp c8 h
      refine ev_sub [0, 1, 2] rfl ?_
      exact hk  _ _ h
    · replace h := am_ifn c8 h
      refine ev_aload_n 0 dX4_noteDay_19 rfl ?_
      refine ev_gf (v := .ref 46) dX4_noteDay_20 (fun h9 => (h9.2.1 45 _ rfl).2) 2 (by decide) (by decide) kF_X4_9 (fun h9 => congrArg va_rf (h9.2.2 45 2 46 rfl)) ?_
      refine ev_iload_n 1 dX4_noteDay_23 rfl ?_
      refine ev_bipush dX4_noteDay_24 rfl ?_
      refine ev_imul dX4_noteDay_26 ?_
      refine ev_iload_n 3 dX4_noteDay_27 rfl ?_
      refine ev_iadd dX4_noteDay_28 ?_
      refine ev_aload_n 0 dX4_noteDay_29 rfl ?_
      refine ev_gf (v := .ref 1) dX4_noteDay_30 (fun h9 => (h9.2.1 45 _ rfl).2) 0 (by decide) (by decide) kF_X4_28 (fun h9 => congrArg va_rf (h9.2.2 45 0 1 rfl)) ?_
      refine ev_iload_n 3 dX4_noteDay_33 rfl ?_
      refine ev_aload_n 2 dX4_noteDay_34 rfl ?_
      obtain ⟨v9, g10, e11, h⟩ := am_bd_elim h
      refine ev_callVi (v := v9) [.int x5, .ref a2] [.int ((a1 * (6 : Int32)) + x5), .ref 46] dX4_noteDay_35 (tX9_roomOn e11) (by decide) mo_X9_roomOn kM_X4_48 ki_X9_roomOn kv_X9_roomOn (fun h9 => (h9.2.1 1 _ rfl).2) (by decide) rfl (Nat.le_of_ble_eq_true rfl) ?_
      obtain ⟨c12, h⟩ := am_gd_elim h
      refine ev_iast dX4_noteDay_38 (fun h9 => (h9.2.1 46 _ rfl).2) (am_in_vp c12) ?_
      refine am_let_elim (P := fun g13 => am_Ev zc MX4_noteDay 4 39 [(0, .ref 45), (1, .int a1), (2, .ref a2), (3, .int x5)] [] g13 (am_rv r)) h fun g13 h => ?_
      obtain ⟨x14, ex14, h⟩ := am_let_ex h
      refine ev_iinc (ls' := [(3, .int x14), (0, .ref 45), (1, .int a1), (2, .ref a2)]) 3 dX4_noteDay_39 rfl ex14 (by decide) rfl ?_
      refine ev_goto 13 dX4_noteDay_42 (by decide) ?_
      refine ev_sub [1, 2, 3, 0] rfl ?_
      exact ih _ _ _ h
set_option maxRecDepth 100000 in
set_option maxHeartbeats 4000000 in
theorem tfX4_noteDay_L125  {k : am_G → Option (Unit × am_G)} (a1 : Int32) (a2 : Nat) (x16 : Int32) (x19 : Int32) (hk : ∀  (g38 : am_G) (r : Unit × am_G), k  g38 = some r → am_Ev zc MX4_noteDay 4 167 [(0, .ref 45), (1, .int a1), (2, .ref a2), (3, .int x16)] [] g38 (am_rv r)) : ∀ (n : Nat) (x36 : Int32) (g37 : am_G) (r : Unit × am_G), fX4_noteDay_L125 k a1 a2 x16 x19 n x36 g37 = some r → am_Ev zc MX4_noteDay 4 125 [(0, .ref 45), (1, .int a1), (2, .ref a2), (3, .int x16), (4, .int x19), (5, .int x36)] [] g37 (am_rv r) := by
  intro n
  induction n with
  | zero => intro x36 g37 r h; exact nomatch (show (none : Option (Unit × am_G)) = some r from h)
  | succ n ih =>
    intro x36 g37 r h
    rw [fX4_noteDay_L125] at h
    refine ev_iload 5 dX4_noteDay_125 rfl ?_
    refine ev_bipush dX4_noteDay_127 rfl ?_
    refine ev_icmp_ge 167 dX4_noteDay_129 (by decide) (fun c39 => ?_) (fun c39 => ?_)
    · replace h := am_ifp c39 h
      refine ev_sub [0, 1, 2, 3] rfl ?_
      exact hk  _ _ h
    · replace h := am_ifn c39 h
      refine ev_aload_n 0 dX4_noteDay_132 rfl ?_
      refine ev_gf (v := .ref 48) dX4_noteDay_133 (fun h9 => (h9.2.1 45 _ rfl).2) 4 (by decide) (by decide) kF_X4_19 (fun h9 => congrArg va_rf (h9.2.2 45 4 48 rfl)) ?_
      refine ev_iload 4 dX4_noteDay_136 rfl ?_
      refine ev_bipush dX4_noteDay_138 rfl ?_
      refine ev_imul dX4_noteDay_140 ?_
      refine ev_iload 5 dX4_noteDay_141 rfl ?_
      refine ev_iadd dX4_noteDay_143 ?_
      refine ev_aload_n 0 dX4_noteDay_144 rfl ?_
      refine ev_gf (v := .ref 36) dX4_noteDay_145 (fun h9 => (h9.2.1 45 _ rfl).2) 1 (by decide) (by decide) kF_X4_32 (fun h9 => congrArg va_rf (h9.2.2 45 1 36 rfl)) ?_
      refine ev_iload 5 dX4_noteDay_148 rfl ?_
      refine ev_aload_n 2 dX4_noteDay_150 rfl ?_
      obtain ⟨c40, h⟩ := am_gd_elim h
      refine am_oc_elim h (fun p41 e42 h => ?_) (fun _ h => nomatch h)
      refine ev_gf (v := .ref p41) dX4_noteDay_151 (fun _ => am_sh c40) 0 (by decide) (by decide) kF_X4_74 (fun _ => congrArg va_rf e42) ?_
      refine ev_iload 5 dX4_noteDay_154 rfl ?_
      obtain ⟨c43, h⟩ := am_gd_elim h
      obtain ⟨c44, h⟩ := am_gd_elim h
      refine ev_iald dX4_noteDay_156 (fun _ => am_shk c43) (am_in_vp c44) ?_
      obtain ⟨v45, g46, e47, h⟩ := am_bd_elim h
      refine ev_callVi (v := v45) [.int x36, .int (am_I g37 p41 x36.toNatClampNeg)] [.int ((x19 * (6 : Int32)) + x36), .ref 48] dX4_noteDay_157 (tX0_shakes e47) (by decide) mo_X0_shakes kM_X4_77 ki_X0_shakes kv_X0_shakes (fun h9 => (h9.2.1 36 _ rfl).2) (by decide) rfl (Nat.le_of_ble_eq_true rfl) ?_
      obtain ⟨c48, h⟩ := am_gd_elim h
      refine ev_iast dX4_noteDay_160 (fun h9 => (h9.2.1 48 _ rfl).2) (am_in_vp c48) ?_
      refine am_let_elim (P := fun g49 => am_Ev zc MX4_noteDay 4 161 [(0, .ref 45), (1, .int a1), (2, .ref a2), (3, .int x16), (4, .int x19), (5, .int x36)] [] g49 (am_rv r)) h fun g49 h => ?_
      obtain ⟨x50, ex50, h⟩ := am_let_ex h
      refine ev_iinc (ls' := [(5, .int x50), (0, .ref 45), (1, .int a1), (2, .ref a2), (3, .int x16), (4, .int x19)]) 5 dX4_noteDay_161 rfl ex50 (by decide) rfl ?_
      refine ev_goto 125 dX4_noteDay_164 (by decide) ?_
      refine ev_sub [1, 2, 3, 4, 5, 0] rfl ?_
      exact ih _ _ _ h
set_option maxRecDepth 100000 in
set_option maxHeartbeats 4000000 in
theorem tfX4_noteDay_L47  (a1 : Int32) (a2 : Nat) : ∀ (n : Nat) (x16 : Int32) (g17 : am_G) (r : Unit × am_G), fX4_noteDay_L47 a1 a2 n x16 g17 = some r → am_Ev zc MX4_noteDay 4 47 [(0, .ref 45), (1, .int a1), (2, .ref a2), (3, .int x16)] [] g17 (am_rv r) := by
  intro n
  induction n with
  | zero => intro x16 g17 r h; exact nomatch (show (none : Option (Unit × am_G)) = some r from h)
  | succ n ih =>
    intro x16 g17 r h
    rw [fX4_noteDay_L47] at h
    refine ev_iload_n 3 dX4_noteDay_47 rfl ?_
    refine ev_aload_n 0 dX4_noteDay_48 rfl ?_
    refine ev_gf (v := .ref 1) dX4_noteDay_49 (fun h9 => (h9.2.1 45 _ rfl).2) 0 (by decide) (by decide) kF_X4_28 (fun h9 => congrArg va_rf (h9.2.2 45 0 1 rfl)) ?_
    refine ev_gf (v := .int (am_I g17 1 15)) dX4_noteDay_52 (fun h9 => (h9.2.1 1 _ rfl).2) 15 (by decide) (by decide) kF_X4_54 (fun _ => rfl) ?_
    refine ev_icmp_ge 173 dX4_noteDay_55 (by decide) (fun c18 => ?_) (fun c18 => ?_)
    · replace h := am_ifp c18 h
      cases h
      exact ev_ret dX4_noteDay_173 rfl
    · replace h := am_ifn c18 h
      refine ev_iload_n 1 dX4_noteDay_58 rfl ?_
      refine ev_bipush dX4_noteDay_59 rfl ?_
      refine ev_imul dX4_noteDay_61 ?_
      refine ev_iload_n 3 dX4_noteDay_62 rfl ?_
      refine ev_iadd dX4_noteDay_63 ?_
      refine am_let_elim (P := fun x19 => am_Ev zc MX4_noteDay 4 64 [(0, .ref 45), (1, .int a1), (2, .ref a2), (3, .int x16)] [.int x19] g17 (am_rv r)) h fun x19 h => ?_
      refine ev_istore (ls' := [(4, .int x19), (0, .ref 45), (1, .int a1), (2, .ref a2), (3, .int x16)]) dX4_noteDay_64 (by decide) rfl ?_
      refine ev_aload_n 1 dX4_noteDay_66 rfl ?_
      refine ev_gf (v := .ref 36) dX4_noteDay_67 (fun h9 => (h9.2.1 45 _ rfl).2) 1 (by decide) (by decide) kF_X4_32 (fun h9 => congrArg va_rf (h9.2.2 45 1 36 rfl)) ?_
      refine ev_aload_n 1 dX4_noteDay_70 rfl ?_
      refine ev_gf (v := .ref 1) dX4_noteDay_71 (fun h9 => (h9.2.1 45 _ rfl).2) 0 (by decide) (by decide) kF_X4_28 (fun h9 => congrArg va_rf (h9.2.2 45 0 1 rfl)) ?_
      refine ev_gf (v := .ref 18) dX4_noteDay_74 (fun h9 => (h9.2.1 1 _ rfl).2) 7 (by decide) (by decide) kF_X4_57 (fun h9 => congrArg va_rf (h9.2.2 1 7 18 rfl)) ?_
      refine ev_iload_n 4 dX4_noteDay_77 rfl ?_
      obtain ⟨c20, h⟩ := am_gd_elim h
      refine ev_iald dX4_noteDay_78 (fun h9 => (h9.2.1 18 _ rfl).2) (am_in_vp c20) ?_
      refine ev_aload_n 1 dX4_noteDay_79 rfl ?_
      refine ev_gf (v := .ref 1) dX4_noteDay_80 (fun h9 => (h9.2.1 45 _ rfl).2) 0 (by decide) (by decide) kF_X4_28 (fun h9 => congrArg va_rf (h9.2.2 45 0 1 rfl)) ?_
      refine ev_gf (v := .ref 19) dX4_noteDay_83 (fun h9 => (h9.2.1 1 _ rfl).2) 8 (by decide) (by decide) kF_X4_60 (fun h9 => congrArg va_rf (h9.2.2 1 8 19 rfl)) ?_
      refine ev_iload_n 4 dX4_noteDay_86 rfl ?_
      obtain ⟨c21, h⟩ := am_gd_elim h
      refine ev_iald dX4_noteDay_87 (fun h9 => (h9.2.1 19 _ rfl).2) (am_in_vp c21) ?_
      refine ev_aload_n 1 dX4_noteDay_88 rfl ?_
      refine ev_gf (v := .ref 1) dX4_noteDay_89 (fun h9 => (h9.2.1 45 _ rfl).2) 0 (by decide) (by decide) kF_X4_28 (fun h9 => congrArg va_rf (h9.2.2 45 0 1 rfl)) ?_
      refine ev_gf (v := .ref 20) dX4_noteDay_92 (fun h9 => (h9.2.1 1 _ rfl).2) 9 (by decide) (by decide) kF_X4_63 (fun h9 => congrArg va_rf (h9.2.2 1 9 20 rfl)) ?_
      refine ev_iload_n 4 dX4_noteDay_95 rfl ?_
      obtain ⟨c22, h⟩ := am_gd_elim h
      refine ev_iald dX4_noteDay_96 (fun h9 => (h9.2.1 20 _ rfl).2) (am_in_vp c22) ?_
      obtain ⟨u23, g24, e25, h⟩ := am_bd_elim h
      refine ev_callVv [.int (am_I g17 18 x16.toNatClampNeg), .int (am_I g17 19 x16.toNatClampNeg), .int (am_I g17 20 x16.toNatClampNeg)] [] dX4_noteDay_97 (tX0_ofSaid e25) (by decide) mo_X0_ofSaid kM_X4_66 ki_X0_ofSaid kv_X0_ofSaid (fun h9 => (h9.2.1 36 _ rfl).2) (by decide) rfl (Nat.le_of_ble_eq_true rfl) ?_
      refine ev_aload_n 1 dX4_noteDay_100 rfl ?_
      refine ev_gf (v := .ref 47) dX4_noteDay_101 (fun h9 => (h9.2.1 45 _ rfl).2) 3 (by decide) (by decide) kF_X4_15 (fun h9 => congrArg va_rf (h9.2.2 45 3 47 rfl)) ?_
      refine ev_iload 0 dX4_noteDay_104 rfl ?_
      refine ev_aload_n 1 dX4_noteDay_106 rfl ?_
      refine ev_gf (v := .ref 36) dX4_noteDay_107 (fun h9 => (h9.2.1 45 _ rfl).2) 1 (by decide) (by decide) kF_X4_32 (fun h9 => congrArg va_rf (h9.2.2 45 1 36 rfl)) ?_
      obtain ⟨v26, g27, e28, h⟩ := am_bd_elim h
      refine ev_callVi (v := v26) [] [.int x19, .ref 47] dX4_noteDay_110 (tX0_bars e28) (by decide) mo_X0_bars kM_X4_70 ki_X0_bars kv_X0_bars (fun h9 => (h9.2.1 36 _ rfl).2) (by decide) rfl (Nat.le_of_ble_eq_true rfl) ?_
      refine am_jn_elim (fun q9 => ∀ (x30 : Int32) (g31 : am_G) (r : Unit × am_G), q9 x30 g31 = some r → am_Ev zc MX4_noteDay 4 121 [(0, .ref 45), (1, .int a1), (2, .ref a2), (3, .int x16), (4, .int x19)] [.int x30, .int x19, .ref 47] g31 (am_rv r)) h ?_ (fun j32 hj32 h => ?_)
      · intro x30 g31 r h
        try dsimp only at h
        obtain ⟨c33, h⟩ := am_gd_elim h
        obtain ⟨c34, h⟩ := am_gd_elim h
        refine ev_zast' dX4_noteDay_121 (fun h9 => (h9.2.1 47 _ rfl).2) c34 (am_in_vp c33) ?_
        refine am_let_elim (P := fun g35 => am_Ev zc MX4_noteDay 4 122 [(0, .ref 45), (1, .int a1), (2, .ref a2), (3, .int x16), (4, .int x19)] [] g35 (am_rv r)) h fun g35 h => ?_
        refine ev_iconst dX4_noteDay_122 rfl ?_
        refine ev_istore (ls' := [(5, .int (0 : Int32)), (0, .ref 45), (1, .int a1), (2, .ref a2), (3, .int x16), (4, .int x19)]) dX4_noteDay_123 (by decide) rfl ?_
        refine ev_sub [1, 2, 3, 4, 5, 0] rfl ?_
        refine tfX4_noteDay_L125 a1 a2 x16 x19 ?_ _ _ _ _ h
        intro  g51 r h
        try dsimp only at h
        obtain ⟨x52, ex52, h⟩ := am_let_ex h
        refine ev_iinc (ls' := [(3, .int x52), (0, .ref 45), (1, .int a1), (2, .ref a2)]) 3 dX4_noteDay_167 rfl ex52 (by decide) rfl ?_
        refine ev_goto 47 dX4_noteDay_170 (by decide) ?_
        refine ev_sub [1, 2, 3, 0] rfl ?_
        exact ih _ _ _ h
      · refine ev_if_ne 120 dX4_noteDay_113 (by decide) (fun c29 => ?_) (fun c29 => ?_)
        · replace h := am_ifn c29 h
          refine ev_iconst dX4_noteDay_120 rfl ?_
          refine ev_sub [1, 2, 3, 4, 0] rfl ?_
          exact hj32 _ _ _ h
        · replace h := am_ifp c29 h
          refine ev_iconst dX4_noteDay_116 rfl ?_
          refine ev_goto 121 dX4_noteDay_117 (by decide) ?_
          refine ev_sub [1, 2, 3, 4, 0] rfl ?_
          exact hj32 _ _ _ h
set_option maxRecDepth 100000 in
set_option maxHeartbeats 4000000 in
theorem eX4_noteDay (a1 : Int32) (a2 : Nat) (g : am_G) (r : Unit × am_G) (h : fX4_noteDay a1 a2 g = some r) : am_Ev zc MX4_noteDay 4 0 [(0, .ref 45), (1, .int a1), (2, .ref a2)] [] g (am_rv r) := by
  unfold fX4_noteDay at h
  refine ev_aload_n 0 dX4_noteDay_0 rfl ?_
  refine ev_gf (v := .ref 36) dX4_noteDay_1 (fun h9 => (h9.2.1 45 _ rfl).2) 1 (by decide) (by decide) kF_X4_32 (fun h9 => congrArg va_rf (h9.2.2 45 1 36 rfl)) ?_
  refine ev_aload_n 2 dX4_noteDay_4 rfl ?_
  obtain ⟨c1, h⟩ := am_gd_elim h
  refine ev_gf (v := .int (am_I g a2 5)) dX4_noteDay_5 (fun _ => am_sh c1) 5 (by decide) (by decide) kF_X4_36 (fun _ => rfl) ?_
  obtain ⟨u2, g3, e4, h⟩ := am_bd_elim h
  refine ev_callVv [.int (am_I g a2 5)] [] dX4_noteDay_8 (tX0_onDay e4) (by decide) mo_X0_onDay kM_X4_42 ki_X0_onDay kv_X0_onDay (fun h9 => (h9.2.1 36 _ rfl).2) (by decide) rfl (Nat.le_of_ble_eq_true rfl) ?_
  refine ev_iconst dX4_noteDay_11 rfl ?_
  refine ev_istore_n (ls' := [(3, .int (0 : Int32)), (0, .ref 45), (1, .int a1), (2, .ref a2)]) dX4_noteDay_12 rfl (by decide) rfl ?_
  refine ev_sub [1, 2, 3, 0] rfl ?_
  refine tfX4_noteDay_L13 a1 a2 ?_ _ _ _ _ h
  intro  g15 r h
  try dsimp only at h
  refine ev_iconst dX4_noteDay_45 rfl ?_
  refine ev_istore_n (ls' := [(3, .int (0 : Int32)), (0, .ref 45), (1, .int a1), (2, .ref a2)]) dX4_noteDay_46 rfl (by decide) rfl ?_
  refine ev_sub [1, 2, 3, 0] rfl ?_
  exact tfX4_noteDay_L47 a1 a2 _ _ _ _ h
theorem tX4_noteDay {a1 : Int32} {a2 : Nat} {g : am_G} {r : Unit × am_G} (h : fX4_noteDay a1 a2 g = some r) : am_Mt zc MX4_noteDay 4 [.ref 45, .int a1, .ref a2] g (am_rv r) := am_Mt.of rfl (Nat.le_of_ble_eq_true rfl) (eX4_noteDay _ _ _ _ h)
def fX4_begin (a1 : Int32) (g : am_G) : Option (Unit × am_G) :=
  am_let (am_si g 45 7 a1) fun g1 =>
  am_let (am_si g1 45 8 (0 : Int32)) fun g2 =>
  some ((), g2)
set_option maxRecDepth 100000 in
set_option maxHeartbeats 4000000 in
theorem eX4_begin (a1 : Int32) (g : am_G) (r : Unit × am_G) (h : fX4_begin a1 g = some r) : am_Ev zc MX4_begin 0 0 [(0, .ref 45), (1, .int a1)] [] g (am_rv r) := by
  unfold fX4_begin at h
  refine ev_aload_n 0 dX4_begin_0 rfl ?_
  refine ev_iload_n 1 dX4_begin_1 rfl ?_
  refine ev_pfi dX4_begin_2 (fun h9 => (h9.2.1 45 _ rfl).2) 7 (by decide) (by decide) kF_X4_80 rfl rfl rfl (fun _ => rfl) ?_
  refine am_let_elim (P := fun g1 => am_Ev zc MX4_begin 0 5 [(0, .ref 45), (1, .int a1)] [] g1 (am_rv r)) h fun g1 h => ?_
  refine ev_aload_n 0 dX4_begin_5 rfl ?_
  refine ev_iconst dX4_begin_6 rfl ?_
  refine ev_pfi dX4_begin_7 (fun h9 => (h9.2.1 45 _ rfl).2) 8 (by decide) (by decide) kF_X4_83 rfl rfl rfl (fun _ => rfl) ?_
  refine am_let_elim (P := fun g2 => am_Ev zc MX4_begin 0 10 [(0, .ref 45), (1, .int a1)] [] g2 (am_rv r)) h fun g2 h => ?_
  cases h
  exact ev_ret dX4_begin_10 rfl
theorem tX4_begin {a1 : Int32} {g : am_G} {r : Unit × am_G} (h : fX4_begin a1 g = some r) : am_Mt zc MX4_begin 0 [.ref 45, .int a1] g (am_rv r) := am_Mt.of rfl (Nat.le_of_ble_eq_true rfl) (eX4_begin _ _ _ h)
def fX4_fits_L2 (a1 : Int32) (a2 : Int32) : Nat → Int32 → am_G → Option (Int32 × am_G)
  | 0, _, _ => none
  | n + 1, x1, g2 =>
    if (6 : Int32) ≤ x1 then (
      some ((1 : Int32), g2))
    else (
      am_gd (am_in ((a1 * (6 : Int32)) + x1) 24) <|
      am_gd (am_in ((a2 * (6 : Int32)) + x1) 144) <|
      if (am_I g2 48 ((a2 * (6 : Int32)) + x1).toNatClampNeg) ≤ (am_I g2 46 ((a1 * (6 : Int32)) + x1).toNatClampNeg) then (
        am_let (x1 + (1 : Int32)) fun x7 =>
        fX4_fits_L2 a1 a2 n x7 g2)
      else (
        some ((0 : Int32), g2)))
def fX4_fits (a1 : Int32) (a2 : Int32) (g : am_G) : Option (Int32 × am_G) :=
  fX4_fits_L2 a1 a2 am_fu (0 : Int32) g
set_option maxRecDepth 100000 in
set_option maxHeartbeats 4000000 in
theorem tfX4_fits_L2  (a1 : Int32) (a2 : Int32) : ∀ (n : Nat) (x1 : Int32) (g2 : am_G) (r : Int32 × am_G), fX4_fits_L2 a1 a2 n x1 g2 = some r → am_Ev zc MX4_fits 0 2 [(0, .ref 45), (1, .int a1), (2, .int a2), (3, .int x1)] [] g2 (am_ri r) := by
  intro n
  induction n with
  | zero => intro x1 g2 r h; exact nomatch (show (none : Option (Int32 × am_G)) = some r from h)
  | succ n ih =>
    intro x1 g2 r h
    rw [fX4_fits_L2] at h
    refine ev_iload_n 3 dX4_fits_2 rfl ?_
    refine ev_bipush dX4_fits_3 rfl ?_
    refine ev_icmp_ge 41 dX4_fits_5 (by decide) (fun c3 => ?_) (fun c3 => ?_)
    · replace h := am_ifp c3 h
      refine ev_iconst dX4_fits_41 rfl ?_
      cases h
      exact ev_zret dX4_fits_42 rfl rfl
    · replace h := am_ifn c3 h
      refine ev_aload_n 0 dX4_fits_8 rfl ?_
      refine ev_gf (v := .ref 46) dX4_fits_9 (fun h9 => (h9.2.1 45 _ rfl).2) 2 (by decide) (by decide) kF_X4_9 (fun h9 => congrArg va_rf (h9.2.2 45 2 46 rfl)) ?_
      refine ev_iload_n 1 dX4_fits_12 rfl ?_
      refine ev_bipush dX4_fits_13 rfl ?_
      refine ev_imul dX4_fits_15 ?_
      refine ev_iload_n 3 dX4_fits_16 rfl ?_
      refine ev_iadd dX4_fits_17 ?_
      obtain ⟨c4, h⟩ := am_gd_elim h
      refine ev_iald dX4_fits_18 (fun h9 => (h9.2.1 46 _ rfl).2) (am_in_vp c4) ?_
      refine ev_aload_n 0 dX4_fits_19 rfl ?_
      refine ev_gf (v := .ref 48) dX4_fits_20 (fun h9 => (h9.2.1 45 _ rfl).2) 4 (by decide) (by decide) kF_X4_19 (fun h9 => congrArg va_rf (h9.2.2 45 4 48 rfl)) ?_
      refine ev_iload_n 2 dX4_fits_23 rfl ?_
      refine ev_bipush dX4_fits_24 rfl ?_
      refine ev_imul dX4_fits_26 ?_
      refine ev_iload_n 3 dX4_fits_27 rfl ?_
      refine ev_iadd dX4_fits_28 ?_
      obtain ⟨c5, h⟩ := am_gd_elim h
      refine ev_iald dX4_fits_29 (fun h9 => (h9.2.1 48 _ rfl).2) (am_in_vp c5) ?_
      refine ev_icmp_ge 35 dX4_fits_30 (by decide) (fun c6 => ?_) (fun c6 => ?_)
      · replace h := am_ifp c6 h
        obtain ⟨x7, ex7, h⟩ := am_let_ex h
        refine ev_iinc (ls' := [(3, .int x7), (0, .ref 45), (1, .int a1), (2, .int a2)]) 3 dX4_fits_35 rfl ex7 (by decide) rfl ?_
        refine ev_goto 2 dX4_fits_38 (by decide) ?_
        refine ev_sub [1, 2, 3, 0] rfl ?_
        exact ih _ _ _ h
      · replace h := am_ifn c6 h
        refine ev_iconst dX4_fits_33 rfl ?_
        cases h
        exact ev_zret dX4_fits_34 rfl rfl
set_option maxRecDepth 100000 in
set_option maxHeartbeats 4000000 in
theorem eX4_fits (a1 : Int32) (a2 : Int32) (g : am_G) (r : Int32 × am_G) (h : fX4_fits a1 a2 g = some r) : am_Ev zc MX4_fits 0 0 [(0, .ref 45), (1, .int a1), (2, .int a2)] [] g (am_ri r) := by
  unfold fX4_fits at h
  refine ev_iconst dX4_fits_0 rfl ?_
  refine ev_istore_n (ls' := [(3, .int (0 : Int32)), (0, .ref 45), (1, .int a1), (2, .int a2)]) dX4_fits_1 rfl (by decide) rfl ?_
  refine ev_sub [1, 2, 3, 0] rfl ?_
  exact tfX4_fits_L2 a1 a2 _ _ _ _ h
theorem tX4_fits {a1 : Int32} {a2 : Int32} {g : am_G} {r : Int32 × am_G} (h : fX4_fits a1 a2 g = some r) : am_Mt zc MX4_fits 0 [.ref 45, .int a1, .int a2] g (am_ri r) := am_Mt.of rfl (Nat.le_of_ble_eq_true rfl) (eX4_fits _ _ _ _ h)
def fX4_strainBy_L3 (a1 : Int32) (a2 : Int32) (a3 : Int32) : Nat → Int32 → am_G → Option (Unit × am_G)
  | 0, _, _ => none
  | n + 1, x1, g2 =>
    if (6 : Int32) ≤ x1 then (
      some ((), g2))
    else (
      am_gd (am_in ((a1 * (6 : Int32)) + x1) 24) <|
      am_gd (am_in ((a2 * (6 : Int32)) + x1) 144) <|
      am_gd (am_in ((a1 * (6 : Int32)) + x1) 24) <|
      am_let (am_si g2 46 ((a1 * (6 : Int32)) + x1).toNatClampNeg ((am_I g2 46 ((a1 * (6 : Int32)) + x1).toNatClampNeg) + (a3 * (am_I g2 48 ((a2 * (6 : Int32)) + x1).toNatClampNeg)))) fun g7 =>
      am_let (x1 + (1 : Int32)) fun x8 =>
      fX4_strainBy_L3 a1 a2 a3 n x8 g7)
def fX4_strainBy (a1 : Int32) (a2 : Int32) (a3 : Int32) (g : am_G) : Option (Unit × am_G) :=
  fX4_strainBy_L3 a1 a2 a3 am_fu (0 : Int32) g
set_option maxRecDepth 100000 in
set_option maxHeartbeats 4000000 in
theorem tfX4_strainBy_L3  (a1 : Int32) (a2 : Int32) (a3 : Int32) : ∀ (n : Nat) (x1 : Int32) (g2 : am_G) (r : Unit × am_G), fX4_strainBy_L3 a1 a2 a3 n x1 g2 = some r → am_Ev zc MX4_strainBy 0 3 [(0, .ref 45), (1, .int a1), (2, .int a2), (3, .int a3), (4, .int x1)] [] g2 (am_rv r) := by
  intro n
  induction n with
  | zero => intro x1 g2 r h; exact nomatch (show (none : Option (Unit × am_G)) = some r from h)
  | succ n ih =>
    intro x1 g2 r h
    rw [fX4_strainBy_L3] at h
    refine ev_iload 4 dX4_strainBy_3 rfl ?_
    refine ev_bipush dX4_strainBy_5 rfl ?_
    refine ev_icmp_ge 45 dX4_strainBy_7 (by decide) (fun c3 => ?_) (fun c3 => ?_)
    · replace h := am_ifp c3 h
      cases h
      exact ev_ret dX4_strainBy_45 rfl
    · replace h := am_ifn c3 h
      refine ev_aload_n 0 dX4_strainBy_10 rfl ?_
      refine ev_gf (v := .ref 46) dX4_strainBy_11 (fun h9 => (h9.2.1 45 _ rfl).2) 2 (by decide) (by decide) kF_X4_9 (fun h9 => congrArg va_rf (h9.2.2 45 2 46 rfl)) ?_
      refine ev_iload_n 1 dX4_strainBy_14 rfl ?_
      refine ev_bipush dX4_strainBy_15 rfl ?_
      refine ev_imul dX4_strainBy_17 ?_
      refine ev_iload 4 dX4_strainBy_18 rfl ?_
      refine ev_iadd dX4_strainBy_20 ?_
      refine ev_dup2 dX4_strainBy_21 rfl rfl ?_
      obtain ⟨c4, h⟩ := am_gd_elim h
      refine ev_iald dX4_strainBy_22 (fun h9 => (h9.2.1 46 _ rfl).2) (am_in_vp c4) ?_
      refine ev_iload_n 3 dX4_strainBy_23 rfl ?_
      refine ev_aload_n 0 dX4_strainBy_24 rfl ?_
      refine ev_gf (v := .ref 48) dX4_strainBy_25 (fun h9 => (h9.2.1 45 _ rfl).2) 4 (by decide) (by decide) kF_X4_19 (fun h9 => congrArg va_rf (h9.2.2 45 4 48 rfl)) ?_
      refine ev_iload_n 2 dX4_strainBy_28 rfl ?_
      refine ev_bipush dX4_strainBy_29 rfl ?_
      refine ev_imul dX4_strainBy_31 ?_
      refine ev_iload 4 dX4_strainBy_32 rfl ?_
      refine ev_iadd dX4_strainBy_34 ?_
      obtain ⟨c5, h⟩ := am_gd_elim h
      refine ev_iald dX4_strainBy_35 (fun h9 => (h9.2.1 48 _ rfl).2) (am_in_vp c5) ?_
      refine ev_imul dX4_strainBy_36 ?_
      refine ev_iadd dX4_strainBy_37 ?_
      obtain ⟨c6, h⟩ := am_gd_elim h
      refine ev_iast dX4_strainBy_38 (fun h9 => (h9.2.1 46 _ rfl).2) (am_in_vp c6) ?_
      refine am_let_elim (P := fun g7 => am_Ev zc MX4_strainBy 0 39 [(0, .ref 45), (1, .int a1), (2, .int a2), (3, .int a3), (4, .int x1)] [] g7 (am_rv r)) h fun g7 h => ?_
      obtain ⟨x8, ex8, h⟩ := am_let_ex h
      refine ev_iinc (ls' := [(4, .int x8), (0, .ref 45), (1, .int a1), (2, .int a2), (3, .int a3)]) 4 dX4_strainBy_39 rfl ex8 (by decide) rfl ?_
      refine ev_goto 3 dX4_strainBy_42 (by decide) ?_
      refine ev_sub [1, 2, 3, 4, 0] rfl ?_
      exact ih _ _ _ h
set_option maxRecDepth 100000 in
set_option maxHeartbeats 4000000 in
theorem eX4_strainBy (a1 : Int32) (a2 : Int32) (a3 : Int32) (g : am_G) (r : Unit × am_G) (h : fX4_strainBy a1 a2 a3 g = some r) : am_Ev zc MX4_strainBy 0 0 [(0, .ref 45), (1, .int a1), (2, .int a2), (3, .int a3)] [] g (am_rv r) := by
  unfold fX4_strainBy at h
  refine ev_iconst dX4_strainBy_0 rfl ?_
  refine ev_istore (ls' := [(4, .int (0 : Int32)), (0, .ref 45), (1, .int a1), (2, .int a2), (3, .int a3)]) dX4_strainBy_1 (by decide) rfl ?_
  refine ev_sub [1, 2, 3, 4, 0] rfl ?_
  exact tfX4_strainBy_L3 a1 a2 a3 _ _ _ _ h
theorem tX4_strainBy {a1 : Int32} {a2 : Int32} {a3 : Int32} {g : am_G} {r : Unit × am_G} (h : fX4_strainBy a1 a2 a3 g = some r) : am_Mt zc MX4_strainBy 0 [.ref 45, .int a1, .int a2, .int a3] g (am_rv r) := am_Mt.of rfl (Nat.le_of_ble_eq_true rfl) (eX4_strainBy _ _ _ _ _ h)
def fX4_search_L46 (rec : Int32 → am_G → Option (Unit × am_G)) (a1 : Int32) : Nat → Int32 → am_G → Option (Unit × am_G)
  | 0, _, _ => none
  | n + 1, x2, g3 =>
    if (am_I g3 45 7) ≤ x2 then (
      some ((), g3))
    else (
      am_let ((x2 * (6 : Int32)) + a1) fun x5 =>
      am_gd (am_in x5 24) <|
      am_jn (fun  (g8 : am_G) =>
        am_let (x2 + (1 : Int32)) fun x10 =>
        fX4_search_L46 rec a1 n x10 g8) fun j9 =>
      if (am_I g3 47 x5.toNatClampNeg) = 0 then (
        j9 g3)
      else (
        am_bd (fX4_fits x2 x5 g3) fun v11 g12 =>
        if v11 = 0 then (
          j9 g12)
        else (
          am_gd (am_in a1 6) <|
          am_let (am_si g12 49 a1.toNatClampNeg x2) fun g16 =>
          am_bd (fX4_strainBy x2 x5 (-1 : Int32) g16) fun u17 g18 =>
          am_bd (rec (a1 + (1 : Int32)) g18) fun u20 g21 =>
          am_bd (fX4_strainBy x2 x5 (1 : Int32) g21) fun u23 g24 =>
          j9 g24)))
def bX4_search (rec : Int32 → am_G → Option (Unit × am_G)) (a1 : Int32) (g : am_G) : Option (Unit × am_G) :=
  if a1 < (am_I g 1 15) then (
    fX4_search_L46 rec a1 am_fu (0 : Int32) g)
  else (
    if (am_I g 45 8) = 0 then (
      am_gd (am_co (0 : Int32) (0 : Int32) (6 : Int32) 6 6) <|
      am_let (am_cp g 49 50 (0 : Int32).toNatClampNeg (0 : Int32).toNatClampNeg (6 : Int32).toNatClampNeg) fun g29 =>
      am_let (am_si g29 45 8 ((am_I g29 45 8) + (1 : Int32))) fun g30 =>
      some ((), g30))
    else (
      am_let (am_si g 45 8 ((am_I g 45 8) + (1 : Int32))) fun g27 =>
      some ((), g27)))
set_option maxRecDepth 100000 in
set_option maxHeartbeats 4000000 in
theorem tfX4_search_L46 {rec : Int32 → am_G → Option (Unit × am_G)} {dd : Nat} (hdd : 0 ≤ dd) (hrec : ∀ (a1 : Int32) (g : am_G) (r : Unit × am_G), rec a1 g = some r → am_Mt zc MX4_search dd [.ref 45, .int a1] g (am_rv r))  (a1 : Int32) : ∀ (n : Nat) (x2 : Int32) (g3 : am_G) (r : Unit × am_G), fX4_search_L46 rec a1 n x2 g3 = some r → am_Ev zc MX4_search (dd + 1) 46 [(0, .ref 45), (1, .int a1), (2, .int x2)] [] g3 (am_rv r) := by
  intro n
  induction n with
  | zero => intro x2 g3 r h; exact nomatch (show (none : Option (Unit × am_G)) = some r from h)
  | succ n ih =>
    intro x2 g3 r h
    rw [fX4_search_L46] at h
    refine ev_iload_n 2 dX4_search_46 rfl ?_
    refine ev_aload_n 0 dX4_search_47 rfl ?_
    refine ev_gf (v := .int (am_I g3 45 7)) dX4_search_48 (fun h9 => (h9.2.1 45 _ rfl).2) 7 (by decide) (by decide) kF_X4_80 (fun _ => rfl) ?_
    refine ev_icmp_ge 113 dX4_search_51 (by decide) (fun c4 => ?_) (fun c4 => ?_)
    · replace h := am_ifp c4 h
      cases h
      exact ev_ret dX4_search_113 rfl
    · replace h := am_ifn c4 h
      refine ev_iload_n 2 dX4_search_54 rfl ?_
      refine ev_bipush dX4_search_55 rfl ?_
      refine ev_imul dX4_search_57 ?_
      refine ev_iload_n 1 dX4_search_58 rfl ?_
      refine ev_iadd dX4_search_59 ?_
      refine am_let_elim (P := fun x5 => am_Ev zc MX4_search (dd + 1) 60 [(0, .ref 45), (1, .int a1), (2, .int x2)] [.int x5] g3 (am_rv r)) h fun x5 h => ?_
      refine ev_istore_n (ls' := [(3, .int x5), (0, .ref 45), (1, .int a1), (2, .int x2)]) dX4_search_60 rfl (by decide) rfl ?_
      refine ev_aload_n 1 dX4_search_61 rfl ?_
      refine ev_gf (v := .ref 47) dX4_search_62 (fun h9 => (h9.2.1 45 _ rfl).2) 3 (by decide) (by decide) kF_X4_15 (fun h9 => congrArg va_rf (h9.2.2 45 3 47 rfl)) ?_
      refine ev_iload_n 0 dX4_search_65 rfl ?_
      obtain ⟨c6, h⟩ := am_gd_elim h
      refine ev_zald dX4_search_66 (fun h9 => (h9.2.1 47 _ rfl).2) (am_in_vp c6) ?_
      refine am_jn_elim (fun q9 => ∀  (g8 : am_G) (r : Unit × am_G), q9  g8 = some r → am_Ev zc MX4_search (dd + 1) 107 [(0, .ref 45), (1, .int a1), (2, .int x2)] [] g8 (am_rv r)) h ?_ (fun j9 hj9 h => ?_)
      · intro  g8 r h
        try dsimp only at h
        obtain ⟨x10, ex10, h⟩ := am_let_ex h
        refine ev_iinc (ls' := [(2, .int x10), (0, .ref 45), (1, .int a1)]) 2 dX4_search_107 rfl ex10 (by decide) rfl ?_
        refine ev_goto 46 dX4_search_110 (by decide) ?_
        refine ev_sub [1, 2, 0] rfl ?_
        exact ih _ _ _ h
      · refine ev_if_eq 107 dX4_search_67 (by decide) (fun c7 => ?_) (fun c7 => ?_)
        · replace h := am_ifp c7 h
          refine ev_sub [1, 2, 3] rfl ?_
          exact hj9  _ _ h
        · replace h := am_ifn c7 h
          refine ev_aload_n 1 dX4_search_70 rfl ?_
          refine ev_iload_n 3 dX4_search_71 rfl ?_
          refine ev_iload_n 0 dX4_search_72 rfl ?_
          obtain ⟨v11, g12, e13, h⟩ := am_bd_elim h
          refine ev_callVi (v := v11) [.int x2, .int x5] [] dX4_search_73 (tX4_fits e13) (by omega) mo_X4_fits kM_X4_92 ki_X4_fits kv_X4_fits (fun h9 => (h9.2.1 45 _ rfl).2) (by decide) rfl (Nat.le_of_ble_eq_true rfl) ?_
          refine ev_if_eq 107 dX4_search_76 (by decide) (fun c14 => ?_) (fun c14 => ?_)
          · replace h := am_ifp c14 h
            refine ev_sub [1, 2, 3] rfl ?_
            exact hj9  _ _ h
          · replace h := am_ifn c14 h
            refine ev_aload_n 1 dX4_search_79 rfl ?_
            refine ev_gf (v := .ref 49) dX4_search_80 (fun h9 => (h9.2.1 45 _ rfl).2) 5 (by decide) (by decide) kF_X4_22 (fun h9 => congrArg va_rf (h9.2.2 45 5 49 rfl)) ?_
            refine ev_iload_n 2 dX4_search_83 rfl ?_
            refine ev_iload_n 3 dX4_search_84 rfl ?_
            obtain ⟨c15, h⟩ := am_gd_elim h
            refine ev_iast dX4_search_85 (fun h9 => (h9.2.1 49 _ rfl).2) (am_in_vp c15) ?_
            refine am_let_elim (P := fun g16 => am_Ev zc MX4_search (dd + 1) 86 [(3, .int x5), (0, .ref 45), (1, .int a1), (2, .int x2)] [] g16 (am_rv r)) h fun g16 h => ?_
            refine ev_aload_n 1 dX4_search_86 rfl ?_
            refine ev_iload_n 3 dX4_search_87 rfl ?_
            refine ev_iload_n 0 dX4_search_88 rfl ?_
            refine ev_iconst dX4_search_89 rfl ?_
            obtain ⟨u17, g18, e19, h⟩ := am_bd_elim h
            refine ev_callVv [.int x2, .int x5, .int (-1 : Int32)] [] dX4_search_90 (tX4_strainBy e19) (by omega) mo_X4_strainBy kM_X4_96 ki_X4_strainBy kv_X4_strainBy (fun h9 => (h9.2.1 45 _ rfl).2) (by decide) rfl (Nat.le_of_ble_eq_true rfl) ?_
            refine ev_aload_n 1 dX4_search_93 rfl ?_
            refine ev_iload_n 2 dX4_search_94 rfl ?_
            refine ev_iconst dX4_search_95 rfl ?_
            refine ev_iadd dX4_search_96 ?_
            obtain ⟨u20, g21, e22, h⟩ := am_bd_elim h
            refine ev_callVv [.int (a1 + (1 : Int32))] [] dX4_search_97 (hrec (a1 + (1 : Int32)) g18 _ e22) (Nat.lt_succ_self _) mo_X4_search kM_X4_99 ki_X4_search kv_X4_search (fun h9 => (h9.2.1 45 _ rfl).2) (by decide) rfl (Nat.le_of_ble_eq_true rfl) ?_
            refine ev_aload_n 1 dX4_search_100 rfl ?_
            refine ev_iload_n 3 dX4_search_101 rfl ?_
            refine ev_iload_n 0 dX4_search_102 rfl ?_
            refine ev_iconst dX4_search_103 rfl ?_
            obtain ⟨u23, g24, e25, h⟩ := am_bd_elim h
            refine ev_callVv [.int x2, .int x5, .int (1 : Int32)] [] dX4_search_104 (tX4_strainBy e25) (by omega) mo_X4_strainBy kM_X4_96 ki_X4_strainBy kv_X4_strainBy (fun h9 => (h9.2.1 45 _ rfl).2) (by decide) rfl (Nat.le_of_ble_eq_true rfl) ?_
            refine ev_sub [1, 2, 3] rfl ?_
            exact hj9  _ _ h
set_option maxRecDepth 100000 in
set_option maxHeartbeats 4000000 in
theorem eX4_search {rec : Int32 → am_G → Option (Unit × am_G)} {dd : Nat} (hdd : 0 ≤ dd) (hrec : ∀ (a1 : Int32) (g : am_G) (r : Unit × am_G), rec a1 g = some r → am_Mt zc MX4_search dd [.ref 45, .int a1] g (am_rv r)) (a1 : Int32) (g : am_G) (r : Unit × am_G) (h : bX4_search rec a1 g = some r) : am_Ev zc MX4_search (dd + 1) 0 [(0, .ref 45), (1, .int a1)] [] g (am_rv r) := by
  unfold bX4_search at h
  refine ev_iload_n 1 dX4_search_0 rfl ?_
  refine ev_aload_n 0 dX4_search_1 rfl ?_
  refine ev_gf (v := .ref 1) dX4_search_2 (fun h9 => (h9.2.1 45 _ rfl).2) 0 (by decide) (by decide) kF_X4_28 (fun h9 => congrArg va_rf (h9.2.2 45 0 1 rfl)) ?_
  refine ev_gf (v := .int (am_I g 1 15)) dX4_search_5 (fun h9 => (h9.2.1 1 _ rfl).2) 15 (by decide) (by decide) kF_X4_54 (fun _ => rfl) ?_
  refine ev_icmp_lt 44 dX4_search_8 (by decide) (fun c1 => ?_) (fun c1 => ?_)
  · replace h := am_ifp c1 h
    refine ev_iconst dX4_search_44 rfl ?_
    refine ev_istore_n (ls' := [(2, .int (0 : Int32)), (0, .ref 45), (1, .int a1)]) dX4_search_45 rfl (by decide) rfl ?_
    refine ev_sub [1, 2, 0] rfl ?_
    exact tfX4_search_L46 hdd hrec a1 _ _ _ _ h
  · replace h := am_ifn c1 h
    refine ev_aload_n 0 dX4_search_11 rfl ?_
    refine ev_gf (v := .int (am_I g 45 8)) dX4_search_12 (fun h9 => (h9.2.1 45 _ rfl).2) 8 (by decide) (by decide) kF_X4_83 (fun _ => rfl) ?_
    refine ev_if_ne 33 dX4_search_15 (by decide) (fun c26 => ?_) (fun c26 => ?_)
    · replace h := am_ifn c26 h
      refine ev_aload_n 0 dX4_search_33 rfl ?_
      refine ev_dup dX4_search_34 rfl ?_
      refine ev_gf (v := .int (am_I g 45 8)) dX4_search_35 (fun h9 => (h9.2.1 45 _ rfl).2) 8 (by decide) (by decide) kF_X4_83 (fun _ => rfl) ?_
      refine ev_iconst dX4_search_38 rfl ?_
      refine ev_iadd dX4_search_39 ?_
      refine ev_pfi dX4_search_40 (fun h9 => (h9.2.1 45 _ rfl).2) 8 (by decide) (by decide) kF_X4_83 rfl rfl rfl (fun _ => rfl) ?_
      refine am_let_elim (P := fun g27 => am_Ev zc MX4_search (dd + 1) 43 [(0, .ref 45), (1, .int a1)] [] g27 (am_rv r)) h fun g27 h => ?_
      cases h
      exact ev_ret dX4_search_43 rfl
    · replace h := am_ifp c26 h
      refine ev_aload_n 0 dX4_search_18 rfl ?_
      refine ev_gf (v := .ref 49) dX4_search_19 (fun h9 => (h9.2.1 45 _ rfl).2) 5 (by decide) (by decide) kF_X4_22 (fun h9 => congrArg va_rf (h9.2.2 45 5 49 rfl)) ?_
      refine ev_iconst dX4_search_22 rfl ?_
      refine ev_aload_n 0 dX4_search_23 rfl ?_
      refine ev_gf (v := .ref 50) dX4_search_24 (fun h9 => (h9.2.1 45 _ rfl).2) 6 (by decide) (by decide) kF_X4_25 (fun h9 => congrArg va_rf (h9.2.2 45 6 50 rfl)) ?_
      refine ev_iconst dX4_search_27 rfl ?_
      refine ev_bipush dX4_search_28 rfl ?_
      obtain ⟨c28, h⟩ := am_gd_elim h
      refine ev_copyi dX4_search_30 kM_X4_86 k_cpN k_cpS kS_System (fun h9 => (h9.2.1 49 _ rfl).2) (fun h9 => (h9.2.1 50 _ rfl).2) (am_co_elim c28).1 (am_co_elim c28).2.1 (am_co_elim c28).2.2.1 (am_co_elim c28).2.2.2.1 (am_co_elim c28).2.2.2.2 (Nat.le_of_ble_eq_true rfl) ?_
      refine am_let_elim (P := fun g29 => am_Ev zc MX4_search (dd + 1) 33 [(0, .ref 45), (1, .int a1)] [] g29 (am_rv r)) h fun g29 h => ?_
      refine ev_aload_n 0 dX4_search_33 rfl ?_
      refine ev_dup dX4_search_34 rfl ?_
      refine ev_gf (v := .int (am_I g29 45 8)) dX4_search_35 (fun h9 => (h9.2.1 45 _ rfl).2) 8 (by decide) (by decide) kF_X4_83 (fun _ => rfl) ?_
      refine ev_iconst dX4_search_38 rfl ?_
      refine ev_iadd dX4_search_39 ?_
      refine ev_pfi dX4_search_40 (fun h9 => (h9.2.1 45 _ rfl).2) 8 (by decide) (by decide) kF_X4_83 rfl rfl rfl (fun _ => rfl) ?_
      refine am_let_elim (P := fun g30 => am_Ev zc MX4_search (dd + 1) 43 [(0, .ref 45), (1, .int a1)] [] g30 (am_rv r)) h fun g30 h => ?_
      cases h
      exact ev_ret dX4_search_43 rfl
def fX4_search : Nat → Int32 → am_G → Option (Unit × am_G)
  | 0, _, _ => none
  | n + 1, a1, g => bX4_search (fX4_search n) a1 g
theorem tX4_search : ∀ (n : Nat) (a1 : Int32) (g : am_G) (r : Unit × am_G), fX4_search n a1 g = some r → am_Mt zc MX4_search (0 + n) [.ref 45, .int a1] g (am_rv r) := by
  intro n
  induction n with
  | zero => intro a1 g r h; exact nomatch (show (none : Option (Unit × am_G)) = some r from h)
  | succ n ih =>
    intro a1 g r h
    exact am_Mt.of rfl (Nat.le_of_ble_eq_true rfl) (eX4_search (rec := fX4_search n) (dd := 0 + n) (Nat.le_add_right _ _) ih _ _ _ h)
theorem tX4_search_f {a1 : Int32} {g : am_G} {r : Unit × am_G} (h : fX4_search 64 a1 g = some r) : am_Mt zc MX4_search 64 [.ref 45, .int a1] g (am_rv r) := tX4_search 64 _ _ _ h
def fX6_init (fx : Nat) (a0 : Nat) (a1 : Nat) (a2 : Nat) (a3 : Int32) (g : am_G) : Option (Unit × am_G) :=
  am_gd (decide (am_S g a0 = (6, 3))) <|
  am_gd (decide (fx ≤ a0)) <|
  am_let (am_sp g a0 0 (some a1)) fun g2 =>
  am_gd (decide (am_S g2 a0 = (6, 3))) <|
  am_gd (decide (fx ≤ a0)) <|
  am_let (am_sp g2 a0 1 (some a2)) fun g5 =>
  am_gd (decide (am_S g5 a0 = (6, 3))) <|
  am_let (am_si g5 a0 2 a3) fun g8 =>
  some ((), g8)
set_option maxRecDepth 100000 in
set_option maxHeartbeats 4000000 in
theorem eX6_init {Z : am_Z} {fx : Nat} (hF : ∀ g : am_G, am_ok Z g → ∀ k, Z.2 (am_n g) k = none) (hZ : ∀ a k, fx ≤ a → Z.2 a k = none) (a0 : Nat) (a1 : Nat) (a2 : Nat) (a3 : Int32) (g : am_G) (r : Unit × am_G) (h : fX6_init fx a0 a1 a2 a3 g = some r) : am_Ev Z MX6_init 0 0 [(0, .ref a0), (1, .ref a1), (2, .ref a2), (3, .int a3)] [] g (am_rv r) := by
  unfold fX6_init at h
  refine ev_aload_n 0 dX6_init_0 rfl ?_
  refine ev_objInit dX6_init_1 kM_X6_1 k_objI k_objC (Nat.le_of_ble_eq_true rfl) ?_
  refine ev_aload_n 0 dX6_init_4 rfl ?_
  refine ev_aload_n 1 dX6_init_5 rfl ?_
  obtain ⟨c1, h⟩ := am_gd_elim h
  obtain ⟨c3, h⟩ := am_gd_elim h
  refine ev_pfr dX6_init_6 (fun _ => am_sh c1) 0 (by decide) (by decide) kF_X6_7 rfl ⟨rfl, rfl⟩ (hZ _ _ (of_decide_eq_true c3)) (fun _ => rfl) (fun _ => rfl) (fun _ => rfl) ?_
  refine am_let_elim (P := fun g2 => am_Ev Z MX6_init 0 9 [(0, .ref a0), (1, .ref a1), (2, .ref a2), (3, .int a3)] [] g2 (am_rv r)) h fun g2 h => ?_
  refine ev_aload_n 0 dX6_init_9 rfl ?_
  refine ev_aload_n 2 dX6_init_10 rfl ?_
  obtain ⟨c4, h⟩ := am_gd_elim h
  obtain ⟨c6, h⟩ := am_gd_elim h
  refine ev_pfr dX6_init_11 (fun _ => am_sh c4) 1 (by decide) (by decide) kF_X6_13 rfl ⟨rfl, rfl⟩ (hZ _ _ (of_decide_eq_true c6)) (fun _ => rfl) (fun _ => rfl) (fun _ => rfl) ?_
  refine am_let_elim (P := fun g5 => am_Ev Z MX6_init 0 14 [(0, .ref a0), (1, .ref a1), (2, .ref a2), (3, .int a3)] [] g5 (am_rv r)) h fun g5 h => ?_
  refine ev_aload_n 0 dX6_init_14 rfl ?_
  refine ev_iload_n 3 dX6_init_15 rfl ?_
  obtain ⟨c7, h⟩ := am_gd_elim h
  refine ev_pfi dX6_init_16 (fun _ => am_sh c7) 2 (by decide) (by decide) kF_X6_16 rfl rfl rfl (fun _ => rfl) ?_
  refine am_let_elim (P := fun g8 => am_Ev Z MX6_init 0 19 [(0, .ref a0), (1, .ref a1), (2, .ref a2), (3, .int a3)] [] g8 (am_rv r)) h fun g8 h => ?_
  cases h
  exact ev_ret dX6_init_19 rfl
theorem tX6_init {Z : am_Z} {fx : Nat} (hF : ∀ g : am_G, am_ok Z g → ∀ k, Z.2 (am_n g) k = none) (hZ : ∀ a k, fx ≤ a → Z.2 a k = none) {a0 : Nat} {a1 : Nat} {a2 : Nat} {a3 : Int32} {g : am_G} {r : Unit × am_G} (h : fX6_init fx a0 a1 a2 a3 g = some r) : am_Mt Z MX6_init 0 [.ref a0, .ref a1, .ref a2, .int a3] g (am_rv r) := am_Mt.of rfl (Nat.le_of_ble_eq_true rfl) (eX6_init hF hZ _ _ _ _ _ _ h)
def fX5_init (fx : Nat) (a0 : Nat) (g : am_G) : Option (Unit × am_G) :=
  am_let (am_n g) fun p1 =>
  am_let (am_new g 21 400) fun g2 =>
  am_gd (decide (am_S g2 a0 = (5, 11))) <|
  am_gd (decide (fx ≤ a0)) <|
  am_let (am_sp g2 a0 0 (some p1)) fun g4 =>
  am_let (am_n g4) fun p6 =>
  am_let (am_new g4 20 401) fun g7 =>
  am_gd (decide (am_S g7 a0 = (5, 11))) <|
  am_gd (decide (fx ≤ a0)) <|
  am_let (am_sp g7 a0 1 (some p6)) fun g9 =>
  am_let (am_n g9) fun p11 =>
  am_let (am_new g9 20 401) fun g12 =>
  am_gd (decide (am_S g12 a0 = (5, 11))) <|
  am_gd (decide (fx ≤ a0)) <|
  am_let (am_sp g12 a0 2 (some p11)) fun g14 =>
  am_let (am_n g14) fun p16 =>
  am_let (am_new g14 6 3) fun g17 =>
  am_let (am_n g17) fun p18 =>
  am_let (am_new g17 20 72) fun g19 =>
  am_let (am_n g19) fun p20 =>
  am_let (am_new g19 20 512) fun g21 =>
  am_bd (fX6_init fx p16 p18 p20 (0 : Int32) g21) fun u22 g23 =>
  am_gd (decide (am_S g23 a0 = (5, 11))) <|
  am_gd (decide (fx ≤ a0)) <|
  am_let (am_sp g23 a0 3 (some p16)) fun g26 =>
  am_gd (decide (am_S g26 a0 = (5, 11))) <|
  am_let (am_si g26 a0 5 (-1 : Int32)) fun g29 =>
  some ((), g29)
set_option maxRecDepth 100000 in
set_option maxHeartbeats 4000000 in
theorem eX5_init {Z : am_Z} {fx : Nat} (hF : ∀ g : am_G, am_ok Z g → ∀ k, Z.2 (am_n g) k = none) (hZ : ∀ a k, fx ≤ a → Z.2 a k = none) (a0 : Nat) (g : am_G) (r : Unit × am_G) (h : fX5_init fx a0 g = some r) : am_Ev Z MX5_init 1 0 [(0, .ref a0)] [] g (am_rv r) := by
  unfold fX5_init at h
  refine ev_aload_n 0 dX5_init_0 rfl ?_
  refine ev_objInit dX5_init_1 kM_X5_3 k_objI k_objC (Nat.le_of_ble_eq_true rfl) ?_
  refine ev_aload_n 0 dX5_init_4 rfl ?_
  refine ev_sipush dX5_init_5 rfl ?_
  refine ev_newa 21 400 dX5_init_8 (fun h9 => hF _ h9) (by decide) (by decide) kA_byte (by decide) rfl (by decide) ?_
  refine am_let_elim (P := fun p1 => am_Ev Z MX5_init 1 10 [(0, .ref a0)] [.ref p1, .ref a0] (am_new g 21 400) (am_rv r)) h fun p1 h => ?_
  refine am_let_elim (P := fun g2 => am_Ev Z MX5_init 1 10 [(0, .ref a0)] [.ref p1, .ref a0] g2 (am_rv r)) h fun g2 h => ?_
  obtain ⟨c3, h⟩ := am_gd_elim h
  obtain ⟨c5, h⟩ := am_gd_elim h
  refine ev_pfr dX5_init_10 (fun _ => am_sh c3) 0 (by decide) (by decide) kF_X5_9 rfl ⟨rfl, rfl⟩ (hZ _ _ (of_decide_eq_true c5)) (fun _ => rfl) (fun _ => rfl) (fun _ => rfl) ?_
  refine am_let_elim (P := fun g4 => am_Ev Z MX5_init 1 13 [(0, .ref a0)] [] g4 (am_rv r)) h fun g4 h => ?_
  refine ev_aload_n 0 dX5_init_13 rfl ?_
  refine ev_sipush dX5_init_14 rfl ?_
  refine ev_newa 20 401 dX5_init_17 (fun h9 => hF _ h9) (by decide) (by decide) kA_int (by decide) rfl (by decide) ?_
  refine am_let_elim (P := fun p6 => am_Ev Z MX5_init 1 19 [(0, .ref a0)] [.ref p6, .ref a0] (am_new g4 20 401) (am_rv r)) h fun p6 h => ?_
  refine am_let_elim (P := fun g7 => am_Ev Z MX5_init 1 19 [(0, .ref a0)] [.ref p6, .ref a0] g7 (am_rv r)) h fun g7 h => ?_
  obtain ⟨c8, h⟩ := am_gd_elim h
  obtain ⟨c10, h⟩ := am_gd_elim h
  refine ev_pfr dX5_init_19 (fun _ => am_sh c8) 1 (by decide) (by decide) kF_X5_15 rfl ⟨rfl, rfl⟩ (hZ _ _ (of_decide_eq_true c10)) (fun _ => rfl) (fun _ => rfl) (fun _ => rfl) ?_
  refine am_let_elim (P := fun g9 => am_Ev Z MX5_init 1 22 [(0, .ref a0)] [] g9 (am_rv r)) h fun g9 h => ?_
  refine ev_aload_n 0 dX5_init_22 rfl ?_
  refine ev_sipush dX5_init_23 rfl ?_
  refine ev_newa 20 401 dX5_init_26 (fun h9 => hF _ h9) (by decide) (by decide) kA_int (by decide) rfl (by decide) ?_
  refine am_let_elim (P := fun p11 => am_Ev Z MX5_init 1 28 [(0, .ref a0)] [.ref p11, .ref a0] (am_new g9 20 401) (am_rv r)) h fun p11 h => ?_
  refine am_let_elim (P := fun g12 => am_Ev Z MX5_init 1 28 [(0, .ref a0)] [.ref p11, .ref a0] g12 (am_rv r)) h fun g12 h => ?_
  obtain ⟨c13, h⟩ := am_gd_elim h
  obtain ⟨c15, h⟩ := am_gd_elim h
  refine ev_pfr dX5_init_28 (fun _ => am_sh c13) 2 (by decide) (by decide) kF_X5_19 rfl ⟨rfl, rfl⟩ (hZ _ _ (of_decide_eq_true c15)) (fun _ => rfl) (fun _ => rfl) (fun _ => rfl) ?_
  refine am_let_elim (P := fun g14 => am_Ev Z MX5_init 1 31 [(0, .ref a0)] [] g14 (am_rv r)) h fun g14 h => ?_
  refine ev_aload_n 0 dX5_init_31 rfl ?_
  refine ev_new 6 dX5_init_32 (fun h9 => hF _ h9) (by decide) kC_X5_22 ?_
  refine am_let_elim (P := fun p16 => am_Ev Z MX5_init 1 35 [(0, .ref a0)] [.ref p16, .ref a0] (am_new g14 6 3) (am_rv r)) h fun p16 h => ?_
  refine am_let_elim (P := fun g17 => am_Ev Z MX5_init 1 35 [(0, .ref a0)] [.ref p16, .ref a0] g17 (am_rv r)) h fun g17 h => ?_
  refine ev_dup dX5_init_35 rfl ?_
  refine ev_bipush dX5_init_36 rfl ?_
  refine ev_newa 20 72 dX5_init_38 (fun h9 => hF _ h9) (by decide) (by decide) kA_int (by decide) rfl (by decide) ?_
  refine am_let_elim (P := fun p18 => am_Ev Z MX5_init 1 40 [(0, .ref a0)] [.ref p18, .ref p16, .ref p16, .ref a0] (am_new g17 20 72) (am_rv r)) h fun p18 h => ?_
  refine am_let_elim (P := fun g19 => am_Ev Z MX5_init 1 40 [(0, .ref a0)] [.ref p18, .ref p16, .ref p16, .ref a0] g19 (am_rv r)) h fun g19 h => ?_
  refine ev_sipush dX5_init_40 rfl ?_
  refine ev_newa 20 512 dX5_init_43 (fun h9 => hF _ h9) (by decide) (by decide) kA_int (by decide) rfl (by decide) ?_
  refine am_let_elim (P := fun p20 => am_Ev Z MX5_init 1 45 [(0, .ref a0)] [.ref p20, .ref p18, .ref p16, .ref p16, .ref a0] (am_new g19 20 512) (am_rv r)) h fun p20 h => ?_
  refine am_let_elim (P := fun g21 => am_Ev Z MX5_init 1 45 [(0, .ref a0)] [.ref p20, .ref p18, .ref p16, .ref p16, .ref a0] g21 (am_rv r)) h fun g21 h => ?_
  refine ev_iconst dX5_init_45 rfl ?_
  obtain ⟨u22, g23, e24, h⟩ := am_bd_elim h
  refine ev_callI (as := [.ref p18, .ref p20, .int (0 : Int32)]) (rest := [.ref p16, .ref a0]) dX5_init_46 (tX6_init hF hZ e24) (by decide) mo_X6_init kM_X5_24 ki_X6_init ⟨rfl, rfl⟩ (Nat.le_of_ble_eq_true rfl) ?_
  obtain ⟨c25, h⟩ := am_gd_elim h
  obtain ⟨c27, h⟩ := am_gd_elim h
  refine ev_pfr dX5_init_49 (fun _ => am_sh c25) 3 (by decide) (by decide) kF_X5_27 rfl ⟨rfl, rfl⟩ (hZ _ _ (of_decide_eq_true c27)) (fun _ => rfl) (fun _ => rfl) (fun _ => rfl) ?_
  refine am_let_elim (P := fun g26 => am_Ev Z MX5_init 1 52 [(0, .ref a0)] [] g26 (am_rv r)) h fun g26 h => ?_
  refine ev_aload_n 0 dX5_init_52 rfl ?_
  refine ev_iconst dX5_init_53 rfl ?_
  obtain ⟨c28, h⟩ := am_gd_elim h
  refine ev_pfi dX5_init_54 (fun _ => am_sh c28) 5 (by decide) (by decide) kF_X5_31 rfl rfl rfl (fun _ => rfl) ?_
  refine am_let_elim (P := fun g29 => am_Ev Z MX5_init 1 57 [(0, .ref a0)] [] g29 (am_rv r)) h fun g29 h => ?_
  cases h
  exact ev_ret dX5_init_57 rfl
theorem tX5_init {Z : am_Z} {fx : Nat} (hF : ∀ g : am_G, am_ok Z g → ∀ k, Z.2 (am_n g) k = none) (hZ : ∀ a k, fx ≤ a → Z.2 a k = none) {a0 : Nat} {g : am_G} {r : Unit × am_G} (h : fX5_init fx a0 g = some r) : am_Mt Z MX5_init 1 [.ref a0] g (am_rv r) := am_Mt.of rfl (Nat.le_of_ble_eq_true rfl) (eX5_init hF hZ _ _ _ h)
def fX5_append_L3 (a1 : Int32) : Nat → Int32 → am_G → Option (Unit × am_G)
  | 0, _, _ => none
  | n + 1, x1, g2 =>
    if x1 < 0 then (
      some ((), g2))
    else (
      if (400 : Int32) ≤ (am_I g2 29 4) then (
        some ((), g2))
      else (
        am_gd (am_in (am_I g2 29 4) 400) <|
        am_let (am_si g2 30 (am_I g2 29 4).toNatClampNeg (vp_nar .byte ((a1 >>> (x1 &&& 31)).toInt8.toInt32))) fun g6 =>
        am_let (am_si g6 29 4 ((am_I g6 29 4) + (1 : Int32))) fun g7 =>
        am_let (x1 + (-8 : Int32)) fun x8 =>
        fX5_append_L3 a1 n x8 g7))
def fX5_append (a1 : Int32) (g : am_G) : Option (Unit × am_G) :=
  fX5_append_L3 a1 am_fu (24 : Int32) g
set_option maxRecDepth 100000 in
set_option maxHeartbeats 4000000 in
theorem tfX5_append_L3  (a1 : Int32) : ∀ (n : Nat) (x1 : Int32) (g2 : am_G) (r : Unit × am_G), fX5_append_L3 a1 n x1 g2 = some r → am_Ev zc MX5_append 0 3 [(0, .ref 29), (1, .int a1), (2, .int x1)] [] g2 (am_rv r) := by
  intro n
  induction n with
  | zero => intro x1 g2 r h; exact nomatch (show (none : Option (Unit × am_G)) = some r from h)
  | succ n ih =>
    intro x1 g2 r h
    rw [fX5_append_L3] at h
    refine ev_iload_n 2 dX5_append_3 rfl ?_
    refine ev_if_lt 46 dX5_append_4 (by decide) (fun c3 => ?_) (fun c3 => ?_)
    · replace h := am_ifp c3 h
      cases h
      exact ev_ret dX5_append_46 rfl
    · replace h := am_ifn c3 h
      refine ev_aload_n 0 dX5_append_7 rfl ?_
      refine ev_gf (v := .int (am_I g2 29 4)) dX5_append_8 (fun h9 => (h9.2.1 29 _ rfl).2) 4 (by decide) (by decide) kF_X5_35 (fun _ => rfl) ?_
      refine ev_sipush dX5_append_11 rfl ?_
      refine ev_icmp_ge 46 dX5_append_14 (by decide) (fun c4 => ?_) (fun c4 => ?_)
      · replace h := am_ifp c4 h
        cases h
        exact ev_ret dX5_append_46 rfl
      · replace h := am_ifn c4 h
        refine ev_aload_n 0 dX5_append_17 rfl ?_
        refine ev_gf (v := .ref 30) dX5_append_18 (fun h9 => (h9.2.1 29 _ rfl).2) 0 (by decide) (by decide) kF_X5_9 (fun h9 => congrArg va_rf (h9.2.2 29 0 30 rfl)) ?_
        refine ev_aload_n 0 dX5_append_21 rfl ?_
        refine ev_gf (v := .int (am_I g2 29 4)) dX5_append_22 (fun h9 => (h9.2.1 29 _ rfl).2) 4 (by decide) (by decide) kF_X5_35 (fun _ => rfl) ?_
        refine ev_iload_n 1 dX5_append_25 rfl ?_
        refine ev_iload_n 2 dX5_append_26 rfl ?_
        refine ev_ishr dX5_append_27 ?_
        refine ev_i2b dX5_append_28 ?_
        obtain ⟨c5, h⟩ := am_gd_elim h
        refine ev_bast dX5_append_29 (fun h9 => (h9.2.1 30 _ rfl).2) (am_in_vp c5) ?_
        refine am_let_elim (P := fun g6 => am_Ev zc MX5_append 0 30 [(0, .ref 29), (1, .int a1), (2, .int x1)] [] g6 (am_rv r)) h fun g6 h => ?_
        refine ev_aload_n 0 dX5_append_30 rfl ?_
        refine ev_dup dX5_append_31 rfl ?_
        refine ev_gf (v := .int (am_I g6 29 4)) dX5_append_32 (fun h9 => (h9.2.1 29 _ rfl).2) 4 (by decide) (by decide) kF_X5_35 (fun _ => rfl) ?_
        refine ev_iconst dX5_append_35 rfl ?_
        refine ev_iadd dX5_append_36 ?_
        refine ev_pfi dX5_append_37 (fun h9 => (h9.2.1 29 _ rfl).2) 4 (by decide) (by decide) kF_X5_35 rfl rfl rfl (fun _ => rfl) ?_
        refine am_let_elim (P := fun g7 => am_Ev zc MX5_append 0 40 [(0, .ref 29), (1, .int a1), (2, .int x1)] [] g7 (am_rv r)) h fun g7 h => ?_
        obtain ⟨x8, ex8, h⟩ := am_let_ex h
        refine ev_iinc (ls' := [(2, .int x8), (0, .ref 29), (1, .int a1)]) 2 dX5_append_40 rfl ex8 (by decide) rfl ?_
        refine ev_goto 3 dX5_append_43 (by decide) ?_
        refine ev_sub [1, 2, 0] rfl ?_
        exact ih _ _ _ h
set_option maxRecDepth 100000 in
set_option maxHeartbeats 4000000 in
theorem eX5_append (a1 : Int32) (g : am_G) (r : Unit × am_G) (h : fX5_append a1 g = some r) : am_Ev zc MX5_append 0 0 [(0, .ref 29), (1, .int a1)] [] g (am_rv r) := by
  unfold fX5_append at h
  refine ev_bipush dX5_append_0 rfl ?_
  refine ev_istore_n (ls' := [(2, .int (24 : Int32)), (0, .ref 29), (1, .int a1)]) dX5_append_2 rfl (by decide) rfl ?_
  refine ev_sub [1, 2, 0] rfl ?_
  exact tfX5_append_L3 a1 _ _ _ _ h
theorem tX5_append {a1 : Int32} {g : am_G} {r : Unit × am_G} (h : fX5_append a1 g = some r) : am_Mt zc MX5_append 0 [.ref 29, .int a1] g (am_rv r) := am_Mt.of rfl (Nat.le_of_ble_eq_true rfl) (eX5_append _ _ _ h)
def fX5_byteAt (a1 : Int32) (g : am_G) : Option (Int32 × am_G) :=
  am_gd (am_in a1 400) <|
  some ((am_I g 30 a1.toNatClampNeg) &&& (255 : Int32), g)
set_option maxRecDepth 100000 in
set_option maxHeartbeats 4000000 in
theorem eX5_byteAt (a1 : Int32) (g : am_G) (r : Int32 × am_G) (h : fX5_byteAt a1 g = some r) : am_Ev zc MX5_byteAt 0 0 [(0, .ref 29), (1, .int a1)] [] g (am_ri r) := by
  unfold fX5_byteAt at h
  refine ev_aload_n 0 dX5_byteAt_0 rfl ?_
  refine ev_gf (v := .ref 30) dX5_byteAt_1 (fun h9 => (h9.2.1 29 _ rfl).2) 0 (by decide) (by decide) kF_X5_9 (fun h9 => congrArg va_rf (h9.2.2 29 0 30 rfl)) ?_
  refine ev_iload_n 1 dX5_byteAt_4 rfl ?_
  obtain ⟨c1, h⟩ := am_gd_elim h
  refine ev_bald dX5_byteAt_5 (fun h9 => (h9.2.1 30 _ rfl).2) (am_in_vp c1) ?_
  refine ev_sipush dX5_byteAt_6 rfl ?_
  refine ev_iand dX5_byteAt_9 ?_
  cases h
  exact ev_iret dX5_byteAt_10 rfl
theorem tX5_byteAt {a1 : Int32} {g : am_G} {r : Int32 × am_G} (h : fX5_byteAt a1 g = some r) : am_Mt zc MX5_byteAt 0 [.ref 29, .int a1] g (am_ri r) := am_Mt.of rfl (Nat.le_of_ble_eq_true rfl) (eX5_byteAt _ _ _ h)
def fX5_isLetter (a0 : Int32) (g : am_G) : Option (Int32 × am_G) :=
  am_bd (fX11_within a0 (97 : Int32) (122 : Int32) g) fun v1 g2 =>
  am_gd (am_zb v1) <|
  some (v1, g2)
set_option maxRecDepth 100000 in
set_option maxHeartbeats 4000000 in
theorem eX5_isLetter (a0 : Int32) (g : am_G) (r : Int32 × am_G) (h : fX5_isLetter a0 g = some r) : am_Ev zc MX5_isLetter 1 0 [(0, .int a0)] [] g (am_ri r) := by
  unfold fX5_isLetter at h
  refine ev_iload_n 0 dX5_isLetter_0 rfl ?_
  refine ev_bipush dX5_isLetter_1 rfl ?_
  refine ev_bipush dX5_isLetter_3 rfl ?_
  obtain ⟨v1, g2, e3, h⟩ := am_bd_elim h
  refine ev_callSNi (v := v1) [.int a0, .int (97 : Int32), .int (122 : Int32)] [] dX5_isLetter_5 (tX11_within e3) (by decide) mo_X11_within kN_X5_72 ks_X11_within (Nat.le_of_ble_eq_true rfl) ?_
  obtain ⟨c4, h⟩ := am_gd_elim h
  cases h
  exact ev_zret dX5_isLetter_8 rfl (am_zb_n c4)
theorem tX5_isLetter {a0 : Int32} {g : am_G} {r : Int32 × am_G} (h : fX5_isLetter a0 g = some r) : am_Mt zc MX5_isLetter 1 [.int a0] g (am_ri r) := am_Mt.of rfl (Nat.le_of_ble_eq_true rfl) (eX5_isLetter _ _ _ h)
def fX5_isDigit (a0 : Int32) (g : am_G) : Option (Int32 × am_G) :=
  am_bd (fX11_within a0 (48 : Int32) (57 : Int32) g) fun v1 g2 =>
  am_gd (am_zb v1) <|
  some (v1, g2)
set_option maxRecDepth 100000 in
set_option maxHeartbeats 4000000 in
theorem eX5_isDigit (a0 : Int32) (g : am_G) (r : Int32 × am_G) (h : fX5_isDigit a0 g = some r) : am_Ev zc MX5_isDigit 1 0 [(0, .int a0)] [] g (am_ri r) := by
  unfold fX5_isDigit at h
  refine ev_iload_n 0 dX5_isDigit_0 rfl ?_
  refine ev_bipush dX5_isDigit_1 rfl ?_
  refine ev_bipush dX5_isDigit_3 rfl ?_
  obtain ⟨v1, g2, e3, h⟩ := am_bd_elim h
  refine ev_callSNi (v := v1) [.int a0, .int (48 : Int32), .int (57 : Int32)] [] dX5_isDigit_5 (tX11_within e3) (by decide) mo_X11_within kN_X5_72 ks_X11_within (Nat.le_of_ble_eq_true rfl) ?_
  obtain ⟨c4, h⟩ := am_gd_elim h
  cases h
  exact ev_zret dX5_isDigit_8 rfl (am_zb_n c4)
theorem tX5_isDigit {a0 : Int32} {g : am_G} {r : Int32 × am_G} (h : fX5_isDigit a0 g = some r) : am_Mt zc MX5_isDigit 1 [.int a0] g (am_ri r) := am_Mt.of rfl (Nat.le_of_ble_eq_true rfl) (eX5_isDigit _ _ _ h)
def fX5_tokenEnd_L32 (v3 : Int32) : Nat → Int32 → am_G → Option (Int32 × am_G)
  | 0, _, _ => none
  | n + 1, x7, g8 =>
    if (am_I g8 29 4) ≤ x7 then (
      some (x7, g8))
    else (
      am_jn (fun  (g11 : am_G) =>
        am_let (x7 + (1 : Int32)) fun x13 =>
        fX5_tokenEnd_L32 v3 n x13 g11) fun j12 =>
      if v3 = 0 then (
        am_gd (am_in x7 400) <|
        am_bd (fX5_isDigit (am_I g8 30 x7.toNatClampNeg) g8) fun v15 g16 =>
        if v15 = 0 then (
          some (x7, g16))
        else (
          j12 g16))
      else (
        am_gd (am_in x7 400) <|
        am_bd (fX5_isLetter (am_I g8 30 x7.toNatClampNeg) g8) fun v20 g21 =>
        if v20 = 0 then (
          some (x7, g21))
        else (
          j12 g21)))
def fX5_tokenEnd (a1 : Int32) (g : am_G) : Option (Int32 × am_G) :=
  am_let (a1 + (1 : Int32)) fun x1 =>
  am_gd (am_in a1 400) <|
  am_bd (fX5_isLetter (am_I g 30 a1.toNatClampNeg) g) fun v3 g4 =>
  if v3 = 0 then (
    am_gd (am_in a1 400) <|
    am_bd (fX5_isDigit (am_I g4 30 a1.toNatClampNeg) g4) fun v25 g26 =>
    if v25 = 0 then (
      some (x1, g26))
    else (
      fX5_tokenEnd_L32 v3 am_fu x1 g26))
  else (
    fX5_tokenEnd_L32 v3 am_fu x1 g4)
set_option maxRecDepth 100000 in
set_option maxHeartbeats 4000000 in
theorem tfX5_tokenEnd_L32  (v3 : Int32) : ∀ (n : Nat) (x7 : Int32) (g8 : am_G) (r : Int32 × am_G), fX5_tokenEnd_L32 v3 n x7 g8 = some r → am_Ev zc MX5_tokenEnd 2 32 [(0, .ref 29), (2, .int x7), (3, .int v3)] [] g8 (am_ri r) := by
  intro n
  induction n with
  | zero => intro x7 g8 r h; exact nomatch (show (none : Option (Int32 × am_G)) = some r from h)
  | succ n ih =>
    intro x7 g8 r h
    rw [fX5_tokenEnd_L32] at h
    refine ev_iload_n 1 dX5_tokenEnd_32 rfl ?_
    refine ev_aload_n 0 dX5_tokenEnd_33 rfl ?_
    refine ev_gf (v := .int (am_I g8 29 4)) dX5_tokenEnd_34 (fun h9 => (h9.2.1 29 _ rfl).2) 4 (by decide) (by decide) kF_X5_35 (fun _ => rfl) ?_
    refine ev_icmp_ge 77 dX5_tokenEnd_37 (by decide) (fun c9 => ?_) (fun c9 => ?_)
    · replace h := am_ifp c9 h
      refine ev_iload_n 1 dX5_tokenEnd_77 rfl ?_
      cases h
      exact ev_iret dX5_tokenEnd_78 rfl
    · replace h := am_ifn c9 h
      refine ev_iload_n 2 dX5_tokenEnd_40 rfl ?_
      refine am_jn_elim (fun q9 => ∀  (g11 : am_G) (r : Int32 × am_G), q9  g11 = some r → am_Ev zc MX5_tokenEnd 2 71 [(0, .ref 29), (2, .int x7), (3, .int v3)] [] g11 (am_ri r)) h ?_ (fun j12 hj12 h => ?_)
      · intro  g11 r h
        try dsimp only at h
        obtain ⟨x13, ex13, h⟩ := am_let_ex h
        refine ev_iinc (ls' := [(2, .int x13), (0, .ref 29), (3, .int v3)]) 1 dX5_tokenEnd_71 rfl ex13 (by decide) rfl ?_
        refine ev_goto 32 dX5_tokenEnd_74 (by decide) ?_
        refine ev_sub [1, 0, 2] rfl ?_
        exact ih _ _ _ h
      · refine ev_if_eq 59 dX5_tokenEnd_41 (by decide) (fun c10 => ?_) (fun c10 => ?_)
        · replace h := am_ifp c10 h
          refine ev_aload_n 0 dX5_tokenEnd_59 rfl ?_
          refine ev_gf (v := .ref 30) dX5_tokenEnd_60 (fun h9 => (h9.2.1 29 _ rfl).2) 0 (by decide) (by decide) kF_X5_9 (fun h9 => congrArg va_rf (h9.2.2 29 0 30 rfl)) ?_
          refine ev_iload_n 1 dX5_tokenEnd_63 rfl ?_
          obtain ⟨c14, h⟩ := am_gd_elim h
          refine ev_bald dX5_tokenEnd_64 (fun h9 => (h9.2.1 30 _ rfl).2) (am_in_vp c14) ?_
          obtain ⟨v15, g16, e17, h⟩ := am_bd_elim h
          refine ev_callSi (v := v15) [.int (am_I g8 30 x7.toNatClampNeg)] [] dX5_tokenEnd_65 (tX5_isDigit e17) (by decide) mo_X5_isDigit kM_X5_80 ks_X5_isDigit (Nat.le_of_ble_eq_true rfl) ?_
          refine ev_if_eq 77 dX5_tokenEnd_68 (by decide) (fun c18 => ?_) (fun c18 => ?_)
          · replace h := am_ifp c18 h
            refine ev_iload_n 1 dX5_tokenEnd_77 rfl ?_
            cases h
            exact ev_iret dX5_tokenEnd_78 rfl
          · replace h := am_ifn c18 h
            refine ev_sub [0, 1, 2] rfl ?_
            exact hj12  _ _ h
        · replace h := am_ifn c10 h
          refine ev_aload_n 0 dX5_tokenEnd_44 rfl ?_
          refine ev_gf (v := .ref 30) dX5_tokenEnd_45 (fun h9 => (h9.2.1 29 _ rfl).2) 0 (by decide) (by decide) kF_X5_9 (fun h9 => congrArg va_rf (h9.2.2 29 0 30 rfl)) ?_
          refine ev_iload_n 1 dX5_tokenEnd_48 rfl ?_
          obtain ⟨c19, h⟩ := am_gd_elim h
          refine ev_bald dX5_tokenEnd_49 (fun h9 => (h9.2.1 30 _ rfl).2) (am_in_vp c19) ?_
          obtain ⟨v20, g21, e22, h⟩ := am_bd_elim h
          refine ev_callSi (v := v20) [.int (am_I g8 30 x7.toNatClampNeg)] [] dX5_tokenEnd_50 (tX5_isLetter e22) (by decide) mo_X5_isLetter kM_X5_76 ks_X5_isLetter (Nat.le_of_ble_eq_true rfl) ?_
          refine ev_if_eq 77 dX5_tokenEnd_53 (by decide) (fun c23 => ?_) (fun c23 => ?_)
          · replace h := am_ifp c23 h
            refine ev_iload_n 1 dX5_tokenEnd_77 rfl ?_
            cases h
            exact ev_iret dX5_tokenEnd_78 rfl
          · replace h := am_ifn c23 h
            refine ev_goto 71 dX5_tokenEnd_56 (by decide) ?_
            refine ev_sub [0, 1, 2] rfl ?_
            exact hj12  _ _ h
set_option maxRecDepth 100000 in
set_option maxHeartbeats 4000000 in
theorem eX5_tokenEnd (a1 : Int32) (g : am_G) (r : Int32 × am_G) (h : fX5_tokenEnd a1 g = some r) : am_Ev zc MX5_tokenEnd 2 0 [(0, .ref 29), (1, .int a1)] [] g (am_ri r) := by
  unfold fX5_tokenEnd at h
  refine ev_iload_n 1 dX5_tokenEnd_0 rfl ?_
  refine ev_iconst dX5_tokenEnd_1 rfl ?_
  refine ev_iadd dX5_tokenEnd_2 ?_
  refine am_let_elim (P := fun x1 => am_Ev zc MX5_tokenEnd 2 3 [(0, .ref 29), (1, .int a1)] [.int x1] g (am_ri r)) h fun x1 h => ?_
  refine ev_istore_n (ls' := [(2, .int x1), (0, .ref 29), (1, .int a1)]) dX5_tokenEnd_3 rfl (by decide) rfl ?_
  refine ev_aload_n 1 dX5_tokenEnd_4 rfl ?_
  refine ev_gf (v := .ref 30) dX5_tokenEnd_5 (fun h9 => (h9.2.1 29 _ rfl).2) 0 (by decide) (by decide) kF_X5_9 (fun h9 => congrArg va_rf (h9.2.2 29 0 30 rfl)) ?_
  refine ev_iload_n 2 dX5_tokenEnd_8 rfl ?_
  obtain ⟨c2, h⟩ := am_gd_elim h
  refine ev_bald dX5_tokenEnd_9 (fun h9 => (h9.2.1 30 _ rfl).2) (am_in_vp c2) ?_
  obtain ⟨v3, g4, e5, h⟩ := am_bd_elim h
  refine ev_callSi (v := v3) [.int (am_I g 30 a1.toNatClampNeg)] [] dX5_tokenEnd_10 (tX5_isLetter e5) (by decide) mo_X5_isLetter kM_X5_76 ks_X5_isLetter (Nat.le_of_ble_eq_true rfl) ?_
  refine ev_istore_n (ls' := [(3, .int v3), (2, .int x1), (0, .ref 29), (1, .int a1)]) dX5_tokenEnd_13 rfl (by decide) rfl ?_
  refine ev_iload_n 0 dX5_tokenEnd_14 rfl ?_
  refine ev_if_ne 32 dX5_tokenEnd_15 (by decide) (fun c6 => ?_) (fun c6 => ?_)
  · replace h := am_ifn c6 h
    refine ev_sub [2, 1, 0] rfl ?_
    exact tfX5_tokenEnd_L32 v3 _ _ _ _ h
  · replace h := am_ifp c6 h
    refine ev_aload_n 2 dX5_tokenEnd_18 rfl ?_
    refine ev_gf (v := .ref 30) dX5_tokenEnd_19 (fun h9 => (h9.2.1 29 _ rfl).2) 0 (by decide) (by decide) kF_X5_9 (fun h9 => congrArg va_rf (h9.2.2 29 0 30 rfl)) ?_
    refine ev_iload_n 3 dX5_tokenEnd_22 rfl ?_
    obtain ⟨c24, h⟩ := am_gd_elim h
    refine ev_bald dX5_tokenEnd_23 (fun h9 => (h9.2.1 30 _ rfl).2) (am_in_vp c24) ?_
    obtain ⟨v25, g26, e27, h⟩ := am_bd_elim h
    refine ev_callSi (v := v25) [.int (am_I g4 30 a1.toNatClampNeg)] [] dX5_tokenEnd_24 (tX5_isDigit e27) (by decide) mo_X5_isDigit kM_X5_80 ks_X5_isDigit (Nat.le_of_ble_eq_true rfl) ?_
    refine ev_if_ne 32 dX5_tokenEnd_27 (by decide) (fun c28 => ?_) (fun c28 => ?_)
    · replace h := am_ifn c28 h
      refine ev_sub [2, 1, 0] rfl ?_
      exact tfX5_tokenEnd_L32 v3 _ _ _ _ h
    · replace h := am_ifp c28 h
      refine ev_iload_n 1 dX5_tokenEnd_30 rfl ?_
      cases h
      exact ev_iret dX5_tokenEnd_31 rfl
theorem tX5_tokenEnd {a1 : Int32} {g : am_G} {r : Int32 × am_G} (h : fX5_tokenEnd a1 g = some r) : am_Mt zc MX5_tokenEnd 2 [.ref 29, .int a1] g (am_ri r) := am_Mt.of rfl (Nat.le_of_ble_eq_true rfl) (eX5_tokenEnd _ _ _ h)
def fX5_spells_L3 (a1 : Int32) (a2 : Int32) (a3 : Int32) : Nat → Int32 → am_G → Option (Int32 × am_G)
  | 0, _, _ => none
  | n + 1, x1, g2 =>
    if a3 ≤ x1 then (
      some ((1 : Int32), g2))
    else (
      am_gd (am_in ((a1 + x1) - a2) am_sln) <|
      am_gd (am_in x1 400) <|
      if (am_sch ((a1 + x1) - a2).toNatClampNeg) = (am_I g2 30 x1.toNatClampNeg) then (
        am_let (x1 + (1 : Int32)) fun x7 =>
        fX5_spells_L3 a1 a2 a3 n x7 g2)
      else (
        some ((0 : Int32), g2)))
def fX5_spells (a1 : Int32) (a2 : Int32) (a3 : Int32) (g : am_G) : Option (Int32 × am_G) :=
  fX5_spells_L3 a1 a2 a3 am_fu a2 g
set_option maxRecDepth 100000 in
set_option maxHeartbeats 4000000 in
theorem tfX5_spells_L3  (a1 : Int32) (a2 : Int32) (a3 : Int32) : ∀ (n : Nat) (x1 : Int32) (g2 : am_G) (r : Int32 × am_G), fX5_spells_L3 a1 a2 a3 n x1 g2 = some r → am_Ev zc MX5_spells 4 3 [(0, .ref 29), (1, .int a1), (2, .int a2), (3, .int a3), (4, .int x1)] [] g2 (am_ri r) := by
  intro n
  induction n with
  | zero => intro x1 g2 r h; exact nomatch (show (none : Option (Int32 × am_G)) = some r from h)
  | succ n ih =>
    intro x1 g2 r h
    rw [fX5_spells_L3] at h
    refine ev_iload 4 dX5_spells_3 rfl ?_
    refine ev_iload_n 3 dX5_spells_5 rfl ?_
    refine ev_icmp_ge 38 dX5_spells_6 (by decide) (fun c3 => ?_) (fun c3 => ?_)
    · replace h := am_ifp c3 h
      refine ev_iconst dX5_spells_38 rfl ?_
      cases h
      exact ev_zret dX5_spells_39 rfl rfl
    · replace h := am_ifn c3 h
      refine ev_ldcs dX5_spells_9 rfl rfl ?_
      refine ev_iload_n 1 dX5_spells_11 rfl ?_
      refine ev_iload 4 dX5_spells_12 rfl ?_
      refine ev_iadd dX5_spells_14 ?_
      refine ev_iload_n 2 dX5_spells_15 rfl ?_
      refine ev_isub dX5_spells_16 ?_
      obtain ⟨c4, h⟩ := am_gd_elim h
      refine ev_schr (by decide) dX5_spells_17 kM_X5_98 (am_in_vp c4) (Nat.le_of_ble_eq_true rfl) ?_
      refine ev_aload_n 0 dX5_spells_20 rfl ?_
      refine ev_gf (v := .ref 30) dX5_spells_21 (fun h9 => (h9.2.1 29 _ rfl).2) 0 (by decide) (by decide) kF_X5_9 (fun h9 => congrArg va_rf (h9.2.2 29 0 30 rfl)) ?_
      refine ev_iload 4 dX5_spells_24 rfl ?_
      obtain ⟨c5, h⟩ := am_gd_elim h
      refine ev_bald dX5_spells_26 (fun h9 => (h9.2.1 30 _ rfl).2) (am_in_vp c5) ?_
      refine ev_icmp_eq 32 dX5_spells_27 (by decide) (fun c6 => ?_) (fun c6 => ?_)
      · replace h := am_ifp c6 h
        obtain ⟨x7, ex7, h⟩ := am_let_ex h
        refine ev_iinc (ls' := [(4, .int x7), (0, .ref 29), (1, .int a1), (2, .int a2), (3, .int a3)]) 4 dX5_spells_32 rfl ex7 (by decide) rfl ?_
        refine ev_goto 3 dX5_spells_35 (by decide) ?_
        refine ev_sub [1, 2, 3, 4, 0] rfl ?_
        exact ih _ _ _ h
      · replace h := am_ifn c6 h
        refine ev_iconst dX5_spells_30 rfl ?_
        cases h
        exact ev_zret dX5_spells_31 rfl rfl
set_option maxRecDepth 100000 in
set_option maxHeartbeats 4000000 in
theorem eX5_spells (a1 : Int32) (a2 : Int32) (a3 : Int32) (g : am_G) (r : Int32 × am_G) (h : fX5_spells a1 a2 a3 g = some r) : am_Ev zc MX5_spells 4 0 [(0, .ref 29), (1, .int a1), (2, .int a2), (3, .int a3)] [] g (am_ri r) := by
  unfold fX5_spells at h
  refine ev_iload_n 2 dX5_spells_0 rfl ?_
  refine ev_istore (ls' := [(4, .int a2), (0, .ref 29), (1, .int a1), (2, .int a2), (3, .int a3)]) dX5_spells_1 (by decide) rfl ?_
  refine ev_sub [1, 2, 3, 4, 0] rfl ?_
  exact tfX5_spells_L3 a1 a2 a3 _ _ _ _ h
theorem tX5_spells {a1 : Int32} {a2 : Int32} {a3 : Int32} {g : am_G} {r : Int32 × am_G} (h : fX5_spells a1 a2 a3 g = some r) : am_Mt zc MX5_spells 4 [.ref 29, .int a1, .int a2, .int a3] g (am_ri r) := am_Mt.of rfl (Nat.le_of_ble_eq_true rfl) (eX5_spells _ _ _ _ _ h)
def fX5_nameOf_L8 (a1 : Int32) (a2 : Int32) : Nat → Int32 → Int32 → Int32 → am_G → Option (Int32 × am_G)
  | 0, _, _, _, _ => none
  | n + 1, x1, x2, x3, g4 =>
    if am_slI < x3 then (
      some ((99 : Int32), g4))
    else (
      am_jn (fun (x7 : Int32) (x8 : Int32) (g9 : am_G) =>
        am_let (x3 + (1 : Int32)) fun x11 =>
        fX5_nameOf_L8 a1 a2 n x7 x8 x11 g9) fun j10 =>
      am_jn (fun  (g12 : am_G) =>
        am_jn (fun  (g15 : am_G) =>
          am_let (x1 + (1 : Int32)) fun x17 =>
          am_let (x3 + (1 : Int32)) fun x18 =>
          j10 x17 x18 g15) fun j16 =>
        if (x3 - x2) = (a2 - a1) then (
          am_bd (fX5_spells x2 a1 a2 g12) fun v19 g20 =>
          if v19 = 0 then (
            j16 g20)
          else (
            some (x1, g20)))
        else (
          j16 g12)) fun j13 =>
      if x3 = am_slI then (
        j13 g4)
      else (
        am_gd (am_in x3 am_sln) <|
        if (am_sch x3.toNatClampNeg) = (32 : Int32) then (
          j13 g4)
        else (
          j10 x1 x2 g4)))
def fX5_nameOf (a1 : Int32) (a2 : Int32) (g : am_G) : Option (Int32 × am_G) :=
  fX5_nameOf_L8 a1 a2 am_fu (1 : Int32) (0 : Int32) (0 : Int32) g
set_option maxRecDepth 100000 in
set_option maxHeartbeats 4000000 in
theorem tfX5_nameOf_L8  (a1 : Int32) (a2 : Int32) : ∀ (n : Nat) (x1 : Int32) (x2 : Int32) (x3 : Int32) (g4 : am_G) (r : Int32 × am_G), fX5_nameOf_L8 a1 a2 n x1 x2 x3 g4 = some r → am_Ev zc MX5_nameOf 5 8 [(0, .ref 29), (1, .int a1), (2, .int a2), (3, .int x1), (4, .int x2), (5, .int x3)] [] g4 (am_ri r) := by
  intro n
  induction n with
  | zero => intro x1 x2 x3 g4 r h; exact nomatch (show (none : Option (Int32 × am_G)) = some r from h)
  | succ n ih =>
    intro x1 x2 x3 g4 r h
    rw [fX5_nameOf_L8] at h
    refine ev_iload 5 dX5_nameOf_8 rfl ?_
    refine ev_ldcs dX5_nameOf_10 rfl rfl ?_
    refine ev_slen (by decide) dX5_nameOf_12 kM_X5_93 (Nat.le_of_ble_eq_true rfl) ?_
    refine ev_icmp_gt 79 dX5_nameOf_15 (by decide) (fun c5 => ?_) (fun c5 => ?_)
    · replace h := am_ifp c5 h
      refine ev_bipush dX5_nameOf_79 rfl ?_
      cases h
      exact ev_iret dX5_nameOf_81 rfl
    · replace h := am_ifn c5 h
      refine ev_iload 5 dX5_nameOf_18 rfl ?_
      refine ev_ldcs dX5_nameOf_20 rfl rfl ?_
      refine ev_slen (by decide) dX5_nameOf_22 kM_X5_93 (Nat.le_of_ble_eq_true rfl) ?_
      refine am_jn_elim (fun q9 => ∀ (x7 : Int32) (x8 : Int32) (g9 : am_G) (r : Int32 × am_G), q9 x7 x8 g9 = some r → am_Ev zc MX5_nameOf 5 73 [(0, .ref 29), (1, .int a1), (2, .int a2), (3, .int x7), (4, .int x8), (5, .int x3)] [] g9 (am_ri r)) h ?_ (fun j10 hj10 h => ?_)
      · intro x7 x8 g9 r h
        try dsimp only at h
        obtain ⟨x11, ex11, h⟩ := am_let_ex h
        refine ev_iinc (ls' := [(5, .int x11), (0, .ref 29), (1, .int a1), (2, .int a2), (3, .int x7), (4, .int x8)]) 5 dX5_nameOf_73 rfl ex11 (by decide) rfl ?_
        refine ev_goto 8 dX5_nameOf_76 (by decide) ?_
        refine ev_sub [1, 2, 3, 4, 5, 0] rfl ?_
        exact ih _ _ _ _ _ h
      · refine am_jn_elim (fun q9 => ∀  (g12 : am_G) (r : Int32 × am_G), q9  g12 = some r → am_Ev zc MX5_nameOf 5 40 [(0, .ref 29), (1, .int a1), (2, .int a2), (3, .int x1), (4, .int x2), (5, .int x3)] [] g12 (am_ri r)) h ?_ (fun j13 hj13 h => ?_)
        · intro  g12 r h
          try dsimp only at h
          refine ev_iload 5 dX5_nameOf_40 rfl ?_
          refine ev_iload 4 dX5_nameOf_42 rfl ?_
          refine ev_isub dX5_nameOf_44 ?_
          refine ev_iload_n 2 dX5_nameOf_45 rfl ?_
          refine ev_iload_n 1 dX5_nameOf_46 rfl ?_
          refine ev_isub dX5_nameOf_47 ?_
          refine am_jn_elim (fun q9 => ∀  (g15 : am_G) (r : Int32 × am_G), q9  g15 = some r → am_Ev zc MX5_nameOf 5 64 [(0, .ref 29), (1, .int a1), (2, .int a2), (3, .int x1), (5, .int x3)] [] g15 (am_ri r)) h ?_ (fun j16 hj16 h => ?_)
          · intro  g15 r h
            try dsimp only at h
            obtain ⟨x17, ex17, h⟩ := am_let_ex h
            refine ev_iinc (ls' := [(3, .int x17), (0, .ref 29), (1, .int a1), (2, .int a2), (5, .int x3)]) 3 dX5_nameOf_64 rfl ex17 (by decide) rfl ?_
            refine ev_iload 4 dX5_nameOf_67 rfl ?_
            refine ev_iconst dX5_nameOf_69 rfl ?_
            refine ev_iadd dX5_nameOf_70 ?_
            refine am_let_elim (P := fun x18 => am_Ev zc MX5_nameOf 5 71 [(3, .int x17), (0, .ref 29), (1, .int a1), (2, .int a2), (5, .int x3)] [.int x18] g15 (am_ri r)) h fun x18 h => ?_
            refine ev_istore (ls' := [(4, .int x18), (3, .int x17), (0, .ref 29), (1, .int a1), (2, .int a2), (5, .int x3)]) dX5_nameOf_71 (by decide) rfl ?_
            refine ev_sub [2, 3, 4, 1, 0, 5] rfl ?_
            exact hj10 _ _ _ _ h
          · refine ev_icmp_ne 64 dX5_nameOf_48 (by decide) (fun c14 => ?_) (fun c14 => ?_)
            · replace h := am_ifn c14 h
              refine ev_sub [0, 1, 2, 3, 5] rfl ?_
              exact hj16  _ _ h
            · replace h := am_ifp c14 h
              refine ev_aload_n 0 dX5_nameOf_51 rfl ?_
              refine ev_iload 4 dX5_nameOf_52 rfl ?_
              refine ev_iload_n 1 dX5_nameOf_54 rfl ?_
              refine ev_iload_n 2 dX5_nameOf_55 rfl ?_
              obtain ⟨v19, g20, e21, h⟩ := am_bd_elim h
              refine ev_callVi (v := v19) [.int x2, .int a1, .int a2] [] dX5_nameOf_56 (tX5_spells e21) (by decide) mo_X5_spells kM_X5_102 ki_X5_spells kv_X5_spells (fun h9 => (h9.2.1 29 _ rfl).2) (by decide) rfl (Nat.le_of_ble_eq_true rfl) ?_
              refine ev_if_eq 64 dX5_nameOf_59 (by decide) (fun c22 => ?_) (fun c22 => ?_)
              · replace h := am_ifp c22 h
                refine ev_sub [0, 1, 2, 3, 5] rfl ?_
                exact hj16  _ _ h
              · replace h := am_ifn c22 h
                refine ev_iload_n 3 dX5_nameOf_62 rfl ?_
                cases h
                exact ev_iret dX5_nameOf_63 rfl
        · refine ev_icmp_eq 40 dX5_nameOf_25 (by decide) (fun c6 => ?_) (fun c6 => ?_)
          · replace h := am_ifp c6 h
            refine ev_sub [0, 1, 2, 3, 4, 5] rfl ?_
            exact hj13  _ _ h
          · replace h := am_ifn c6 h
            refine ev_ldcs dX5_nameOf_28 rfl rfl ?_
            refine ev_iload 5 dX5_nameOf_30 rfl ?_
            obtain ⟨c23, h⟩ := am_gd_elim h
            refine ev_schr (by decide) dX5_nameOf_32 kM_X5_98 (am_in_vp c23) (Nat.le_of_ble_eq_true rfl) ?_
            refine ev_bipush dX5_nameOf_35 rfl ?_
            refine ev_icmp_ne 73 dX5_nameOf_37 (by decide) (fun c24 => ?_) (fun c24 => ?_)
            · replace h := am_ifn c24 h
              refine ev_sub [0, 1, 2, 3, 4, 5] rfl ?_
              exact hj10 _ _ _ _ h
            · replace h := am_ifp c24 h
              refine ev_sub [0, 1, 2, 3, 4, 5] rfl ?_
              exact hj13  _ _ h
set_option maxRecDepth 100000 in
set_option maxHeartbeats 4000000 in
theorem eX5_nameOf (a1 : Int32) (a2 : Int32) (g : am_G) (r : Int32 × am_G) (h : fX5_nameOf a1 a2 g = some r) : am_Ev zc MX5_nameOf 5 0 [(0, .ref 29), (1, .int a1), (2, .int a2)] [] g (am_ri r) := by
  unfold fX5_nameOf at h
  refine ev_iconst dX5_nameOf_0 rfl ?_
  refine ev_istore_n (ls' := [(3, .int (1 : Int32)), (0, .ref 29), (1, .int a1), (2, .int a2)]) dX5_nameOf_1 rfl (by decide) rfl ?_
  refine ev_iconst dX5_nameOf_2 rfl ?_
  refine ev_istore (ls' := [(4, .int (0 : Int32)), (3, .int (1 : Int32)), (0, .ref 29), (1, .int a1), (2, .int a2)]) dX5_nameOf_3 (by decide) rfl ?_
  refine ev_iconst dX5_nameOf_5 rfl ?_
  refine ev_istore (ls' := [(5, .int (0 : Int32)), (4, .int (0 : Int32)), (3, .int (1 : Int32)), (0, .ref 29), (1, .int a1), (2, .int a2)]) dX5_nameOf_6 (by decide) rfl ?_
  refine ev_sub [3, 4, 5, 2, 1, 0] rfl ?_
  exact tfX5_nameOf_L8 a1 a2 _ _ _ _ _ _ h
theorem tX5_nameOf {a1 : Int32} {a2 : Int32} {g : am_G} {r : Int32 × am_G} (h : fX5_nameOf a1 a2 g = some r) : am_Mt zc MX5_nameOf 5 [.ref 29, .int a1, .int a2] g (am_ri r) := am_Mt.of rfl (Nat.le_of_ble_eq_true rfl) (eX5_nameOf _ _ _ _ h)
def fX5_tokenOf_L51 (a2 : Int32) : Nat → Int32 → Int32 → am_G → Option (Int32 × am_G)
  | 0, _, _, _ => none
  | n + 1, x11, x12, g13 =>
    if a2 ≤ x12 then (
      some ((1000 : Int32) + x11, g13))
    else (
      am_gd (am_in x12 400) <|
      am_let (am_min (1001 : Int32) (((x11 * (10 : Int32)) + (am_I g13 30 x12.toNatClampNeg)) - (48 : Int32))) fun x16 =>
      am_let (x12 + (1 : Int32)) fun x17 =>
      fX5_tokenOf_L51 a2 n x16 x17 g13)
def fX5_tokenOf (a1 : Int32) (a2 : Int32) (g : am_G) : Option (Int32 × am_G) :=
  am_gd (am_in a1 400) <|
  am_bd (fX5_isLetter (am_I g 30 a1.toNatClampNeg) g) fun v2 g3 =>
  if v2 = 0 then (
    am_gd (am_in a1 400) <|
    am_bd (fX5_isDigit (am_I g3 30 a1.toNatClampNeg) g3) fun v7 g8 =>
    if v7 = 0 then (
      am_gd (am_in a1 400) <|
      some ((128 : Int32) + ((am_I g8 30 a1.toNatClampNeg) &&& (255 : Int32)), g8))
    else (
      fX5_tokenOf_L51 a2 am_fu (0 : Int32) a1 g8))
  else (
    am_bd (fX5_nameOf a1 a2 g3) fun v19 g20 =>
    some (v19, g20))
set_option maxRecDepth 100000 in
set_option maxHeartbeats 4000000 in
theorem tfX5_tokenOf_L51  (a2 : Int32) : ∀ (n : Nat) (x11 : Int32) (x12 : Int32) (g13 : am_G) (r : Int32 × am_G), fX5_tokenOf_L51 a2 n x11 x12 g13 = some r → am_Ev zc MX5_tokenOf 6 51 [(0, .ref 29), (2, .int a2), (3, .int x11), (4, .int x12)] [] g13 (am_ri r) := by
  intro n
  induction n with
  | zero => intro x11 x12 g13 r h; exact nomatch (show (none : Option (Int32 × am_G)) = some r from h)
  | succ n ih =>
    intro x11 x12 g13 r h
    rw [fX5_tokenOf_L51] at h
    refine ev_iload 3 dX5_tokenOf_51 rfl ?_
    refine ev_iload_n 1 dX5_tokenOf_53 rfl ?_
    refine ev_icmp_ge 85 dX5_tokenOf_54 (by decide) (fun c14 => ?_) (fun c14 => ?_)
    · replace h := am_ifp c14 h
      refine ev_sipush dX5_tokenOf_85 rfl ?_
      refine ev_iload_n 2 dX5_tokenOf_88 rfl ?_
      refine ev_iadd dX5_tokenOf_89 ?_
      cases h
      exact ev_iret dX5_tokenOf_90 rfl
    · replace h := am_ifn c14 h
      refine ev_sipush dX5_tokenOf_57 rfl ?_
      refine ev_iload_n 2 dX5_tokenOf_60 rfl ?_
      refine ev_bipush dX5_tokenOf_61 rfl ?_
      refine ev_imul dX5_tokenOf_63 ?_
      refine ev_aload_n 0 dX5_tokenOf_64 rfl ?_
      refine ev_gf (v := .ref 30) dX5_tokenOf_65 (fun h9 => (h9.2.1 29 _ rfl).2) 0 (by decide) (by decide) kF_X5_9 (fun h9 => congrArg va_rf (h9.2.2 29 0 30 rfl)) ?_
      refine ev_iload 3 dX5_tokenOf_68 rfl ?_
      obtain ⟨c15, h⟩ := am_gd_elim h
      refine ev_bald dX5_tokenOf_70 (fun h9 => (h9.2.1 30 _ rfl).2) (am_in_vp c15) ?_
      refine ev_iadd dX5_tokenOf_71 ?_
      refine ev_bipush dX5_tokenOf_72 rfl ?_
      refine ev_isub dX5_tokenOf_74 ?_
      refine ev_min dX5_tokenOf_75 kM_X5_86 k_minS kS_Math k_minC (Nat.le_of_ble_eq_true rfl) ?_
      refine am_let_elim (P := fun x16 => am_Ev zc MX5_tokenOf 6 78 [(0, .ref 29), (2, .int a2), (3, .int x11), (4, .int x12)] [.int x16] g13 (am_ri r)) h fun x16 h => ?_
      refine ev_istore_n (ls' := [(3, .int x16), (0, .ref 29), (2, .int a2), (4, .int x12)]) dX5_tokenOf_78 rfl (by decide) rfl ?_
      obtain ⟨x17, ex17, h⟩ := am_let_ex h
      refine ev_iinc (ls' := [(4, .int x17), (3, .int x16), (0, .ref 29), (2, .int a2)]) 3 dX5_tokenOf_79 rfl ex17 (by decide) rfl ?_
      refine ev_goto 51 dX5_tokenOf_82 (by decide) ?_
      refine ev_sub [2, 3, 1, 0] rfl ?_
      exact ih _ _ _ _ h
set_option maxRecDepth 100000 in
set_option maxHeartbeats 4000000 in
theorem eX5_tokenOf (a1 : Int32) (a2 : Int32) (g : am_G) (r : Int32 × am_G) (h : fX5_tokenOf a1 a2 g = some r) : am_Ev zc MX5_tokenOf 6 0 [(0, .ref 29), (1, .int a1), (2, .int a2)] [] g (am_ri r) := by
  unfold fX5_tokenOf at h
  refine ev_aload_n 0 dX5_tokenOf_0 rfl ?_
  refine ev_gf (v := .ref 30) dX5_tokenOf_1 (fun h9 => (h9.2.1 29 _ rfl).2) 0 (by decide) (by decide) kF_X5_9 (fun h9 => congrArg va_rf (h9.2.2 29 0 30 rfl)) ?_
  refine ev_iload_n 1 dX5_tokenOf_4 rfl ?_
  obtain ⟨c1, h⟩ := am_gd_elim h
  refine ev_bald dX5_tokenOf_5 (fun h9 => (h9.2.1 30 _ rfl).2) (am_in_vp c1) ?_
  obtain ⟨v2, g3, e4, h⟩ := am_bd_elim h
  refine ev_callSi (v := v2) [.int (am_I g 30 a1.toNatClampNeg)] [] dX5_tokenOf_6 (tX5_isLetter e4) (by decide) mo_X5_isLetter kM_X5_76 ks_X5_isLetter (Nat.le_of_ble_eq_true rfl) ?_
  refine ev_if_eq 19 dX5_tokenOf_9 (by decide) (fun c5 => ?_) (fun c5 => ?_)
  · replace h := am_ifp c5 h
    refine ev_aload_n 0 dX5_tokenOf_19 rfl ?_
    refine ev_gf (v := .ref 30) dX5_tokenOf_20 (fun h9 => (h9.2.1 29 _ rfl).2) 0 (by decide) (by decide) kF_X5_9 (fun h9 => congrArg va_rf (h9.2.2 29 0 30 rfl)) ?_
    refine ev_iload_n 1 dX5_tokenOf_23 rfl ?_
    obtain ⟨c6, h⟩ := am_gd_elim h
    refine ev_bald dX5_tokenOf_24 (fun h9 => (h9.2.1 30 _ rfl).2) (am_in_vp c6) ?_
    obtain ⟨v7, g8, e9, h⟩ := am_bd_elim h
    refine ev_callSi (v := v7) [.int (am_I g3 30 a1.toNatClampNeg)] [] dX5_tokenOf_25 (tX5_isDigit e9) (by decide) mo_X5_isDigit kM_X5_80 ks_X5_isDigit (Nat.le_of_ble_eq_true rfl) ?_
    refine ev_if_ne 46 dX5_tokenOf_28 (by decide) (fun c10 => ?_) (fun c10 => ?_)
    · replace h := am_ifn c10 h
      refine ev_iconst dX5_tokenOf_46 rfl ?_
      refine ev_istore_n (ls' := [(3, .int (0 : Int32)), (0, .ref 29), (1, .int a1), (2, .int a2)]) dX5_tokenOf_47 rfl (by decide) rfl ?_
      refine ev_iload_n 2 dX5_tokenOf_48 rfl ?_
      refine ev_istore (ls' := [(4, .int a1), (3, .int (0 : Int32)), (0, .ref 29), (1, .int a1), (2, .int a2)]) dX5_tokenOf_49 (by decide) rfl ?_
      refine ev_sub [2, 4, 1, 0] rfl ?_
      exact tfX5_tokenOf_L51 a2 _ _ _ _ _ h
    · replace h := am_ifp c10 h
      refine ev_sipush dX5_tokenOf_31 rfl ?_
      refine ev_aload_n 0 dX5_tokenOf_34 rfl ?_
      refine ev_gf (v := .ref 30) dX5_tokenOf_35 (fun h9 => (h9.2.1 29 _ rfl).2) 0 (by decide) (by decide) kF_X5_9 (fun h9 => congrArg va_rf (h9.2.2 29 0 30 rfl)) ?_
      refine ev_iload_n 1 dX5_tokenOf_38 rfl ?_
      obtain ⟨c18, h⟩ := am_gd_elim h
      refine ev_bald dX5_tokenOf_39 (fun h9 => (h9.2.1 30 _ rfl).2) (am_in_vp c18) ?_
      refine ev_sipush dX5_tokenOf_40 rfl ?_
      refine ev_iand dX5_tokenOf_43 ?_
      refine ev_iadd dX5_tokenOf_44 ?_
      cases h
      exact ev_iret dX5_tokenOf_45 rfl
  · replace h := am_ifn c5 h
    refine ev_aload_n 0 dX5_tokenOf_12 rfl ?_
    refine ev_iload_n 1 dX5_tokenOf_13 rfl ?_
    refine ev_iload_n 2 dX5_tokenOf_14 rfl ?_
    obtain ⟨v19, g20, e21, h⟩ := am_bd_elim h
    refine ev_callVi (v := v19) [.int a1, .int a2] [] dX5_tokenOf_15 (tX5_nameOf e21) (by decide) mo_X5_nameOf kM_X5_83 ki_X5_nameOf kv_X5_nameOf (fun h9 => (h9.2.1 29 _ rfl).2) (by decide) rfl (Nat.le_of_ble_eq_true rfl) ?_
    cases h
    exact ev_iret dX5_tokenOf_18 rfl
theorem tX5_tokenOf {a1 : Int32} {a2 : Int32} {g : am_G} {r : Int32 × am_G} (h : fX5_tokenOf a1 a2 g = some r) : am_Mt zc MX5_tokenOf 6 [.ref 29, .int a1, .int a2] g (am_ri r) := am_Mt.of rfl (Nat.le_of_ble_eq_true rfl) (eX5_tokenOf _ _ _ _ h)
def fX5_scan_L6 : Nat → Int32 → Int32 → Int32 → am_G → Option (Unit × am_G)
  | 0, _, _, _, _ => none
  | n + 1, x1, x2, x3, g4 =>
    if (am_I g4 29 4) ≤ x3 then (
      am_gd (am_in x1 401) <|
      am_let (am_si g4 32 x1.toNatClampNeg (am_I g4 29 4)) fun g7 =>
      am_gd (am_in x1 401) <|
      am_let (am_si g7 31 x1.toNatClampNeg (0 : Int32)) fun g9 =>
      some ((), g9))
    else (
      am_jn (fun (x11 : Int32) (x12 : Int32) (g13 : am_G) =>
        am_let (x3 + (1 : Int32)) fun x15 =>
        fX5_scan_L6 n x11 x12 x15 g13) fun j14 =>
      if x3 < x2 then (
        j14 x1 x2 g4)
      else (
        am_gd (am_in x3 400) <|
        if (am_I g4 30 x3.toNatClampNeg) = (32 : Int32) then (
          j14 x1 x2 g4)
        else (
          am_bd (fX5_tokenEnd x3 g4) fun v18 g19 =>
          am_gd (am_in x1 401) <|
          am_let (am_si g19 32 x1.toNatClampNeg x3) fun g22 =>
          am_bd (fX5_tokenOf x3 v18 g22) fun v23 g24 =>
          am_gd (am_in x1 401) <|
          am_let (am_si g24 31 x1.toNatClampNeg v23) fun g27 =>
          am_let (x1 + (1 : Int32)) fun x28 =>
          j14 x28 v18 g27)))
def fX5_scan (g : am_G) : Option (Unit × am_G) :=
  fX5_scan_L6 am_fu (0 : Int32) (0 : Int32) (0 : Int32) g
set_option maxRecDepth 100000 in
set_option maxHeartbeats 4000000 in
theorem tfX5_scan_L6  : ∀ (n : Nat) (x1 : Int32) (x2 : Int32) (x3 : Int32) (g4 : am_G) (r : Unit × am_G), fX5_scan_L6 n x1 x2 x3 g4 = some r → am_Ev zc MX5_scan 7 6 [(0, .ref 29), (1, .int x1), (2, .int x2), (3, .int x3)] [] g4 (am_rv r) := by
  intro n
  induction n with
  | zero => intro x1 x2 x3 g4 r h; exact nomatch (show (none : Option (Unit × am_G)) = some r from h)
  | succ n ih =>
    intro x1 x2 x3 g4 r h
    rw [fX5_scan_L6] at h
    refine ev_iload_n 3 dX5_scan_6 rfl ?_
    refine ev_aload_n 0 dX5_scan_7 rfl ?_
    refine ev_gf (v := .int (am_I g4 29 4)) dX5_scan_8 (fun h9 => (h9.2.1 29 _ rfl).2) 4 (by decide) (by decide) kF_X5_35 (fun _ => rfl) ?_
    refine ev_icmp_ge 64 dX5_scan_11 (by decide) (fun c5 => ?_) (fun c5 => ?_)
    · replace h := am_ifp c5 h
      refine ev_aload_n 0 dX5_scan_64 rfl ?_
      refine ev_gf (v := .ref 32) dX5_scan_65 (fun h9 => (h9.2.1 29 _ rfl).2) 2 (by decide) (by decide) kF_X5_19 (fun h9 => congrArg va_rf (h9.2.2 29 2 32 rfl)) ?_
      refine ev_iload_n 1 dX5_scan_68 rfl ?_
      refine ev_aload_n 0 dX5_scan_69 rfl ?_
      refine ev_gf (v := .int (am_I g4 29 4)) dX5_scan_70 (fun h9 => (h9.2.1 29 _ rfl).2) 4 (by decide) (by decide) kF_X5_35 (fun _ => rfl) ?_
      obtain ⟨c6, h⟩ := am_gd_elim h
      refine ev_iast dX5_scan_73 (fun h9 => (h9.2.1 32 _ rfl).2) (am_in_vp c6) ?_
      refine am_let_elim (P := fun g7 => am_Ev zc MX5_scan 7 74 [(0, .ref 29), (1, .int x1), (2, .int x2), (3, .int x3)] [] g7 (am_rv r)) h fun g7 h => ?_
      refine ev_aload_n 0 dX5_scan_74 rfl ?_
      refine ev_gf (v := .ref 31) dX5_scan_75 (fun h9 => (h9.2.1 29 _ rfl).2) 1 (by decide) (by decide) kF_X5_15 (fun h9 => congrArg va_rf (h9.2.2 29 1 31 rfl)) ?_
      refine ev_iload_n 1 dX5_scan_78 rfl ?_
      refine ev_iconst dX5_scan_79 rfl ?_
      obtain ⟨c8, h⟩ := am_gd_elim h
      refine ev_iast dX5_scan_80 (fun h9 => (h9.2.1 31 _ rfl).2) (am_in_vp c8) ?_
      refine am_let_elim (P := fun g9 => am_Ev zc MX5_scan 7 81 [(0, .ref 29), (1, .int x1), (2, .int x2), (3, .int x3)] [] g9 (am_rv r)) h fun g9 h => ?_
      cases h
      exact ev_ret dX5_scan_81 rfl
    · replace h := am_ifn c5 h
      refine ev_iload_n 3 dX5_scan_14 rfl ?_
      refine ev_iload_n 2 dX5_scan_15 rfl ?_
      refine am_jn_elim (fun q9 => ∀ (x11 : Int32) (x12 : Int32) (g13 : am_G) (r : Unit × am_G), q9 x11 x12 g13 = some r → am_Ev zc MX5_scan 7 58 [(0, .ref 29), (1, .int x11), (2, .int x12), (3, .int x3)] [] g13 (am_rv r)) h ?_ (fun j14 hj14 h => ?_)
      · intro x11 x12 g13 r h
        try dsimp only at h
        obtain ⟨x15, ex15, h⟩ := am_let_ex h
        refine ev_iinc (ls' := [(3, .int x15), (0, .ref 29), (1, .int x11), (2, .int x12)]) 3 dX5_scan_58 rfl ex15 (by decide) rfl ?_
        refine ev_goto 6 dX5_scan_61 (by decide) ?_
        refine ev_sub [1, 2, 3, 0] rfl ?_
        exact ih _ _ _ _ _ h
      · refine ev_icmp_lt 58 dX5_scan_16 (by decide) (fun c10 => ?_) (fun c10 => ?_)
        · replace h := am_ifp c10 h
          refine ev_sub [0, 1, 2, 3] rfl ?_
          exact hj14 _ _ _ _ h
        · replace h := am_ifn c10 h
          refine ev_aload_n 0 dX5_scan_19 rfl ?_
          refine ev_gf (v := .ref 30) dX5_scan_20 (fun h9 => (h9.2.1 29 _ rfl).2) 0 (by decide) (by decide) kF_X5_9 (fun h9 => congrArg va_rf (h9.2.2 29 0 30 rfl)) ?_
          refine ev_iload_n 3 dX5_scan_23 rfl ?_
          obtain ⟨c16, h⟩ := am_gd_elim h
          refine ev_bald dX5_scan_24 (fun h9 => (h9.2.1 30 _ rfl).2) (am_in_vp c16) ?_
          refine ev_bipush dX5_scan_25 rfl ?_
          refine ev_icmp_eq 58 dX5_scan_27 (by decide) (fun c17 => ?_) (fun c17 => ?_)
          · replace h := am_ifp c17 h
            refine ev_sub [0, 1, 2, 3] rfl ?_
            exact hj14 _ _ _ _ h
          · replace h := am_ifn c17 h
            refine ev_aload_n 0 dX5_scan_30 rfl ?_
            refine ev_iload_n 3 dX5_scan_31 rfl ?_
            obtain ⟨v18, g19, e20, h⟩ := am_bd_elim h
            refine ev_callVi (v := v18) [.int x3] [] dX5_scan_32 (tX5_tokenEnd e20) (by decide) mo_X5_tokenEnd kM_X5_64 ki_X5_tokenEnd kv_X5_tokenEnd (fun h9 => (h9.2.1 29 _ rfl).2) (by decide) rfl (Nat.le_of_ble_eq_true rfl) ?_
            refine ev_istore_n (ls' := [(2, .int v18), (0, .ref 29), (1, .int x1), (3, .int x3)]) dX5_scan_35 rfl (by decide) rfl ?_
            refine ev_aload_n 1 dX5_scan_36 rfl ?_
            refine ev_gf (v := .ref 32) dX5_scan_37 (fun h9 => (h9.2.1 29 _ rfl).2) 2 (by decide) (by decide) kF_X5_19 (fun h9 => congrArg va_rf (h9.2.2 29 2 32 rfl)) ?_
            refine ev_iload_n 2 dX5_scan_40 rfl ?_
            refine ev_iload_n 3 dX5_scan_41 rfl ?_
            obtain ⟨c21, h⟩ := am_gd_elim h
            refine ev_iast dX5_scan_42 (fun h9 => (h9.2.1 32 _ rfl).2) (am_in_vp c21) ?_
            refine am_let_elim (P := fun g22 => am_Ev zc MX5_scan 7 43 [(2, .int v18), (0, .ref 29), (1, .int x1), (3, .int x3)] [] g22 (am_rv r)) h fun g22 h => ?_
            refine ev_aload_n 1 dX5_scan_43 rfl ?_
            refine ev_gf (v := .ref 31) dX5_scan_44 (fun h9 => (h9.2.1 29 _ rfl).2) 1 (by decide) (by decide) kF_X5_15 (fun h9 => congrArg va_rf (h9.2.2 29 1 31 rfl)) ?_
            refine ev_iload_n 2 dX5_scan_47 rfl ?_
            refine ev_aload_n 1 dX5_scan_48 rfl ?_
            refine ev_iload_n 3 dX5_scan_49 rfl ?_
            refine ev_iload_n 0 dX5_scan_50 rfl ?_
            obtain ⟨v23, g24, e25, h⟩ := am_bd_elim h
            refine ev_callVi (v := v23) [.int x3, .int v18] [.int x1, .ref 31] dX5_scan_51 (tX5_tokenOf e25) (by decide) mo_X5_tokenOf kM_X5_68 ki_X5_tokenOf kv_X5_tokenOf (fun h9 => (h9.2.1 29 _ rfl).2) (by decide) rfl (Nat.le_of_ble_eq_true rfl) ?_
            obtain ⟨c26, h⟩ := am_gd_elim h
            refine ev_iast dX5_scan_54 (fun h9 => (h9.2.1 31 _ rfl).2) (am_in_vp c26) ?_
            refine am_let_elim (P := fun g27 => am_Ev zc MX5_scan 7 55 [(2, .int v18), (0, .ref 29), (1, .int x1), (3, .int x3)] [] g27 (am_rv r)) h fun g27 h => ?_
            obtain ⟨x28, ex28, h⟩ := am_let_ex h
            refine ev_iinc (ls' := [(1, .int x28), (2, .int v18), (0, .ref 29), (3, .int x3)]) 2 dX5_scan_55 rfl ex28 (by decide) rfl ?_
            refine ev_sub [2, 0, 1, 3] rfl ?_
            exact hj14 _ _ _ _ h
set_option maxRecDepth 100000 in
set_option maxHeartbeats 4000000 in
theorem eX5_scan (g : am_G) (r : Unit × am_G) (h : fX5_scan g = some r) : am_Ev zc MX5_scan 7 0 [(0, .ref 29)] [] g (am_rv r) := by
  unfold fX5_scan at h
  refine ev_iconst dX5_scan_0 rfl ?_
  refine ev_istore_n (ls' := [(1, .int (0 : Int32)), (0, .ref 29)]) dX5_scan_1 rfl (by decide) rfl ?_
  refine ev_iconst dX5_scan_2 rfl ?_
  refine ev_istore_n (ls' := [(2, .int (0 : Int32)), (1, .int (0 : Int32)), (0, .ref 29)]) dX5_scan_3 rfl (by decide) rfl ?_
  refine ev_iconst dX5_scan_4 rfl ?_
  refine ev_istore_n (ls' := [(3, .int (0 : Int32)), (2, .int (0 : Int32)), (1, .int (0 : Int32)), (0, .ref 29)]) dX5_scan_5 rfl (by decide) rfl ?_
  refine ev_sub [3, 2, 1, 0] rfl ?_
  exact tfX5_scan_L6 _ _ _ _ _ _ h
theorem tX5_scan {g : am_G} {r : Unit × am_G} (h : fX5_scan g = some r) : am_Mt zc MX5_scan 7 [.ref 29] g (am_rv r) := am_Mt.of rfl (Nat.le_of_ble_eq_true rfl) (eX5_scan _ _ h)
