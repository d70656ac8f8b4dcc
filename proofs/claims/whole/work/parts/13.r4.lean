def fX12_plan_L47 (k : Int32 → am_G → Option (Int32 × am_G)) (a1 : Int32) (a2 : Int32) (x3 : Int32) : Nat → Int32 → Int32 → am_G → Option (Int32 × am_G)
  | 0, _, _, _ => none
  | n + 1, x12, x13, g14 =>
    if x3 ≤ x13 then (
      k x12 g14)
    else (
      am_let (x12 * a1) fun x18 =>
      am_let (x13 + (1 : Int32)) fun x19 =>
      fX12_plan_L47 k a1 a2 x3 n x18 x19 g14)
def fX12_plan_L93 (k : am_G → Option (Int32 × am_G)) (a1 : Int32) (a2 : Int32) (x3 : Int32) (x20 : Int32) (x25 : Int32) (x26 : Int32) : Nat → Int32 → Int32 → am_G → Option (Int32 × am_G)
  | 0, _, _, _ => none
  | n + 1, x32, x33, g34 =>
    if x33 < 0 then (
      k g34)
    else (
      am_gd (!decide (a1 = 0)) <|
      am_gd (am_in x33 6) <|
      am_let (am_si g34 27 x33.toNatClampNeg (x32 - x32 / a1 * a1)) fun g39 =>
      am_gd (!decide (a1 = 0)) <|
      am_let (x32 / a1) fun x41 =>
      am_let (x33 + (-1 : Int32)) fun x42 =>
      fX12_plan_L93 k a1 a2 x3 x20 x25 x26 n x41 x42 g39)
def fX12_plan_L137 (k : am_G → Option (Int32 × am_G)) (a1 : Int32) (a2 : Int32) (x3 : Int32) (x20 : Int32) (x25 : Int32) (x26 : Int32) (v44 : Int32) : Nat → Int32 → am_G → Option (Int32 × am_G)
  | 0, _, _ => none
  | n + 1, x50, g51 =>
    if x3 ≤ x50 then (
      k g51)
    else (
      if v44 = 0 then (
        k g51)
      else (
        if x25 = 0 then (
          am_gd (am_in x50 6) <|
          am_gd (am_in x50 6) <|
          am_let (am_si g51 28 x50.toNatClampNeg (am_I g51 27 x50.toNatClampNeg)) fun g58 =>
          am_let (x50 + (1 : Int32)) fun x59 =>
          fX12_plan_L137 k a1 a2 x3 x20 x25 x26 v44 n x59 g58)
        else (
          k g51)))
def fX12_plan_L77 (k : Int32 → am_G → Option (Int32 × am_G)) (a1 : Int32) (a2 : Int32) (x3 : Int32) (x20 : Int32) : Nat → Int32 → Int32 → am_G → Option (Int32 × am_G)
  | 0, _, _, _ => none
  | n + 1, x25, x26, g27 =>
    if x20 ≤ x26 then (
      k x25 g27)
    else (
      am_let (x3 - (1 : Int32)) fun x31 =>
      fX12_plan_L93 (fun  (g43 : am_G) =>
        am_bd (fX12_isQuiet a1 g43) fun v44 g45 =>
        am_bd (fX12_putBack (16 : Int32) g45) fun u47 g48 =>
        fX12_plan_L137 (fun  (g60 : am_G) =>
          am_jn (fun (x62 : Int32) (g63 : am_G) =>
            am_let (x25 + x62) fun x65 =>
            am_let (x26 + (1 : Int32)) fun x66 =>
            fX12_plan_L77 k a1 a2 x3 x20 n x65 x66 g63) fun j64 =>
          if v44 = 0 then (
            j64 (0 : Int32) g60)
          else (
            j64 (1 : Int32) g60)) a1 a2 x3 x20 x25 x26 v44 am_fu (0 : Int32) g48) a1 a2 x3 x20 x25 x26 am_fu x26 x31 g27)
def fX12_plan (a1 : Int32) (a2 : Int32) (g : am_G) : Option (Int32 × am_G) :=
  am_let (am_si g 0 0 (0 : Int32)) fun g1 =>
  am_gd (am_in (2 : Int32) 5660) <|
  am_let (am_I g1 2 (2 : Int32).toNatClampNeg) fun x3 =>
  am_bd (fX12_in a1.toInt64 (1 : Int64) (4 : Int64) g1) fun v4 g5 =>
  if v4 = 0 then (
    some ((-1 : Int32), g5))
  else (
    am_bd (fX12_in a2.toInt64 (-1 : Int64) (x3.toInt64 - (1 : Int64)) g5) fun v8 g9 =>
    if v8 = 0 then (
      some ((-1 : Int32), g9))
    else (
      fX12_plan_L47 (fun (x20 : Int32) (g21 : am_G) =>
        am_bd (fX12_keepAll (16 : Int32) g21) fun u22 g23 =>
        fX12_plan_L77 (fun (x67 : Int32) (g68 : am_G) =>
          if x67 = 0 then (
            some ((-1 : Int32), g68))
          else (
            if a2 = (-1 : Int32) then (
              some (x67, g68))
            else (
              am_gd (am_in a2 6) <|
              some (am_I g68 28 a2.toNatClampNeg, g68)))) a1 a2 x3 x20 am_fu (0 : Int32) (0 : Int32) g23) a1 a2 x3 am_fu (1 : Int32) (0 : Int32) g9))
set_option maxRecDepth 100000 in
set_option maxHeartbeats 4000000 in
theorem tfX12_plan_L47  {k : Int32 → am_G → Option (Int32 × am_G)} (a1 : Int32) (a2 : Int32) (x3 : Int32) (hk : ∀ (x15 : Int32) (g16 : am_G) (r : Int32 × am_G), k x15 g16 = some r → am_Ev zr MX12_plan 8 65 [(0, .ref 0), (1, .int a1), (2, .int a2), (3, .int x3), (4, .int x15)] [] g16 (am_ri r)) : ∀ (n : Nat) (x12 : Int32) (x13 : Int32) (g14 : am_G) (r : Int32 × am_G), fX12_plan_L47 k a1 a2 x3 n x12 x13 g14 = some r → am_Ev zr MX12_plan 8 47 [(0, .ref 0), (1, .int a1), (2, .int a2), (3, .int x3), (4, .int x12), (5, .int x13)] [] g14 (am_ri r) := by
  intro n
  induction n with
  | zero => intro x12 x13 g14 r h; exact nomatch (show (none : Option (Int32 × am_G)) = some r from h)
  | succ n ih =>
    intro x12 x13 g14 r h
    rw [fX12_plan_L47] at h
    refine ev_iload 5 dX12_plan_47 rfl ?_
    refine ev_iload_n 3 dX12_plan_49 rfl ?_
    refine ev_icmp_ge 65 dX12_plan_50 (by decide) (fun c17 => ?_) (fun c17 => ?_)
    · replace h := am_ifp c17 h
      refine ev_sub [0, 1, 2, 3, 4] rfl ?_
      exact hk _ _ _ h
    · replace h := am_ifn c17 h
      refine ev_iload 4 dX12_plan_53 rfl ?_
      refine ev_iload_n 1 dX12_plan_55 rfl ?_
      refine ev_imul dX12_plan_56 ?_
      refine am_let_elim (P := fun x18 => am_Ev zr MX12_plan 8 57 [(0, .ref 0), (1, .int a1), (2, .int a2), (3, .int x3), (4, .int x12), (5, .int x13)] [.int x18] g14 (am_ri r)) h fun x18 h => ?_
      refine ev_istore (ls' := [(4, .int x18), (0, .ref 0), (1, .int a1), (2, .int a2), (3, .int x3), (5, .int x13)]) dX12_plan_57 (by decide) rfl ?_
      obtain ⟨x19, ex19, h⟩ := am_let_ex h
      refine ev_iinc (ls' := [(5, .int x19), (4, .int x18), (0, .ref 0), (1, .int a1), (2, .int a2), (3, .int x3)]) 5 dX12_plan_59 rfl ex19 (by decide) rfl ?_
      refine ev_goto 47 dX12_plan_62 (by decide) ?_
      refine ev_sub [2, 3, 4, 5, 1, 0] rfl ?_
      exact ih _ _ _ _ h
set_option maxRecDepth 100000 in
set_option maxHeartbeats 4000000 in
theorem tfX12_plan_L93  {k : am_G → Option (Int32 × am_G)} (a1 : Int32) (a2 : Int32) (x3 : Int32) (x20 : Int32) (x25 : Int32) (x26 : Int32) (hk : ∀  (g35 : am_G) (r : Int32 × am_G), k  g35 = some r → am_Ev zr MX12_plan 8 121 [(0, .ref 0), (1, .int a1), (2, .int a2), (3, .int x3), (4, .int x20), (5, .int x25), (6, .int x26)] [] g35 (am_ri r)) : ∀ (n : Nat) (x32 : Int32) (x33 : Int32) (g34 : am_G) (r : Int32 × am_G), fX12_plan_L93 k a1 a2 x3 x20 x25 x26 n x32 x33 g34 = some r → am_Ev zr MX12_plan 8 93 [(0, .ref 0), (1, .int a1), (2, .int a2), (3, .int x3), (4, .int x20), (5, .int x25), (6, .int x26), (7, .int x32), (8, .int x33)] [] g34 (am_ri r) := by
  intro n
  induction n with
  | zero => intro x32 x33 g34 r h; exact nomatch (show (none : Option (Int32 × am_G)) = some r from h)
  | succ n ih =>
    intro x32 x33 g34 r h
    rw [fX12_plan_L93] at h
    refine ev_iload 8 dX12_plan_93 rfl ?_
    refine ev_if_lt 121 dX12_plan_95 (by decide) (fun c36 => ?_) (fun c36 => ?_)
    · replace h := am_ifp c36 h
      refine ev_sub [0, 1, 2, 3, 4, 5, 6] rfl ?_
      exact hk  _ _ h
    · replace h := am_ifn c36 h
      refine ev_aload_n 0 dX12_plan_98 rfl ?_
      refine ev_gf (v := .ref 27) dX12_plan_99 (fun h9 => (h9.2.1 0 _ rfl).2) 49 (by decide) (by decide) kF_X12_132 (fun h9 => congrArg va_rf (h9.2.2 0 49 27 rfl)) ?_
      refine ev_iload 8 dX12_plan_102 rfl ?_
      refine ev_iload 7 dX12_plan_104 rfl ?_
      refine ev_iload_n 1 dX12_plan_106 rfl ?_
      obtain ⟨c37, h⟩ := am_gd_elim h
      refine ev_irem dX12_plan_107 (by simpa using c37) ?_
      obtain ⟨c38, h⟩ := am_gd_elim h
      refine ev_iast dX12_plan_108 (fun h9 => (h9.2.1 27 _ rfl).2) (am_in_vp c38) ?_
      refine am_let_elim (P := fun g39 => am_Ev zr MX12_plan 8 109 [(0, .ref 0), (1, .int a1), (2, .int a2), (3, .int x3), (4, .int x20), (5, .int x25), (6, .int x26), (7, .int x32), (8, .int x33)] [] g39 (am_ri r)) h fun g39 h => ?_
      refine ev_iload 7 dX12_plan_109 rfl ?_
      refine ev_iload_n 1 dX12_plan_111 rfl ?_
      obtain ⟨c40, h⟩ := am_gd_elim h
      refine ev_idiv dX12_plan_112 (by simpa using c40) ?_
      refine am_let_elim (P := fun x41 => am_Ev zr MX12_plan 8 113 [(0, .ref 0), (1, .int a1), (2, .int a2), (3, .int x3), (4, .int x20), (5, .int x25), (6, .int x26), (7, .int x32), (8, .int x33)] [.int x41] g39 (am_ri r)) h fun x41 h => ?_
      refine ev_istore (ls' := [(7, .int x41), (0, .ref 0), (1, .int a1), (2, .int a2), (3, .int x3), (4, .int x20), (5, .int x25), (6, .int x26), (8, .int x33)]) dX12_plan_113 (by decide) rfl ?_
      obtain ⟨x42, ex42, h⟩ := am_let_ex h
      refine ev_iinc (ls' := [(8, .int x42), (7, .int x41), (0, .ref 0), (1, .int a1), (2, .int a2), (3, .int x3), (4, .int x20), (5, .int x25), (6, .int x26)]) 8 dX12_plan_115 rfl ex42 (by decide) rfl ?_
      refine ev_goto 93 dX12_plan_118 (by decide) ?_
      refine ev_sub [2, 3, 4, 5, 6, 7, 8, 1, 0] rfl ?_
      exact ih _ _ _ _ h
set_option maxRecDepth 100000 in
set_option maxHeartbeats 4000000 in
theorem tfX12_plan_L137  {k : am_G → Option (Int32 × am_G)} (a1 : Int32) (a2 : Int32) (x3 : Int32) (x20 : Int32) (x25 : Int32) (x26 : Int32) (v44 : Int32) (hk : ∀  (g52 : am_G) (r : Int32 × am_G), k  g52 = some r → am_Ev zr MX12_plan 8 173 [(0, .ref 0), (1, .int a1), (2, .int a2), (3, .int x3), (4, .int x20), (5, .int x25), (6, .int x26), (8, .int v44)] [] g52 (am_ri r)) : ∀ (n : Nat) (x50 : Int32) (g51 : am_G) (r : Int32 × am_G), fX12_plan_L137 k a1 a2 x3 x20 x25 x26 v44 n x50 g51 = some r → am_Ev zr MX12_plan 8 137 [(0, .ref 0), (1, .int a1), (2, .int a2), (3, .int x3), (4, .int x20), (5, .int x25), (6, .int x26), (8, .int v44), (9, .int x50)] [] g51 (am_ri r) := by
  intro n
  induction n with
  | zero => intro x50 g51 r h; exact nomatch (show (none : Option (Int32 × am_G)) = some r from h)
  | succ n ih =>
    intro x50 g51 r h
    rw [fX12_plan_L137] at h
    refine ev_iload 8 dX12_plan_137 rfl ?_
    refine ev_iload_n 3 dX12_plan_139 rfl ?_
    refine ev_icmp_ge 173 dX12_plan_140 (by decide) (fun c53 => ?_) (fun c53 => ?_)
    · replace h := am_ifp c53 h
      refine ev_sub [0, 1, 2, 3, 4, 5, 6, 7] rfl ?_
      exact hk  _ _ h
    · replace h := am_ifn c53 h
      refine ev_iload 7 dX12_plan_143 rfl ?_
      refine ev_if_eq 173 dX12_plan_145 (by decide) (fun c54 => ?_) (fun c54 => ?_)
      · replace h := am_ifp c54 h
        refine ev_sub [0, 1, 2, 3, 4, 5, 6, 7] rfl ?_
        exact hk  _ _ h
      · replace h := am_ifn c54 h
        refine ev_iload 5 dX12_plan_148 rfl ?_
        refine ev_if_ne 173 dX12_plan_150 (by decide) (fun c55 => ?_) (fun c55 => ?_)
        · replace h := am_ifn c55 h
          refine ev_sub [0, 1, 2, 3, 4, 5, 6, 7] rfl ?_
          exact hk  _ _ h
        · replace h := am_ifp c55 h
          refine ev_aload_n 0 dX12_plan_153 rfl ?_
          refine ev_gf (v := .ref 28) dX12_plan_154 (fun h9 => (h9.2.1 0 _ rfl).2) 50 (by decide) (by decide) kF_X12_135 (fun h9 => congrArg va_rf (h9.2.2 0 50 28 rfl)) ?_
          refine ev_iload 8 dX12_plan_157 rfl ?_
          refine ev_aload_n 0 dX12_plan_159 rfl ?_
          refine ev_gf (v := .ref 27) dX12_plan_160 (fun h9 => (h9.2.1 0 _ rfl).2) 49 (by decide) (by decide) kF_X12_132 (fun h9 => congrArg va_rf (h9.2.2 0 49 27 rfl)) ?_
          refine ev_iload 8 dX12_plan_163 rfl ?_
          obtain ⟨c56, h⟩ := am_gd_elim h
          refine ev_iald dX12_plan_165 (fun h9 => (h9.2.1 27 _ rfl).2) (am_in_vp c56) ?_
          obtain ⟨c57, h⟩ := am_gd_elim h
          refine ev_iast dX12_plan_166 (fun h9 => (h9.2.1 28 _ rfl).2) (am_in_vp c57) ?_
          refine am_let_elim (P := fun g58 => am_Ev zr MX12_plan 8 167 [(0, .ref 0), (1, .int a1), (2, .int a2), (3, .int x3), (4, .int x20), (5, .int x25), (6, .int x26), (8, .int v44), (9, .int x50)] [] g58 (am_ri r)) h fun g58 h => ?_
          obtain ⟨x59, ex59, h⟩ := am_let_ex h
          refine ev_iinc (ls' := [(9, .int x59), (0, .ref 0), (1, .int a1), (2, .int a2), (3, .int x3), (4, .int x20), (5, .int x25), (6, .int x26), (8, .int v44)]) 8 dX12_plan_167 rfl ex59 (by decide) rfl ?_
          refine ev_goto 137 dX12_plan_170 (by decide) ?_
          refine ev_sub [1, 2, 3, 4, 5, 6, 7, 8, 0] rfl ?_
          exact ih _ _ _ h
set_option maxRecDepth 100000 in
set_option maxHeartbeats 4000000 in
theorem tfX12_plan_L77  {k : Int32 → am_G → Option (Int32 × am_G)} (a1 : Int32) (a2 : Int32) (x3 : Int32) (x20 : Int32) (hk : ∀ (x28 : Int32) (g29 : am_G) (r : Int32 × am_G), k x28 g29 = some r → am_Ev zr MX12_plan 8 194 [(0, .ref 0), (2, .int a2), (5, .int x28)] [] g29 (am_ri r)) : ∀ (n : Nat) (x25 : Int32) (x26 : Int32) (g27 : am_G) (r : Int32 × am_G), fX12_plan_L77 k a1 a2 x3 x20 n x25 x26 g27 = some r → am_Ev zr MX12_plan 8 77 [(0, .ref 0), (1, .int a1), (2, .int a2), (3, .int x3), (4, .int x20), (5, .int x25), (6, .int x26)] [] g27 (am_ri r) := by
  intro n
  induction n with
  | zero => intro x25 x26 g27 r h; exact nomatch (show (none : Option (Int32 × am_G)) = some r from h)
  | succ n ih =>
    intro x25 x26 g27 r h
    rw [fX12_plan_L77] at h
    refine ev_iload 6 dX12_plan_77 rfl ?_
    refine ev_iload 4 dX12_plan_79 rfl ?_
    refine ev_icmp_ge 194 dX12_plan_81 (by decide) (fun c30 => ?_) (fun c30 => ?_)
    · replace h := am_ifp c30 h
      refine ev_sub [0, 2, 5] rfl ?_
      exact hk _ _ _ h
    · replace h := am_ifn c30 h
      refine ev_iload 6 dX12_plan_84 rfl ?_
      refine ev_istore (ls' := [(7, .int x26), (0, .ref 0), (1, .int a1), (2, .int a2), (3, .int x3), (4, .int x20), (5, .int x25), (6, .int x26)]) dX12_plan_86 (by decide) rfl ?_
      refine ev_iload_n 4 dX12_plan_88 rfl ?_
      refine ev_iconst dX12_plan_89 rfl ?_
      refine ev_isub dX12_plan_90 ?_
      refine am_let_elim (P := fun x31 => am_Ev zr MX12_plan 8 91 [(7, .int x26), (0, .ref 0), (1, .int a1), (2, .int a2), (3, .int x3), (4, .int x20), (5, .int x25), (6, .int x26)] [.int x31] g27 (am_ri r)) h fun x31 h => ?_
      refine ev_istore (ls' := [(8, .int x31), (7, .int x26), (0, .ref 0), (1, .int a1), (2, .int a2), (3, .int x3), (4, .int x20), (5, .int x25), (6, .int x26)]) dX12_plan_91 (by decide) rfl ?_
      refine ev_sub [2, 3, 4, 5, 6, 7, 8, 1, 0] rfl ?_
      refine tfX12_plan_L93 a1 a2 x3 x20 x25 x26 ?_ _ _ _ _ _ h
      intro  g43 r h
      try dsimp only at h
      refine ev_aload_n 0 dX12_plan_121 rfl ?_
      refine ev_iload_n 1 dX12_plan_122 rfl ?_
      obtain ⟨v44, g45, e46, h⟩ := am_bd_elim h
      refine ev_callVi (v := v44) [.int a1] [] dX12_plan_123 (tX12_isQuiet e46) (by decide) mo_X12_isQuiet kM_X12_482 ki_X12_isQuiet kv_X12_isQuiet (fun h9 => (h9.2.1 0 _ rfl).2) (by decide) rfl (Nat.le_of_ble_eq_true rfl) ?_
      refine ev_istore (ls' := [(8, .int v44), (0, .ref 0), (1, .int a1), (2, .int a2), (3, .int x3), (4, .int x20), (5, .int x25), (6, .int x26)]) dX12_plan_126 (by decide) rfl ?_
      refine ev_aload_n 1 dX12_plan_128 rfl ?_
      refine ev_bipush dX12_plan_129 rfl ?_
      obtain ⟨u47, g48, e49, h⟩ := am_bd_elim h
      refine ev_callVv [.int (16 : Int32)] [] dX12_plan_131 (tX12_putBack e49) (by decide) mo_X12_putBack kM_X12_180 ki_X12_putBack kv_X12_putBack (fun h9 => (h9.2.1 0 _ rfl).2) (by decide) rfl (Nat.le_of_ble_eq_true rfl) ?_
      refine ev_iconst dX12_plan_134 rfl ?_
      refine ev_istore (ls' := [(9, .int (0 : Int32)), (8, .int v44), (0, .ref 0), (1, .int a1), (2, .int a2), (3, .int x3), (4, .int x20), (5, .int x25), (6, .int x26)]) dX12_plan_135 (by decide) rfl ?_
      refine ev_sub [2, 3, 4, 5, 6, 7, 8, 1, 0] rfl ?_
      refine tfX12_plan_L137 a1 a2 x3 x20 x25 x26 v44 ?_ _ _ _ _ h
      intro  g60 r h
      try dsimp only at h
      refine ev_iload 5 dX12_plan_173 rfl ?_
      refine ev_iload 7 dX12_plan_175 rfl ?_
      refine am_jn_elim (fun q9 => ∀ (x62 : Int32) (g63 : am_G) (r : Int32 × am_G), q9 x62 g63 = some r → am_Ev zr MX12_plan 8 185 [(0, .ref 0), (1, .int a1), (2, .int a2), (3, .int x3), (4, .int x20), (6, .int x26)] [.int x62, .int x25] g63 (am_ri r)) h ?_ (fun j64 hj64 h => ?_)
      · intro x62 g63 r h
        try dsimp only at h
        refine ev_iadd dX12_plan_185 ?_
        refine am_let_elim (P := fun x65 => am_Ev zr MX12_plan 8 186 [(0, .ref 0), (1, .int a1), (2, .int a2), (3, .int x3), (4, .int x20), (6, .int x26)] [.int x65] g63 (am_ri r)) h fun x65 h => ?_
        refine ev_istore (ls' := [(5, .int x65), (0, .ref 0), (1, .int a1), (2, .int a2), (3, .int x3), (4, .int x20), (6, .int x26)]) dX12_plan_186 (by decide) rfl ?_
        obtain ⟨x66, ex66, h⟩ := am_let_ex h
        refine ev_iinc (ls' := [(6, .int x66), (5, .int x65), (0, .ref 0), (1, .int a1), (2, .int a2), (3, .int x3), (4, .int x20)]) 6 dX12_plan_188 rfl ex66 (by decide) rfl ?_
        refine ev_goto 77 dX12_plan_191 (by decide) ?_
        refine ev_sub [2, 3, 4, 5, 6, 1, 0] rfl ?_
        exact ih _ _ _ _ h
      · refine ev_if_eq 184 dX12_plan_177 (by decide) (fun c61 => ?_) (fun c61 => ?_)
        · replace h := am_ifp c61 h
          refine ev_iconst dX12_plan_184 rfl ?_
          refine ev_sub [0, 1, 2, 3, 4, 6] rfl ?_
          exact hj64 _ _ _ h
        · replace h := am_ifn c61 h
          refine ev_iconst dX12_plan_180 rfl ?_
          refine ev_goto 185 dX12_plan_181 (by decide) ?_
          refine ev_sub [0, 1, 2, 3, 4, 6] rfl ?_
          exact hj64 _ _ _ h
set_option maxRecDepth 100000 in
set_option maxHeartbeats 4000000 in
theorem eX12_plan (a1 : Int32) (a2 : Int32) (g : am_G) (r : Int32 × am_G) (h : fX12_plan a1 a2 g = some r) : am_Ev zr MX12_plan 8 0 [(0, .ref 0), (1, .int a1), (2, .int a2)] [] g (am_ri r) := by
  unfold fX12_plan at h
  refine ev_aload_n 0 dX12_plan_0 rfl ?_
  refine ev_iconst dX12_plan_1 rfl ?_
  refine ev_pfi dX12_plan_2 (fun h9 => (h9.2.1 0 _ rfl).2) 0 (by decide) (by decide) kF_X12_163 rfl rfl rfl (fun _ => rfl) ?_
  refine am_let_elim (P := fun g1 => am_Ev zr MX12_plan 8 5 [(0, .ref 0), (1, .int a1), (2, .int a2)] [] g1 (am_ri r)) h fun g1 h => ?_
  refine ev_aload_n 0 dX12_plan_5 rfl ?_
  refine ev_gf (v := .ref 2) dX12_plan_6 (fun h9 => (h9.2.1 0 _ rfl).2) 3 (by decide) (by decide) kF_X12_13 (fun h9 => congrArg va_rf (h9.2.2 0 3 2 rfl)) ?_
  refine ev_iconst dX12_plan_9 rfl ?_
  obtain ⟨c2, h⟩ := am_gd_elim h
  refine ev_iald dX12_plan_10 (fun h9 => (h9.2.1 2 _ rfl).2) (am_in_vp c2) ?_
  refine am_let_elim (P := fun x3 => am_Ev zr MX12_plan 8 11 [(0, .ref 0), (1, .int a1), (2, .int a2)] [.int x3] g1 (am_ri r)) h fun x3 h => ?_
  refine ev_istore_n (ls' := [(3, .int x3), (0, .ref 0), (1, .int a1), (2, .int a2)]) dX12_plan_11 rfl (by decide) rfl ?_
  refine ev_iload_n 2 dX12_plan_12 rfl ?_
  refine ev_i2l dX12_plan_13 ?_
  refine ev_lconst dX12_plan_14 rfl ?_
  refine ev_ldc2 dX12_plan_15 kL_X12_193 ?_
  obtain ⟨v4, g5, e6, h⟩ := am_bd_elim h
  refine ev_callSi (v := v4) [.long a1.toInt64, .long (1 : Int64), .long (4 : Int64)] [] dX12_plan_18 (tX12_in e6) (by decide) mo_X12_in kM_X12_183 ks_X12_in (Nat.le_of_ble_eq_true rfl) ?_
  refine ev_if_eq 39 dX12_plan_21 (by decide) (fun c7 => ?_) (fun c7 => ?_)
  · replace h := am_ifp c7 h
    refine ev_iconst dX12_plan_39 rfl ?_
    cases h
    exact ev_iret dX12_plan_40 rfl
  · replace h := am_ifn c7 h
    refine ev_iload_n 3 dX12_plan_24 rfl ?_
    refine ev_i2l dX12_plan_25 ?_
    refine ev_ldc2 dX12_plan_26 kL_X12_266 ?_
    refine ev_iload_n 0 dX12_plan_29 rfl ?_
    refine ev_i2l dX12_plan_30 ?_
    refine ev_lconst dX12_plan_31 rfl ?_
    refine ev_lsub dX12_plan_32 ?_
    obtain ⟨v8, g9, e10, h⟩ := am_bd_elim h
    refine ev_callSi (v := v8) [.long a2.toInt64, .long (-1 : Int64), .long (x3.toInt64 - (1 : Int64))] [] dX12_plan_33 (tX12_in e10) (by decide) mo_X12_in kM_X12_183 ks_X12_in (Nat.le_of_ble_eq_true rfl) ?_
    refine ev_if_ne 41 dX12_plan_36 (by decide) (fun c11 => ?_) (fun c11 => ?_)
    · replace h := am_ifn c11 h
      refine ev_iconst dX12_plan_41 rfl ?_
      refine ev_istore (ls' := [(4, .int (1 : Int32)), (3, .int x3), (0, .ref 0), (1, .int a1), (2, .int a2)]) dX12_plan_42 (by decide) rfl ?_
      refine ev_iconst dX12_plan_44 rfl ?_
      refine ev_istore (ls' := [(5, .int (0 : Int32)), (4, .int (1 : Int32)), (3, .int x3), (0, .ref 0), (1, .int a1), (2, .int a2)]) dX12_plan_45 (by decide) rfl ?_
      refine ev_sub [3, 4, 5, 2, 1, 0] rfl ?_
      refine tfX12_plan_L47 a1 a2 x3 ?_ _ _ _ _ _ h
      intro x20 g21 r h
      try dsimp only at h
      refine ev_aload_n 0 dX12_plan_65 rfl ?_
      refine ev_bipush dX12_plan_66 rfl ?_
      obtain ⟨u22, g23, e24, h⟩ := am_bd_elim h
      refine ev_callVv [.int (16 : Int32)] [] dX12_plan_68 (tX12_keepAll e24) (by decide) mo_X12_keepAll kM_X12_172 ki_X12_keepAll kv_X12_keepAll (fun h9 => (h9.2.1 0 _ rfl).2) (by decide) rfl (Nat.le_of_ble_eq_true rfl) ?_
      refine ev_iconst dX12_plan_71 rfl ?_
      refine ev_istore (ls' := [(5, .int (0 : Int32)), (0, .ref 0), (1, .int a1), (2, .int a2), (3, .int x3), (4, .int x20)]) dX12_plan_72 (by decide) rfl ?_
      refine ev_iconst dX12_plan_74 rfl ?_
      refine ev_istore (ls' := [(6, .int (0 : Int32)), (5, .int (0 : Int32)), (0, .ref 0), (1, .int a1), (2, .int a2), (3, .int x3), (4, .int x20)]) dX12_plan_75 (by decide) rfl ?_
      refine ev_sub [2, 3, 4, 5, 6, 1, 0] rfl ?_
      refine tfX12_plan_L77 a1 a2 x3 x20 ?_ _ _ _ _ _ h
      intro x67 g68 r h
      try dsimp only at h
      refine ev_iload 2 dX12_plan_194 rfl ?_
      refine ev_if_ne 203 dX12_plan_196 (by decide) (fun c69 => ?_) (fun c69 => ?_)
      · replace h := am_ifn c69 h
        refine ev_iload_n 1 dX12_plan_203 rfl ?_
        refine ev_iconst dX12_plan_204 rfl ?_
        refine ev_icmp_ne 213 dX12_plan_205 (by decide) (fun c70 => ?_) (fun c70 => ?_)
        · replace h := am_ifn c70 h
          refine ev_aload_n 0 dX12_plan_213 rfl ?_
          refine ev_gf (v := .ref 28) dX12_plan_214 (fun h9 => (h9.2.1 0 _ rfl).2) 50 (by decide) (by decide) kF_X12_135 (fun h9 => congrArg va_rf (h9.2.2 0 50 28 rfl)) ?_
          refine ev_iload_n 1 dX12_plan_217 rfl ?_
          obtain ⟨c71, h⟩ := am_gd_elim h
          refine ev_iald dX12_plan_218 (fun h9 => (h9.2.1 28 _ rfl).2) (am_in_vp c71) ?_
          cases h
          exact ev_iret dX12_plan_219 rfl
        · replace h := am_ifp c70 h
          refine ev_iload 2 dX12_plan_208 rfl ?_
          refine ev_goto 219 dX12_plan_210 (by decide) ?_
          cases h
          exact ev_iret dX12_plan_219 rfl
      · replace h := am_ifp c69 h
        refine ev_iconst dX12_plan_199 rfl ?_
        refine ev_goto 219 dX12_plan_200 (by decide) ?_
        cases h
        exact ev_iret dX12_plan_219 rfl
    · replace h := am_ifp c11 h
      refine ev_iconst dX12_plan_39 rfl ?_
      cases h
      exact ev_iret dX12_plan_40 rfl
theorem tX12_plan {a1 : Int32} {a2 : Int32} {g : am_G} {r : Int32 × am_G} (h : fX12_plan a1 a2 g = some r) : am_Mt zr MX12_plan 8 [.ref 0, .int a1, .int a2] g (am_ri r) := am_Mt.of rfl (Nat.le_of_ble_eq_true rfl) (eX12_plan _ _ _ _ h)
def fX12_bringBy (a1 : Int32) (a2 : Int32) (a3 : Int32) (g : am_G) : Option (Int32 × am_G) :=
  am_let (a3 / (3 : Int32)) fun x1 =>
  am_let ((a3 - a3 / (3 : Int32) * (3 : Int32)) + (1 : Int32)) fun x2 =>
  am_bd (fX12_isBarred x1 a2 x2 g) fun v3 g4 =>
  if v3 = 0 then (
    am_gd (am_in (8 : Int32) 5660) <|
    am_let (am_I g4 2 (8 : Int32).toNatClampNeg) fun x8 =>
    am_bd (fX12_ofSlope a1 (9 : Int32) g4) fun v9 g10 =>
    am_bd (fX12_sayIt (0 : Int32) x1 a2 x2 g10) fun v12 g13 =>
    am_gd (am_in (8 : Int32) 5660) <|
    if (am_I g13 2 (8 : Int32).toNatClampNeg) = x8 then (
      am_bd (fX12_ofSlope a1 (9 : Int32) g13) fun v17 g18 =>
      if v17 ≤ v9 then (
        some ((0 : Int32), g18))
      else (
        some ((1 : Int32), g18)))
    else (
      some ((-1 : Int32), g13)))
  else (
    some ((-1 : Int32), g4))
set_option maxRecDepth 100000 in
set_option maxHeartbeats 4000000 in
theorem eX12_bringBy (a1 : Int32) (a2 : Int32) (a3 : Int32) (g : am_G) (r : Int32 × am_G) (h : fX12_bringBy a1 a2 a3 g = some r) : am_Ev zr MX12_bringBy 7 0 [(0, .ref 0), (1, .int a1), (2, .int a2), (3, .int a3)] [] g (am_ri r) := by
  unfold fX12_bringBy at h
  refine ev_iload_n 3 dX12_bringBy_0 rfl ?_
  refine ev_iconst dX12_bringBy_1 rfl ?_
  refine ev_idiv dX12_bringBy_2 (by decide) ?_
  refine am_let_elim (P := fun x1 => am_Ev zr MX12_bringBy 7 3 [(0, .ref 0), (1, .int a1), (2, .int a2), (3, .int a3)] [.int x1] g (am_ri r)) h fun x1 h => ?_
  refine ev_istore (ls' := [(4, .int x1), (0, .ref 0), (1, .int a1), (2, .int a2), (3, .int a3)]) dX12_bringBy_3 (by decide) rfl ?_
  refine ev_iload_n 4 dX12_bringBy_5 rfl ?_
  refine ev_iconst dX12_bringBy_6 rfl ?_
  refine ev_irem dX12_bringBy_7 (by decide) ?_
  refine ev_iconst dX12_bringBy_8 rfl ?_
  refine ev_iadd dX12_bringBy_9 ?_
  refine am_let_elim (P := fun x2 => am_Ev zr MX12_bringBy 7 10 [(4, .int x1), (0, .ref 0), (1, .int a1), (2, .int a2), (3, .int a3)] [.int x2] g (am_ri r)) h fun x2 h => ?_
  refine ev_istore (ls' := [(5, .int x2), (4, .int x1), (0, .ref 0), (1, .int a1), (2, .int a2), (3, .int a3)]) dX12_bringBy_10 (by decide) rfl ?_
  refine ev_aload_n 2 dX12_bringBy_12 rfl ?_
  refine ev_iload 1 dX12_bringBy_13 rfl ?_
  refine ev_iload_n 4 dX12_bringBy_15 rfl ?_
  refine ev_iload 0 dX12_bringBy_16 rfl ?_
  obtain ⟨v3, g4, e5, h⟩ := am_bd_elim h
  refine ev_callVi (v := v3) [.int x1, .int a2, .int x2] [] dX12_bringBy_18 (tX12_isBarred e5) (by decide) mo_X12_isBarred kM_X12_438 ki_X12_isBarred kv_X12_isBarred (fun h9 => (h9.2.1 0 _ rfl).2) (by decide) rfl (Nat.le_of_ble_eq_true rfl) ?_
  refine ev_if_eq 26 dX12_bringBy_21 (by decide) (fun c6 => ?_) (fun c6 => ?_)
  · replace h := am_ifp c6 h
    refine ev_aload_n 2 dX12_bringBy_26 rfl ?_
    refine ev_gf (v := .ref 2) dX12_bringBy_27 (fun h9 => (h9.2.1 0 _ rfl).2) 3 (by decide) (by decide) kF_X12_13 (fun h9 => congrArg va_rf (h9.2.2 0 3 2 rfl)) ?_
    refine ev_bipush dX12_bringBy_30 rfl ?_
    obtain ⟨c7, h⟩ := am_gd_elim h
    refine ev_iald dX12_bringBy_32 (fun h9 => (h9.2.1 2 _ rfl).2) (am_in_vp c7) ?_
    refine am_let_elim (P := fun x8 => am_Ev zr MX12_bringBy 7 33 [(5, .int x2), (4, .int x1), (0, .ref 0), (1, .int a1), (2, .int a2), (3, .int a3)] [.int x8] g4 (am_ri r)) h fun x8 h => ?_
    refine ev_istore (ls' := [(6, .int x8), (5, .int x2), (4, .int x1), (0, .ref 0), (1, .int a1), (2, .int a2), (3, .int a3)]) dX12_bringBy_33 (by decide) rfl ?_
    refine ev_aload_n 3 dX12_bringBy_35 rfl ?_
    refine ev_iload_n 4 dX12_bringBy_36 rfl ?_
    refine ev_bipush dX12_bringBy_37 rfl ?_
    obtain ⟨v9, g10, e11, h⟩ := am_bd_elim h
    refine ev_callVi (v := v9) [.int a1, .int (9 : Int32)] [] dX12_bringBy_39 (tX12_ofSlope e11) (by decide) mo_X12_ofSlope kM_X12_210 ki_X12_ofSlope kv_X12_ofSlope (fun h9 => (h9.2.1 0 _ rfl).2) (by decide) rfl (Nat.le_of_ble_eq_true rfl) ?_
    refine ev_istore (ls' := [(7, .int v9), (6, .int x8), (5, .int x2), (4, .int x1), (0, .ref 0), (1, .int a1), (2, .int a2), (3, .int a3)]) dX12_bringBy_42 (by decide) rfl ?_
    refine ev_aload_n 4 dX12_bringBy_44 rfl ?_
    refine ev_iconst dX12_bringBy_45 rfl ?_
    refine ev_iload 3 dX12_bringBy_46 rfl ?_
    refine ev_iload_n 6 dX12_bringBy_48 rfl ?_
    refine ev_iload 2 dX12_bringBy_49 rfl ?_
    obtain ⟨v12, g13, e14, h⟩ := am_bd_elim h
    refine ev_callVi (v := v12) [.int (0 : Int32), .int x1, .int a2, .int x2] [] dX12_bringBy_51 (tX12_sayIt e14) (by decide) mo_X12_sayIt kM_X12_454 ki_X12_sayIt kv_X12_sayIt (fun h9 => (h9.2.1 0 _ rfl).2) (by decide) rfl (Nat.le_of_ble_eq_true rfl) ?_
    refine ev_pop dX12_bringBy_54 rfl ?_
    refine ev_aload_n 4 dX12_bringBy_55 rfl ?_
    refine ev_gf (v := .ref 2) dX12_bringBy_56 (fun h9 => (h9.2.1 0 _ rfl).2) 3 (by decide) (by decide) kF_X12_13 (fun h9 => congrArg va_rf (h9.2.2 0 3 2 rfl)) ?_
    refine ev_bipush dX12_bringBy_59 rfl ?_
    obtain ⟨c15, h⟩ := am_gd_elim h
    refine ev_iald dX12_bringBy_61 (fun h9 => (h9.2.1 2 _ rfl).2) (am_in_vp c15) ?_
    refine ev_iload 1 dX12_bringBy_62 rfl ?_
    refine ev_icmp_eq 71 dX12_bringBy_64 (by decide) (fun c16 => ?_) (fun c16 => ?_)
    · replace h := am_ifp c16 h
      refine ev_aload_n 4 dX12_bringBy_71 rfl ?_
      refine ev_iload_n 5 dX12_bringBy_72 rfl ?_
      refine ev_bipush dX12_bringBy_73 rfl ?_
      obtain ⟨v17, g18, e19, h⟩ := am_bd_elim h
      refine ev_callVi (v := v17) [.int a1, .int (9 : Int32)] [] dX12_bringBy_75 (tX12_ofSlope e19) (by decide) mo_X12_ofSlope kM_X12_210 ki_X12_ofSlope kv_X12_ofSlope (fun h9 => (h9.2.1 0 _ rfl).2) (by decide) rfl (Nat.le_of_ble_eq_true rfl) ?_
      refine ev_iload 0 dX12_bringBy_78 rfl ?_
      refine ev_icmp_le 87 dX12_bringBy_80 (by decide) (fun c20 => ?_) (fun c20 => ?_)
      · replace h := am_ifp c20 h
        refine ev_iconst dX12_bringBy_87 rfl ?_
        cases h
        exact ev_iret dX12_bringBy_88 rfl
      · replace h := am_ifn c20 h
        refine ev_iconst dX12_bringBy_83 rfl ?_
        refine ev_goto 88 dX12_bringBy_84 (by decide) ?_
        cases h
        exact ev_iret dX12_bringBy_88 rfl
    · replace h := am_ifn c16 h
      refine ev_iconst dX12_bringBy_67 rfl ?_
      refine ev_goto 88 dX12_bringBy_68 (by decide) ?_
      cases h
      exact ev_iret dX12_bringBy_88 rfl
  · replace h := am_ifn c6 h
    refine ev_iconst dX12_bringBy_24 rfl ?_
    cases h
    exact ev_iret dX12_bringBy_25 rfl
theorem tX12_bringBy {a1 : Int32} {a2 : Int32} {a3 : Int32} {g : am_G} {r : Int32 × am_G} (h : fX12_bringBy a1 a2 a3 g = some r) : am_Mt zr MX12_bringBy 7 [.ref 0, .int a1, .int a2, .int a3] g (am_ri r) := am_Mt.of rfl (Nat.le_of_ble_eq_true rfl) (eX12_bringBy _ _ _ _ _ h)
def fX12_isBrought_L16 (a1 : Int32) (a2 : Int32) (a3 : Int32) : Nat → Int32 → am_G → Option (Int32 × am_G)
  | 0, _, _ => none
  | n + 1, x6, g7 =>
    if x6 < 0 then (
      some ((0 : Int32), g7))
    else (
      am_gd (am_in x6 3) <|
      am_gd (am_in x6 3) <|
      am_let (am_si g7 29 x6.toNatClampNeg ((am_I g7 29 x6.toNatClampNeg) + (1 : Int32))) fun g11 =>
      am_gd (am_in x6 3) <|
      am_gd (am_in (0 : Int32) 5660) <|
      if (am_I g11 29 x6.toNatClampNeg) = ((3 : Int32) * (am_I g11 2 (0 : Int32).toNatClampNeg)) then (
        am_let (x6 + (-1 : Int32)) fun x42 =>
        if x42 < 0 then (
          fX12_isBrought_L16 a1 a2 a3 n x42 g11)
        else (
          am_bd (fX12_putBack ((16 : Int32) + x42) g11) fun u44 g45 =>
          fX12_isBrought_L16 a1 a2 a3 n x42 g45))
      else (
        am_gd (am_in x6 3) <|
        am_bd (fX12_bringBy a1 a2 (am_I g11 29 x6.toNatClampNeg) g11) fun v16 g17 =>
        am_jn (fun  (g20 : am_G) =>
          am_jn (fun (x23 : Int32) (g24 : am_G) =>
            fX12_isBrought_L16 a1 a2 a3 n x23 g24) fun j25 =>
          am_jn (fun  (g26 : am_G) =>
            am_bd (fX12_putBack ((16 : Int32) + x6) g26) fun u28 g29 =>
            j25 x6 g29) fun j27 =>
          if v16 = 0 then (
            if (a3 - (1 : Int32)) ≤ x6 then (
              j27 g20)
            else (
              am_let (x6 + (1 : Int32)) fun x32 =>
              am_bd (fX12_keepAll ((16 : Int32) + x32) g20) fun u33 g34 =>
              am_gd (am_in x32 3) <|
              am_let (am_si g34 29 x32.toNatClampNeg (-1 : Int32)) fun g37 =>
              j25 x32 g37))
          else (
            j27 g20)) fun j21 =>
        if v16 = (1 : Int32) then (
          if x6 = (a3 - (1 : Int32)) then (
            am_bd (fX12_putBack (16 : Int32) g17) fun u39 g40 =>
            some ((1 : Int32), g40))
          else (
            j21 g17))
        else (
          j21 g17)))
def fX12_isBrought (a1 : Int32) (a2 : Int32) (a3 : Int32) (g : am_G) : Option (Int32 × am_G) :=
  am_bd (fX12_keepAll (16 : Int32) g) fun u1 g2 =>
  am_gd (am_in (0 : Int32) 3) <|
  am_let (am_si g2 29 (0 : Int32).toNatClampNeg (-1 : Int32)) fun g5 =>
  fX12_isBrought_L16 a1 a2 a3 am_fu (0 : Int32) g5
set_option maxRecDepth 100000 in
set_option maxHeartbeats 4000000 in
theorem tfX12_isBrought_L16  (a1 : Int32) (a2 : Int32) (a3 : Int32) : ∀ (n : Nat) (x6 : Int32) (g7 : am_G) (r : Int32 × am_G), fX12_isBrought_L16 a1 a2 a3 n x6 g7 = some r → am_Ev zr MX12_isBrought 8 16 [(0, .ref 0), (1, .int a1), (2, .int a2), (3, .int a3), (4, .int x6)] [] g7 (am_ri r) := by
  intro n
  induction n with
  | zero => intro x6 g7 r h; exact nomatch (show (none : Option (Int32 × am_G)) = some r from h)
  | succ n ih =>
    intro x6 g7 r h
    rw [fX12_isBrought_L16] at h
    refine ev_iload 4 dX12_isBrought_16 rfl ?_
    refine ev_if_lt 155 dX12_isBrought_18 (by decide) (fun c8 => ?_) (fun c8 => ?_)
    · replace h := am_ifp c8 h
      refine ev_iconst dX12_isBrought_155 rfl ?_
      cases h
      exact ev_zret dX12_isBrought_156 rfl rfl
    · replace h := am_ifn c8 h
      refine ev_aload_n 0 dX12_isBrought_21 rfl ?_
      refine ev_gf (v := .ref 29) dX12_isBrought_22 (fun h9 => (h9.2.1 0 _ rfl).2) 51 (by decide) (by decide) kF_X12_138 (fun h9 => congrArg va_rf (h9.2.2 0 51 29 rfl)) ?_
      refine ev_iload 4 dX12_isBrought_25 rfl ?_
      refine ev_dup2 dX12_isBrought_27 rfl rfl ?_
      obtain ⟨c9, h⟩ := am_gd_elim h
      refine ev_iald dX12_isBrought_28 (fun h9 => (h9.2.1 29 _ rfl).2) (am_in_vp c9) ?_
      refine ev_iconst dX12_isBrought_29 rfl ?_
      refine ev_iadd dX12_isBrought_30 ?_
      obtain ⟨c10, h⟩ := am_gd_elim h
      refine ev_iast dX12_isBrought_31 (fun h9 => (h9.2.1 29 _ rfl).2) (am_in_vp c10) ?_
      refine am_let_elim (P := fun g11 => am_Ev zr MX12_isBrought 8 32 [(0, .ref 0), (1, .int a1), (2, .int a2), (3, .int a3), (4, .int x6)] [] g11 (am_ri r)) h fun g11 h => ?_
      refine ev_aload_n 0 dX12_isBrought_32 rfl ?_
      refine ev_gf (v := .ref 29) dX12_isBrought_33 (fun h9 => (h9.2.1 0 _ rfl).2) 51 (by decide) (by decide) kF_X12_138 (fun h9 => congrArg va_rf (h9.2.2 0 51 29 rfl)) ?_
      refine ev_iload 4 dX12_isBrought_36 rfl ?_
      obtain ⟨c12, h⟩ := am_gd_elim h
      refine ev_iald dX12_isBrought_38 (fun h9 => (h9.2.1 29 _ rfl).2) (am_in_vp c12) ?_
      refine ev_iconst dX12_isBrought_39 rfl ?_
      refine ev_aload_n 0 dX12_isBrought_40 rfl ?_
      refine ev_gf (v := .ref 2) dX12_isBrought_41 (fun h9 => (h9.2.1 0 _ rfl).2) 3 (by decide) (by decide) kF_X12_13 (fun h9 => congrArg va_rf (h9.2.2 0 3 2 rfl)) ?_
      refine ev_iconst dX12_isBrought_44 rfl ?_
      obtain ⟨c13, h⟩ := am_gd_elim h
      refine ev_iald dX12_isBrought_45 (fun h9 => (h9.2.1 2 _ rfl).2) (am_in_vp c13) ?_
      refine ev_imul dX12_isBrought_46 ?_
      refine ev_icmp_ne 70 dX12_isBrought_47 (by decide) (fun c14 => ?_) (fun c14 => ?_)
      · replace h := am_ifn c14 h
        refine ev_aload_n 0 dX12_isBrought_70 rfl ?_
        refine ev_iload_n 1 dX12_isBrought_71 rfl ?_
        refine ev_iload_n 2 dX12_isBrought_72 rfl ?_
        refine ev_aload_n 0 dX12_isBrought_73 rfl ?_
        refine ev_gf (v := .ref 29) dX12_isBrought_74 (fun h9 => (h9.2.1 0 _ rfl).2) 51 (by decide) (by decide) kF_X12_138 (fun h9 => congrArg va_rf (h9.2.2 0 51 29 rfl)) ?_
        refine ev_iload 4 dX12_isBrought_77 rfl ?_
        obtain ⟨c15, h⟩ := am_gd_elim h
        refine ev_iald dX12_isBrought_79 (fun h9 => (h9.2.1 29 _ rfl).2) (am_in_vp c15) ?_
        obtain ⟨v16, g17, e18, h⟩ := am_bd_elim h
        refine ev_callVi (v := v16) [.int a1, .int a2, .int (am_I g11 29 x6.toNatClampNeg)] [] dX12_isBrought_80 (tX12_bringBy e18) (by decide) mo_X12_bringBy kM_X12_485 ki_X12_bringBy kv_X12_bringBy (fun h9 => (h9.2.1 0 _ rfl).2) (by decide) rfl (Nat.le_of_ble_eq_true rfl) ?_
        refine ev_istore (ls' := [(5, .int v16), (0, .ref 0), (1, .int a1), (2, .int a2), (3, .int a3), (4, .int x6)]) dX12_isBrought_83 (by decide) rfl ?_
        refine ev_iload 0 dX12_isBrought_85 rfl ?_
        refine ev_iconst dX12_isBrought_87 rfl ?_
        refine am_jn_elim (fun q9 => ∀  (g20 : am_G) (r : Int32 × am_G), q9  g20 = some r → am_Ev zr MX12_isBrought 8 107 [(0, .ref 0), (1, .int a1), (2, .int a2), (3, .int a3), (4, .int x6), (5, .int v16)] [] g20 (am_ri r)) h ?_ (fun j21 hj21 h => ?_)
        · intro  g20 r h
          try dsimp only at h
          refine ev_iload 5 dX12_isBrought_107 rfl ?_
          refine am_jn_elim (fun q9 => ∀ (x23 : Int32) (g24 : am_G) (r : Int32 × am_G), q9 x23 g24 = some r → am_Ev zr MX12_isBrought 8 152 [(0, .ref 0), (1, .int a1), (2, .int a2), (3, .int a3), (4, .int x23)] [] g24 (am_ri r)) h ?_ (fun j25 hj25 h => ?_)
          · intro x23 g24 r h
            try dsimp only at h
            refine ev_goto 16 dX12_isBrought_152 (by decide) ?_
            refine ev_sub [0, 1, 2, 3, 4] rfl ?_
            exact ih _ _ _ h
          · refine am_jn_elim (fun q9 => ∀  (g26 : am_G) (r : Int32 × am_G), q9  g26 = some r → am_Ev zr MX12_isBrought 8 143 [(0, .ref 0), (1, .int a1), (2, .int a2), (3, .int a3), (4, .int x6)] [] g26 (am_ri r)) h ?_ (fun j27 hj27 h => ?_)
            · intro  g26 r h
              try dsimp only at h
              refine ev_aload_n 0 dX12_isBrought_143 rfl ?_
              refine ev_bipush dX12_isBrought_144 rfl ?_
              refine ev_iload 4 dX12_isBrought_146 rfl ?_
              refine ev_iadd dX12_isBrought_148 ?_
              obtain ⟨u28, g29, e30, h⟩ := am_bd_elim h
              refine ev_callVv [.int ((16 : Int32) + x6)] [] dX12_isBrought_149 (tX12_putBack e30) (by decide) mo_X12_putBack kM_X12_180 ki_X12_putBack kv_X12_putBack (fun h9 => (h9.2.1 0 _ rfl).2) (by decide) rfl (Nat.le_of_ble_eq_true rfl) ?_
              refine ev_sub [0, 1, 2, 3, 4] rfl ?_
              exact hj25 _ _ _ h
            · refine ev_if_ne 143 dX12_isBrought_109 (by decide) (fun c22 => ?_) (fun c22 => ?_)
              · replace h := am_ifn c22 h
                refine ev_sub [0, 1, 2, 3, 4] rfl ?_
                exact hj27  _ _ h
              · replace h := am_ifp c22 h
                refine ev_iload 4 dX12_isBrought_112 rfl ?_
                refine ev_iload_n 3 dX12_isBrought_114 rfl ?_
                refine ev_iconst dX12_isBrought_115 rfl ?_
                refine ev_isub dX12_isBrought_116 ?_
                refine ev_icmp_ge 143 dX12_isBrought_117 (by decide) (fun c31 => ?_) (fun c31 => ?_)
                · replace h := am_ifp c31 h
                  refine ev_sub [0, 1, 2, 3, 4] rfl ?_
                  exact hj27  _ _ h
                · replace h := am_ifn c31 h
                  obtain ⟨x32, ex32, h⟩ := am_let_ex h
                  refine ev_iinc (ls' := [(4, .int x32), (0, .ref 0), (1, .int a1), (2, .int a2), (3, .int a3), (5, .int v16)]) 4 dX12_isBrought_120 rfl ex32 (by decide) rfl ?_
                  refine ev_aload_n 1 dX12_isBrought_123 rfl ?_
                  refine ev_bipush dX12_isBrought_124 rfl ?_
                  refine ev_iload 0 dX12_isBrought_126 rfl ?_
                  refine ev_iadd dX12_isBrought_128 ?_
                  obtain ⟨u33, g34, e35, h⟩ := am_bd_elim h
                  refine ev_callVv [.int ((16 : Int32) + x32)] [] dX12_isBrought_129 (tX12_keepAll e35) (by decide) mo_X12_keepAll kM_X12_172 ki_X12_keepAll kv_X12_keepAll (fun h9 => (h9.2.1 0 _ rfl).2) (by decide) rfl (Nat.le_of_ble_eq_true rfl) ?_
                  refine ev_aload_n 1 dX12_isBrought_132 rfl ?_
                  refine ev_gf (v := .ref 29) dX12_isBrought_133 (fun h9 => (h9.2.1 0 _ rfl).2) 51 (by decide) (by decide) kF_X12_138 (fun h9 => congrArg va_rf (h9.2.2 0 51 29 rfl)) ?_
                  refine ev_iload 0 dX12_isBrought_136 rfl ?_
                  refine ev_iconst dX12_isBrought_138 rfl ?_
                  obtain ⟨c36, h⟩ := am_gd_elim h
                  refine ev_iast dX12_isBrought_139 (fun h9 => (h9.2.1 29 _ rfl).2) (am_in_vp c36) ?_
                  refine am_let_elim (P := fun g37 => am_Ev zr MX12_isBrought 8 140 [(4, .int x32), (0, .ref 0), (1, .int a1), (2, .int a2), (3, .int a3), (5, .int v16)] [] g37 (am_ri r)) h fun g37 h => ?_
                  refine ev_goto 152 dX12_isBrought_140 (by decide) ?_
                  refine ev_sub [1, 2, 3, 4, 0] rfl ?_
                  exact hj25 _ _ _ h
        · refine ev_icmp_ne 107 dX12_isBrought_88 (by decide) (fun c19 => ?_) (fun c19 => ?_)
          · replace h := am_ifn c19 h
            refine ev_sub [1, 2, 3, 4, 5, 0] rfl ?_
            exact hj21  _ _ h
          · replace h := am_ifp c19 h
            refine ev_iload 5 dX12_isBrought_91 rfl ?_
            refine ev_iload_n 4 dX12_isBrought_93 rfl ?_
            refine ev_iconst dX12_isBrought_94 rfl ?_
            refine ev_isub dX12_isBrought_95 ?_
            refine ev_icmp_ne 107 dX12_isBrought_96 (by decide) (fun c38 => ?_) (fun c38 => ?_)
            · replace h := am_ifn c38 h
              refine ev_sub [1, 2, 3, 4, 5, 0] rfl ?_
              exact hj21  _ _ h
            · replace h := am_ifp c38 h
              refine ev_aload_n 1 dX12_isBrought_99 rfl ?_
              refine ev_bipush dX12_isBrought_100 rfl ?_
              obtain ⟨u39, g40, e41, h⟩ := am_bd_elim h
              refine ev_callVv [.int (16 : Int32)] [] dX12_isBrought_102 (tX12_putBack e41) (by decide) mo_X12_putBack kM_X12_180 ki_X12_putBack kv_X12_putBack (fun h9 => (h9.2.1 0 _ rfl).2) (by decide) rfl (Nat.le_of_ble_eq_true rfl) ?_
              refine ev_iconst dX12_isBrought_105 rfl ?_
              cases h
              exact ev_zret dX12_isBrought_106 rfl rfl
      · replace h := am_ifp c14 h
        obtain ⟨x42, ex42, h⟩ := am_let_ex h
        refine ev_iinc (ls' := [(4, .int x42), (0, .ref 0), (1, .int a1), (2, .int a2), (3, .int a3)]) 4 dX12_isBrought_50 rfl ex42 (by decide) rfl ?_
        refine ev_iload 0 dX12_isBrought_53 rfl ?_
        refine ev_if_lt 16 dX12_isBrought_55 (by decide) (fun c43 => ?_) (fun c43 => ?_)
        · replace h := am_ifp c43 h
          refine ev_sub [1, 2, 3, 4, 0] rfl ?_
          exact ih _ _ _ h
        · replace h := am_ifn c43 h
          refine ev_aload_n 1 dX12_isBrought_58 rfl ?_
          refine ev_bipush dX12_isBrought_59 rfl ?_
          refine ev_iload 0 dX12_isBrought_61 rfl ?_
          refine ev_iadd dX12_isBrought_63 ?_
          obtain ⟨u44, g45, e46, h⟩ := am_bd_elim h
          refine ev_callVv [.int ((16 : Int32) + x42)] [] dX12_isBrought_64 (tX12_putBack e46) (by decide) mo_X12_putBack kM_X12_180 ki_X12_putBack kv_X12_putBack (fun h9 => (h9.2.1 0 _ rfl).2) (by decide) rfl (Nat.le_of_ble_eq_true rfl) ?_
          refine ev_goto 16 dX12_isBrought_67 (by decide) ?_
          refine ev_sub [1, 2, 3, 4, 0] rfl ?_
          exact ih _ _ _ h
set_option maxRecDepth 100000 in
set_option maxHeartbeats 4000000 in
theorem eX12_isBrought (a1 : Int32) (a2 : Int32) (a3 : Int32) (g : am_G) (r : Int32 × am_G) (h : fX12_isBrought a1 a2 a3 g = some r) : am_Ev zr MX12_isBrought 8 0 [(0, .ref 0), (1, .int a1), (2, .int a2), (3, .int a3)] [] g (am_ri r) := by
  unfold fX12_isBrought at h
  refine ev_iconst dX12_isBrought_0 rfl ?_
  refine ev_istore (ls' := [(4, .int (0 : Int32)), (0, .ref 0), (1, .int a1), (2, .int a2), (3, .int a3)]) dX12_isBrought_1 (by decide) rfl ?_
  refine ev_aload_n 1 dX12_isBrought_3 rfl ?_
  refine ev_bipush dX12_isBrought_4 rfl ?_
  obtain ⟨u1, g2, e3, h⟩ := am_bd_elim h
  refine ev_callVv [.int (16 : Int32)] [] dX12_isBrought_6 (tX12_keepAll e3) (by decide) mo_X12_keepAll kM_X12_172 ki_X12_keepAll kv_X12_keepAll (fun h9 => (h9.2.1 0 _ rfl).2) (by decide) rfl (Nat.le_of_ble_eq_true rfl) ?_
  refine ev_aload_n 1 dX12_isBrought_9 rfl ?_
  refine ev_gf (v := .ref 29) dX12_isBrought_10 (fun h9 => (h9.2.1 0 _ rfl).2) 51 (by decide) (by decide) kF_X12_138 (fun h9 => congrArg va_rf (h9.2.2 0 51 29 rfl)) ?_
  refine ev_iconst dX12_isBrought_13 rfl ?_
  refine ev_iconst dX12_isBrought_14 rfl ?_
  obtain ⟨c4, h⟩ := am_gd_elim h
  refine ev_iast dX12_isBrought_15 (fun h9 => (h9.2.1 29 _ rfl).2) (am_in_vp c4) ?_
  refine am_let_elim (P := fun g5 => am_Ev zr MX12_isBrought 8 16 [(4, .int (0 : Int32)), (0, .ref 0), (1, .int a1), (2, .int a2), (3, .int a3)] [] g5 (am_ri r)) h fun g5 h => ?_
  refine ev_sub [1, 2, 3, 4, 0] rfl ?_
  exact tfX12_isBrought_L16 a1 a2 a3 _ _ _ _ h
theorem tX12_isBrought {a1 : Int32} {a2 : Int32} {a3 : Int32} {g : am_G} {r : Int32 × am_G} (h : fX12_isBrought a1 a2 a3 g = some r) : am_Mt zr MX12_isBrought 8 [.ref 0, .int a1, .int a2, .int a3] g (am_ri r) := am_Mt.of rfl (Nat.le_of_ble_eq_true rfl) (eX12_isBrought _ _ _ _ _ h)
def fX12_bring_L38 (k : Int32 → am_G → Option (Int32 × am_G)) (a1 : Int32) (a2 : Int32) (a3 : Int32) : Nat → Int32 → am_G → Option (Int32 × am_G)
  | 0, _, _ => none
  | n + 1, x14, g15 =>
    if (4 : Int32) ≤ x14 then (
      some ((-1 : Int32), g15))
    else (
      am_bd (fX12_isBrought a1 a2 x14 g15) fun v19 g20 =>
      if v19 = 0 then (
        am_let (x14 + (1 : Int32)) fun x23 =>
        fX12_bring_L38 k a1 a2 a3 n x23 g20)
      else (
        k x14 g20))
def fX12_bring (a1 : Int32) (a2 : Int32) (a3 : Int32) (g : am_G) : Option (Int32 × am_G) :=
  am_let (am_si g 0 0 (0 : Int32)) fun g1 =>
  am_bd (fX12_isSlope a1 g1) fun v2 g3 =>
  if v2 = 0 then (
    some ((-1 : Int32), g3))
  else (
    am_bd (fX12_isPlace a2 g3) fun v6 g7 =>
    if v6 = 0 then (
      some ((-1 : Int32), g7))
    else (
      am_bd (fX12_in a3.toInt64 (-1 : Int64) (2 : Int64) g7) fun v10 g11 =>
      if v10 = 0 then (
        some ((-1 : Int32), g11))
      else (
        fX12_bring_L38 (fun (x24 : Int32) (g25 : am_G) =>
          if a3 = (-1 : Int32) then (
            some (x24, g25))
          else (
            if x24 ≤ a3 then (
              some ((-1 : Int32), g25))
            else (
              am_gd (am_in a3 3) <|
              some (am_I g25 29 a3.toNatClampNeg, g25)))) a1 a2 a3 am_fu (1 : Int32) g11)))
set_option maxRecDepth 100000 in
set_option maxHeartbeats 4000000 in
theorem tfX12_bring_L38  {k : Int32 → am_G → Option (Int32 × am_G)} (a1 : Int32) (a2 : Int32) (a3 : Int32) (hk : ∀ (x16 : Int32) (g17 : am_G) (r : Int32 × am_G), k x16 g17 = some r → am_Ev zr MX12_bring 9 55 [(0, .ref 0), (3, .int a3), (4, .int x16)] [] g17 (am_ri r)) : ∀ (n : Nat) (x14 : Int32) (g15 : am_G) (r : Int32 × am_G), fX12_bring_L38 k a1 a2 a3 n x14 g15 = some r → am_Ev zr MX12_bring 9 38 [(0, .ref 0), (1, .int a1), (2, .int a2), (3, .int a3), (4, .int x14)] [] g15 (am_ri r) := by
  intro n
  induction n with
  | zero => intro x14 g15 r h; exact nomatch (show (none : Option (Int32 × am_G)) = some r from h)
  | succ n ih =>
    intro x14 g15 r h
    rw [fX12_bring_L38] at h
    refine ev_iload 4 dX12_bring_38 rfl ?_
    refine ev_iconst dX12_bring_40 rfl ?_
    refine ev_icmp_ge 88 dX12_bring_41 (by decide) (fun c18 => ?_) (fun c18 => ?_)
    · replace h := am_ifp c18 h
      refine ev_iconst dX12_bring_88 rfl ?_
      cases h
      exact ev_iret dX12_bring_89 rfl
    · replace h := am_ifn c18 h
      refine ev_aload_n 0 dX12_bring_44 rfl ?_
      refine ev_iload_n 1 dX12_bring_45 rfl ?_
      refine ev_iload_n 2 dX12_bring_46 rfl ?_
      refine ev_iload 4 dX12_bring_47 rfl ?_
      obtain ⟨v19, g20, e21, h⟩ := am_bd_elim h
      refine ev_callVi (v := v19) [.int a1, .int a2, .int x14] [] dX12_bring_49 (tX12_isBrought e21) (by decide) mo_X12_isBrought kM_X12_490 ki_X12_isBrought kv_X12_isBrought (fun h9 => (h9.2.1 0 _ rfl).2) (by decide) rfl (Nat.le_of_ble_eq_true rfl) ?_
      refine ev_if_eq 82 dX12_bring_52 (by decide) (fun c22 => ?_) (fun c22 => ?_)
      · replace h := am_ifp c22 h
        obtain ⟨x23, ex23, h⟩ := am_let_ex h
        refine ev_iinc (ls' := [(4, .int x23), (0, .ref 0), (1, .int a1), (2, .int a2), (3, .int a3)]) 4 dX12_bring_82 rfl ex23 (by decide) rfl ?_
        refine ev_goto 38 dX12_bring_85 (by decide) ?_
        refine ev_sub [1, 2, 3, 4, 0] rfl ?_
        exact ih _ _ _ h
      · replace h := am_ifn c22 h
        refine ev_sub [0, 3, 4] rfl ?_
        exact hk _ _ _ h
set_option maxRecDepth 100000 in
set_option maxHeartbeats 4000000 in
theorem eX12_bring (a1 : Int32) (a2 : Int32) (a3 : Int32) (g : am_G) (r : Int32 × am_G) (h : fX12_bring a1 a2 a3 g = some r) : am_Ev zr MX12_bring 9 0 [(0, .ref 0), (1, .int a1), (2, .int a2), (3, .int a3)] [] g (am_ri r) := by
  unfold fX12_bring at h
  refine ev_aload_n 0 dX12_bring_0 rfl ?_
  refine ev_iconst dX12_bring_1 rfl ?_
  refine ev_pfi dX12_bring_2 (fun h9 => (h9.2.1 0 _ rfl).2) 0 (by decide) (by decide) kF_X12_163 rfl rfl rfl (fun _ => rfl) ?_
  refine am_let_elim (P := fun g1 => am_Ev zr MX12_bring 9 5 [(0, .ref 0), (1, .int a1), (2, .int a2), (3, .int a3)] [] g1 (am_ri r)) h fun g1 h => ?_
  refine ev_iload_n 1 dX12_bring_5 rfl ?_
  obtain ⟨v2, g3, e4, h⟩ := am_bd_elim h
  refine ev_callSi (v := v2) [.int a1] [] dX12_bring_6 (tX12_isSlope e4) (by decide) mo_X12_isSlope kM_X12_199 ks_X12_isSlope (Nat.le_of_ble_eq_true rfl) ?_
  refine ev_if_eq 33 dX12_bring_9 (by decide) (fun c5 => ?_) (fun c5 => ?_)
  · replace h := am_ifp c5 h
    refine ev_iconst dX12_bring_33 rfl ?_
    cases h
    exact ev_iret dX12_bring_34 rfl
  · replace h := am_ifn c5 h
    refine ev_iload_n 2 dX12_bring_12 rfl ?_
    obtain ⟨v6, g7, e8, h⟩ := am_bd_elim h
    refine ev_callSi (v := v6) [.int a2] [] dX12_bring_13 (tX12_isPlace e8) (by decide) mo_X12_isPlace kM_X12_428 ks_X12_isPlace (Nat.le_of_ble_eq_true rfl) ?_
    refine ev_if_eq 33 dX12_bring_16 (by decide) (fun c9 => ?_) (fun c9 => ?_)
    · replace h := am_ifp c9 h
      refine ev_iconst dX12_bring_33 rfl ?_
      cases h
      exact ev_iret dX12_bring_34 rfl
    · replace h := am_ifn c9 h
      refine ev_iload_n 3 dX12_bring_19 rfl ?_
      refine ev_i2l dX12_bring_20 ?_
      refine ev_ldc2 dX12_bring_21 kL_X12_266 ?_
      refine ev_ldc2 dX12_bring_24 kL_X12_488 ?_
      obtain ⟨v10, g11, e12, h⟩ := am_bd_elim h
      refine ev_callSi (v := v10) [.long a3.toInt64, .long (-1 : Int64), .long (2 : Int64)] [] dX12_bring_27 (tX12_in e12) (by decide) mo_X12_in kM_X12_183 ks_X12_in (Nat.le_of_ble_eq_true rfl) ?_
      refine ev_if_ne 35 dX12_bring_30 (by decide) (fun c13 => ?_) (fun c13 => ?_)
      · replace h := am_ifn c13 h
        refine ev_iconst dX12_bring_35 rfl ?_
        refine ev_istore (ls' := [(4, .int (1 : Int32)), (0, .ref 0), (1, .int a1), (2, .int a2), (3, .int a3)]) dX12_bring_36 (by decide) rfl ?_
        refine ev_sub [1, 2, 3, 4, 0] rfl ?_
        refine tfX12_bring_L38 a1 a2 a3 ?_ _ _ _ _ h
        intro x24 g25 r h
        try dsimp only at h
        refine ev_iload_n 1 dX12_bring_55 rfl ?_
        refine ev_iconst dX12_bring_56 rfl ?_
        refine ev_icmp_ne 65 dX12_bring_57 (by decide) (fun c26 => ?_) (fun c26 => ?_)
        · replace h := am_ifn c26 h
          refine ev_iload_n 1 dX12_bring_65 rfl ?_
          refine ev_iload 2 dX12_bring_66 rfl ?_
          refine ev_icmp_ge 80 dX12_bring_68 (by decide) (fun c27 => ?_) (fun c27 => ?_)
          · replace h := am_ifp c27 h
            refine ev_iconst dX12_bring_80 rfl ?_
            cases h
            exact ev_iret dX12_bring_81 rfl
          · replace h := am_ifn c27 h
            refine ev_aload_n 0 dX12_bring_71 rfl ?_
            refine ev_gf (v := .ref 29) dX12_bring_72 (fun h9 => (h9.2.1 0 _ rfl).2) 51 (by decide) (by decide) kF_X12_138 (fun h9 => congrArg va_rf (h9.2.2 0 51 29 rfl)) ?_
            refine ev_iload_n 1 dX12_bring_75 rfl ?_
            obtain ⟨c28, h⟩ := am_gd_elim h
            refine ev_iald dX12_bring_76 (fun h9 => (h9.2.1 29 _ rfl).2) (am_in_vp c28) ?_
            refine ev_goto 81 dX12_bring_77 (by decide) ?_
            cases h
            exact ev_iret dX12_bring_81 rfl
        · replace h := am_ifp c26 h
          refine ev_iload 2 dX12_bring_60 rfl ?_
          refine ev_goto 81 dX12_bring_62 (by decide) ?_
          cases h
          exact ev_iret dX12_bring_81 rfl
      · replace h := am_ifp c13 h
        refine ev_iconst dX12_bring_33 rfl ?_
        cases h
        exact ev_iret dX12_bring_34 rfl
theorem tX12_bring {a1 : Int32} {a2 : Int32} {a3 : Int32} {g : am_G} {r : Int32 × am_G} (h : fX12_bring a1 a2 a3 g = some r) : am_Mt zr MX12_bring 9 [.ref 0, .int a1, .int a2, .int a3] g (am_ri r) := am_Mt.of rfl (Nat.le_of_ble_eq_true rfl) (eX12_bring _ _ _ _ _ h)
def fX12_isWon (a1 : Int32) (a2 : Int32) (g : am_G) : Option (Int32 × am_G) :=
  am_gd (am_in a2 16) <|
  if (am_I g 31 a2.toNatClampNeg) ≤ 0 then (
    some ((0 : Int32), g))
  else (
    am_gd (am_in a2 16) <|
    if a1 < (am_I g 31 a2.toNatClampNeg) then (
      some ((0 : Int32), g))
    else (
      am_gd (am_in a2 16) <|
      am_gd (am_in (a1 - (am_I g 31 a2.toNatClampNeg)) 10000) <|
      if (am_I g 30 (a1 - (am_I g 31 a2.toNatClampNeg)).toNatClampNeg) = 0 then (
        some ((1 : Int32), g))
      else (
        some ((0 : Int32), g))))
set_option maxRecDepth 100000 in
set_option maxHeartbeats 4000000 in
theorem eX12_isWon (a1 : Int32) (a2 : Int32) (g : am_G) (r : Int32 × am_G) (h : fX12_isWon a1 a2 g = some r) : am_Ev zr MX12_isWon 0 0 [(0, .ref 0), (1, .int a1), (2, .int a2)] [] g (am_ri r) := by
  unfold fX12_isWon at h
  refine ev_aload_n 0 dX12_isWon_0 rfl ?_
  refine ev_gf (v := .ref 31) dX12_isWon_1 (fun h9 => (h9.2.1 0 _ rfl).2) 53 (by decide) (by decide) kF_X12_144 (fun h9 => congrArg va_rf (h9.2.2 0 53 31 rfl)) ?_
  refine ev_iload_n 2 dX12_isWon_4 rfl ?_
  obtain ⟨c1, h⟩ := am_gd_elim h
  refine ev_iald dX12_isWon_5 (fun h9 => (h9.2.1 31 _ rfl).2) (am_in_vp c1) ?_
  refine ev_if_le 39 dX12_isWon_6 (by decide) (fun c2 => ?_) (fun c2 => ?_)
  · replace h := am_ifp c2 h
    refine ev_iconst dX12_isWon_39 rfl ?_
    cases h
    exact ev_zret dX12_isWon_40 rfl rfl
  · replace h := am_ifn c2 h
    refine ev_aload_n 0 dX12_isWon_9 rfl ?_
    refine ev_gf (v := .ref 31) dX12_isWon_10 (fun h9 => (h9.2.1 0 _ rfl).2) 53 (by decide) (by decide) kF_X12_144 (fun h9 => congrArg va_rf (h9.2.2 0 53 31 rfl)) ?_
    refine ev_iload_n 2 dX12_isWon_13 rfl ?_
    obtain ⟨c3, h⟩ := am_gd_elim h
    refine ev_iald dX12_isWon_14 (fun h9 => (h9.2.1 31 _ rfl).2) (am_in_vp c3) ?_
    refine ev_iload_n 1 dX12_isWon_15 rfl ?_
    refine ev_icmp_gt 39 dX12_isWon_16 (by decide) (fun c4 => ?_) (fun c4 => ?_)
    · replace h := am_ifp c4 h
      refine ev_iconst dX12_isWon_39 rfl ?_
      cases h
      exact ev_zret dX12_isWon_40 rfl rfl
    · replace h := am_ifn c4 h
      refine ev_aload_n 0 dX12_isWon_19 rfl ?_
      refine ev_gf (v := .ref 30) dX12_isWon_20 (fun h9 => (h9.2.1 0 _ rfl).2) 52 (by decide) (by decide) kF_X12_141 (fun h9 => congrArg va_rf (h9.2.2 0 52 30 rfl)) ?_
      refine ev_iload_n 1 dX12_isWon_23 rfl ?_
      refine ev_aload_n 0 dX12_isWon_24 rfl ?_
      refine ev_gf (v := .ref 31) dX12_isWon_25 (fun h9 => (h9.2.1 0 _ rfl).2) 53 (by decide) (by decide) kF_X12_144 (fun h9 => congrArg va_rf (h9.2.2 0 53 31 rfl)) ?_
      refine ev_iload_n 2 dX12_isWon_28 rfl ?_
      obtain ⟨c5, h⟩ := am_gd_elim h
      refine ev_iald dX12_isWon_29 (fun h9 => (h9.2.1 31 _ rfl).2) (am_in_vp c5) ?_
      refine ev_isub dX12_isWon_30 ?_
      obtain ⟨c6, h⟩ := am_gd_elim h
      refine ev_zald dX12_isWon_31 (fun h9 => (h9.2.1 30 _ rfl).2) (am_in_vp c6) ?_
      refine ev_if_ne 39 dX12_isWon_32 (by decide) (fun c7 => ?_) (fun c7 => ?_)
      · replace h := am_ifn c7 h
        refine ev_iconst dX12_isWon_39 rfl ?_
        cases h
        exact ev_zret dX12_isWon_40 rfl rfl
      · replace h := am_ifp c7 h
        refine ev_iconst dX12_isWon_35 rfl ?_
        refine ev_goto 40 dX12_isWon_36 (by decide) ?_
        cases h
        exact ev_zret dX12_isWon_40 rfl rfl
theorem tX12_isWon {a1 : Int32} {a2 : Int32} {g : am_G} {r : Int32 × am_G} (h : fX12_isWon a1 a2 g = some r) : am_Mt zr MX12_isWon 0 [.ref 0, .int a1, .int a2] g (am_ri r) := am_Mt.of rfl (Nat.le_of_ble_eq_true rfl) (eX12_isWon _ _ _ _ h)
def fX12_threat_L75 (k : am_G → Option (Int32 × am_G)) (a1 : Int32) (a2 : Int32) (a3 : Int32) (x23 : Int32) : Nat → Int32 → am_G → Option (Int32 × am_G)
  | 0, _, _ => none
  | n + 1, x29, g30 =>
    am_gd (am_in (0 : Int32) 5660) <|
    if (am_I g30 2 (0 : Int32).toNatClampNeg) ≤ x29 then (
      k g30)
    else (
      am_bd (fX12_isBarred x29 a2 (1 : Int32) g30) fun v34 g35 =>
      am_jn (fun (x38 : Int32) (g39 : am_G) =>
        am_gd (am_in x29 16) <|
        am_let (am_si g39 31 x29.toNatClampNeg x38) fun g42 =>
        am_let (x29 + (1 : Int32)) fun x43 =>
        fX12_threat_L75 k a1 a2 a3 x23 n x43 g42) fun j40 =>
      if v34 = 0 then (
        am_bd (fX12_shakesOf x29 a2 (1 : Int32) a1 g35) fun v44 g45 =>
        j40 v44 g45)
      else (
        j40 (0 : Int32) g35))
def fX12_threat_L139 (k : Int32 → am_G → Option (Int32 × am_G)) (a3 : Int32) (x23 : Int32) (x48 : Int32) : Nat → Int32 → Int32 → am_G → Option (Int32 × am_G)
  | 0, _, _, _ => none
  | n + 1, x52, x53, g54 =>
    am_gd (am_in (0 : Int32) 5660) <|
    if (am_I g54 2 (0 : Int32).toNatClampNeg) ≤ x53 then (
      k x52 g54)
    else (
      if x52 = 0 then (
        am_bd (fX12_isWon x48 x53 g54) fun v60 g61 =>
        am_let (x53 + (1 : Int32)) fun x63 =>
        fX12_threat_L139 k a3 x23 x48 n v60 x63 g61)
      else (
        k x52 g54))
def fX12_threat_L126 (k : am_G → Option (Int32 × am_G)) (a3 : Int32) (x23 : Int32) : Nat → Int32 → am_G → Option (Int32 × am_G)
  | 0, _, _ => none
  | n + 1, x48, g49 =>
    if x23 < x48 then (
      k g49)
    else (
      fX12_threat_L139 (fun (x64 : Int32) (g65 : am_G) =>
        am_gd (am_in x48 10000) <|
        am_gd (am_zb x64) <|
        am_let (am_si g65 30 x48.toNatClampNeg x64) fun g68 =>
        am_let (x48 + (1 : Int32)) fun x69 =>
        fX12_threat_L126 k a3 x23 n x69 g68) a3 x23 x48 am_fu (0 : Int32) (0 : Int32) g49)
def fX12_threat_L222 (k : Int32 → Int32 → am_G → Option (Int32 × am_G)) (a3 : Int32) (x23 : Int32) : Nat → Int32 → Int32 → Int32 → am_G → Option (Int32 × am_G)
  | 0, _, _, _, _ => none
  | n + 1, x74, x75, x76, g77 =>
    if x76 < 0 then (
      k x74 x75 g77)
    else (
      am_bd (fX12_isWon x23 x76 g77) fun v82 g83 =>
      am_jn (fun (x86 : Int32) (x87 : Int32) (g88 : am_G) =>
        am_let (x76 + (-1 : Int32)) fun x90 =>
        fX12_threat_L222 k a3 x23 n x86 x87 x90 g88) fun j89 =>
      if v82 = 0 then (
        j89 x74 x75 g83)
      else (
        am_let (x74 + (1 : Int32)) fun x91 =>
        j89 x91 x76 g83))
def fX12_threat (a1 : Int32) (a2 : Int32) (a3 : Int32) (g : am_G) : Option (Int32 × am_G) :=
  am_let (am_si g 0 0 (0 : Int32)) fun g1 =>
  am_bd (fX12_isSlope a1 g1) fun v2 g3 =>
  if v2 = 0 then (
    some ((-1 : Int32), g3))
  else (
    am_bd (fX12_isPlace a2 g3) fun v6 g7 =>
    if v6 = 0 then (
      some ((-1 : Int32), g7))
    else (
      am_bd (fX12_in a3.toInt64 (0 : Int64) (2 : Int64) g7) fun v10 g11 =>
      if v10 = 0 then (
        some ((-1 : Int32), g11))
      else (
        am_bd (fX12_ofSlope a1 (1 : Int32) g11) fun v14 g15 =>
        am_bd (fX12_ofSlope a1 (0 : Int32) g15) fun v17 g18 =>
        am_bd (fX12_ofSlope a1 (8 : Int32) g18) fun v20 g21 =>
        am_let ((v14 - v17) - v20) fun x23 =>
        am_bd (fX12_ofSlope a1 (0 : Int32) g21) fun v24 g25 =>
        if v24 = 0 then (
          some ((-1 : Int32), g25))
        else (
          if 0 ≤ x23 then (
            fX12_threat_L75 (fun  (g47 : am_G) =>
              fX12_threat_L126 (fun  (g70 : am_G) =>
                if a3 = 0 then (
                  am_gd (am_in x23 10000) <|
                  if (am_I g70 30 x23.toNatClampNeg) = 0 then (
                    some ((0 : Int32), g70))
                  else (
                    some ((1 : Int32), g70)))
                else (
                  am_gd (am_in (0 : Int32) 5660) <|
                  am_let ((am_I g70 2 (0 : Int32).toNatClampNeg) - (1 : Int32)) fun x73 =>
                  fX12_threat_L222 (fun (x92 : Int32) (x93 : Int32) (g94 : am_G) =>
                    if a3 = (1 : Int32) then (
                      some (x92, g94))
                    else (
                      some (x93, g94))) a3 x23 am_fu (0 : Int32) (-1 : Int32) x73 g70)) a3 x23 am_fu (0 : Int32) g47) a1 a2 a3 x23 am_fu (0 : Int32) g25)
          else (
            some ((-1 : Int32), g25))))))
set_option maxRecDepth 100000 in
set_option maxHeartbeats 4000000 in
theorem tfX12_threat_L75  {k : am_G → Option (Int32 × am_G)} (a1 : Int32) (a2 : Int32) (a3 : Int32) (x23 : Int32) (hk : ∀  (g31 : am_G) (r : Int32 × am_G), k  g31 = some r → am_Ev zr MX12_threat 6 123 [(0, .ref 0), (3, .int a3), (4, .int x23)] [] g31 (am_ri r)) : ∀ (n : Nat) (x29 : Int32) (g30 : am_G) (r : Int32 × am_G), fX12_threat_L75 k a1 a2 a3 x23 n x29 g30 = some r → am_Ev zr MX12_threat 6 75 [(0, .ref 0), (1, .int a1), (2, .int a2), (3, .int a3), (4, .int x23), (5, .int x29)] [] g30 (am_ri r) := by
  intro n
  induction n with
  | zero => intro x29 g30 r h; exact nomatch (show (none : Option (Int32 × am_G)) = some r from h)
  | succ n ih =>
    intro x29 g30 r h
    rw [fX12_threat_L75] at h
    refine ev_iload 5 dX12_threat_75 rfl ?_
    refine ev_aload_n 0 dX12_threat_77 rfl ?_
    refine ev_gf (v := .ref 2) dX12_threat_78 (fun h9 => (h9.2.1 0 _ rfl).2) 3 (by decide) (by decide) kF_X12_13 (fun h9 => congrArg va_rf (h9.2.2 0 3 2 rfl)) ?_
    refine ev_iconst dX12_threat_81 rfl ?_
    obtain ⟨c32, h⟩ := am_gd_elim h
    refine ev_iald dX12_threat_82 (fun h9 => (h9.2.1 2 _ rfl).2) (am_in_vp c32) ?_
    refine ev_icmp_ge 123 dX12_threat_83 (by decide) (fun c33 => ?_) (fun c33 => ?_)
    · replace h := am_ifp c33 h
      refine ev_sub [0, 3, 4] rfl ?_
      exact hk  _ _ h
    · replace h := am_ifn c33 h
      refine ev_aload_n 0 dX12_threat_86 rfl ?_
      refine ev_gf (v := .ref 31) dX12_threat_87 (fun h9 => (h9.2.1 0 _ rfl).2) 53 (by decide) (by decide) kF_X12_144 (fun h9 => congrArg va_rf (h9.2.2 0 53 31 rfl)) ?_
      refine ev_iload 5 dX12_threat_90 rfl ?_
      refine ev_aload_n 0 dX12_threat_92 rfl ?_
      refine ev_iload 5 dX12_threat_93 rfl ?_
      refine ev_iload_n 2 dX12_threat_95 rfl ?_
      refine ev_iconst dX12_threat_96 rfl ?_
      obtain ⟨v34, g35, e36, h⟩ := am_bd_elim h
      refine ev_callVi (v := v34) [.int x29, .int a2, .int (1 : Int32)] [.int x29, .ref 31] dX12_threat_97 (tX12_isBarred e36) (by decide) mo_X12_isBarred kM_X12_438 ki_X12_isBarred kv_X12_isBarred (fun h9 => (h9.2.1 0 _ rfl).2) (by decide) rfl (Nat.le_of_ble_eq_true rfl) ?_
      refine am_jn_elim (fun q9 => ∀ (x38 : Int32) (g39 : am_G) (r : Int32 × am_G), q9 x38 g39 = some r → am_Ev zr MX12_threat 6 116 [(0, .ref 0), (1, .int a1), (2, .int a2), (3, .int a3), (4, .int x23), (5, .int x29)] [.int x38, .int x29, .ref 31] g39 (am_ri r)) h ?_ (fun j40 hj40 h => ?_)
      · intro x38 g39 r h
        try dsimp only at h
        obtain ⟨c41, h⟩ := am_gd_elim h
        refine ev_iast dX12_threat_116 (fun h9 => (h9.2.1 31 _ rfl).2) (am_in_vp c41) ?_
        refine am_let_elim (P := fun g42 => am_Ev zr MX12_threat 6 117 [(0, .ref 0), (1, .int a1), (2, .int a2), (3, .int a3), (4, .int x23), (5, .int x29)] [] g42 (am_ri r)) h fun g42 h => ?_
        obtain ⟨x43, ex43, h⟩ := am_let_ex h
        refine ev_iinc (ls' := [(5, .int x43), (0, .ref 0), (1, .int a1), (2, .int a2), (3, .int a3), (4, .int x23)]) 5 dX12_threat_117 rfl ex43 (by decide) rfl ?_
        refine ev_goto 75 dX12_threat_120 (by decide) ?_
        refine ev_sub [1, 2, 3, 4, 5, 0] rfl ?_
        exact ih _ _ _ h
      · refine ev_if_eq 107 dX12_threat_100 (by decide) (fun c37 => ?_) (fun c37 => ?_)
        · replace h := am_ifp c37 h
          refine ev_aload_n 0 dX12_threat_107 rfl ?_
          refine ev_iload 5 dX12_threat_108 rfl ?_
          refine ev_iload_n 2 dX12_threat_110 rfl ?_
          refine ev_iconst dX12_threat_111 rfl ?_
          refine ev_iload_n 1 dX12_threat_112 rfl ?_
          obtain ⟨v44, g45, e46, h⟩ := am_bd_elim h
          refine ev_callVi (v := v44) [.int x29, .int a2, .int (1 : Int32), .int a1] [.int x29, .ref 31] dX12_threat_113 (tX12_shakesOf e46) (by decide) mo_X12_shakesOf kM_X12_434 ki_X12_shakesOf kv_X12_shakesOf (fun h9 => (h9.2.1 0 _ rfl).2) (by decide) rfl (Nat.le_of_ble_eq_true rfl) ?_
          refine ev_sub [0, 1, 2, 3, 4, 5] rfl ?_
          exact hj40 _ _ _ h
        · replace h := am_ifn c37 h
          refine ev_iconst dX12_threat_103 rfl ?_
          refine ev_goto 116 dX12_threat_104 (by decide) ?_
          refine ev_sub [0, 1, 2, 3, 4, 5] rfl ?_
          exact hj40 _ _ _ h
set_option maxRecDepth 100000 in
set_option maxHeartbeats 4000000 in
theorem tfX12_threat_L139  {k : Int32 → am_G → Option (Int32 × am_G)} (a3 : Int32) (x23 : Int32) (x48 : Int32) (hk : ∀ (x55 : Int32) (g56 : am_G) (r : Int32 × am_G), k x55 g56 = some r → am_Ev zr MX12_threat 6 171 [(0, .ref 0), (3, .int a3), (4, .int x23), (5, .int x48), (6, .int x55)] [] g56 (am_ri r)) : ∀ (n : Nat) (x52 : Int32) (x53 : Int32) (g54 : am_G) (r : Int32 × am_G), fX12_threat_L139 k a3 x23 x48 n x52 x53 g54 = some r → am_Ev zr MX12_threat 6 139 [(0, .ref 0), (3, .int a3), (4, .int x23), (5, .int x48), (6, .int x52), (7, .int x53)] [] g54 (am_ri r) := by
  intro n
  induction n with
  | zero => intro x52 x53 g54 r h; exact nomatch (show (none : Option (Int32 × am_G)) = some r from h)
  | succ n ih =>
    intro x52 x53 g54 r h
    rw [fX12_threat_L139] at h
    refine ev_iload 5 dX12_threat_139 rfl ?_
    refine ev_aload_n 0 dX12_threat_141 rfl ?_
    refine ev_gf (v := .ref 2) dX12_threat_142 (fun h9 => (h9.2.1 0 _ rfl).2) 3 (by decide) (by decide) kF_X12_13 (fun h9 => congrArg va_rf (h9.2.2 0 3 2 rfl)) ?_
    refine ev_iconst dX12_threat_145 rfl ?_
    obtain ⟨c57, h⟩ := am_gd_elim h
    refine ev_iald dX12_threat_146 (fun h9 => (h9.2.1 2 _ rfl).2) (am_in_vp c57) ?_
    refine ev_icmp_ge 171 dX12_threat_147 (by decide) (fun c58 => ?_) (fun c58 => ?_)
    · replace h := am_ifp c58 h
      refine ev_sub [0, 1, 2, 3, 4] rfl ?_
      exact hk _ _ _ h
    · replace h := am_ifn c58 h
      refine ev_iload 4 dX12_threat_150 rfl ?_
      refine ev_if_ne 171 dX12_threat_152 (by decide) (fun c59 => ?_) (fun c59 => ?_)
      · replace h := am_ifn c59 h
        refine ev_sub [0, 1, 2, 3, 4] rfl ?_
        exact hk _ _ _ h
      · replace h := am_ifp c59 h
        refine ev_aload_n 0 dX12_threat_155 rfl ?_
        refine ev_iload 3 dX12_threat_156 rfl ?_
        refine ev_iload 5 dX12_threat_158 rfl ?_
        obtain ⟨v60, g61, e62, h⟩ := am_bd_elim h
        refine ev_callVi (v := v60) [.int x48, .int x53] [] dX12_threat_160 (tX12_isWon e62) (by decide) mo_X12_isWon kM_X12_493 ki_X12_isWon kv_X12_isWon (fun h9 => (h9.2.1 0 _ rfl).2) (by decide) rfl (Nat.le_of_ble_eq_true rfl) ?_
        refine ev_istore (ls' := [(6, .int v60), (0, .ref 0), (3, .int a3), (4, .int x23), (5, .int x48), (7, .int x53)]) dX12_threat_163 (by decide) rfl ?_
        obtain ⟨x63, ex63, h⟩ := am_let_ex h
        refine ev_iinc (ls' := [(7, .int x63), (6, .int v60), (0, .ref 0), (3, .int a3), (4, .int x23), (5, .int x48)]) 5 dX12_threat_165 rfl ex63 (by decide) rfl ?_
        refine ev_goto 139 dX12_threat_168 (by decide) ?_
        refine ev_sub [2, 3, 4, 5, 1, 0] rfl ?_
        exact ih _ _ _ _ h
set_option maxRecDepth 100000 in
set_option maxHeartbeats 4000000 in
theorem tfX12_threat_L126  {k : am_G → Option (Int32 × am_G)} (a3 : Int32) (x23 : Int32) (hk : ∀  (g50 : am_G) (r : Int32 × am_G), k  g50 = some r → am_Ev zr MX12_threat 6 186 [(0, .ref 0), (3, .int a3), (4, .int x23)] [] g50 (am_ri r)) : ∀ (n : Nat) (x48 : Int32) (g49 : am_G) (r : Int32 × am_G), fX12_threat_L126 k a3 x23 n x48 g49 = some r → am_Ev zr MX12_threat 6 126 [(0, .ref 0), (3, .int a3), (4, .int x23), (5, .int x48)] [] g49 (am_ri r) := by
  intro n
  induction n with
  | zero => intro x48 g49 r h; exact nomatch (show (none : Option (Int32 × am_G)) = some r from h)
  | succ n ih =>
    intro x48 g49 r h
    rw [fX12_threat_L126] at h
    refine ev_iload 3 dX12_threat_126 rfl ?_
    refine ev_iload 2 dX12_threat_128 rfl ?_
    refine ev_icmp_gt 186 dX12_threat_130 (by decide) (fun c51 => ?_) (fun c51 => ?_)
    · replace h := am_ifp c51 h
      refine ev_sub [0, 1, 2] rfl ?_
      exact hk  _ _ h
    · replace h := am_ifn c51 h
      refine ev_iconst dX12_threat_133 rfl ?_
      refine ev_istore (ls' := [(6, .int (0 : Int32)), (0, .ref 0), (3, .int a3), (4, .int x23), (5, .int x48)]) dX12_threat_134 (by decide) rfl ?_
      refine ev_iconst dX12_threat_136 rfl ?_
      refine ev_istore (ls' := [(7, .int (0 : Int32)), (6, .int (0 : Int32)), (0, .ref 0), (3, .int a3), (4, .int x23), (5, .int x48)]) dX12_threat_137 (by decide) rfl ?_
      refine ev_sub [2, 3, 4, 5, 1, 0] rfl ?_
      refine tfX12_threat_L139 a3 x23 x48 ?_ _ _ _ _ _ h
      intro x64 g65 r h
      try dsimp only at h
      refine ev_aload_n 0 dX12_threat_171 rfl ?_
      refine ev_gf (v := .ref 30) dX12_threat_172 (fun h9 => (h9.2.1 0 _ rfl).2) 52 (by decide) (by decide) kF_X12_141 (fun h9 => congrArg va_rf (h9.2.2 0 52 30 rfl)) ?_
      refine ev_iload 3 dX12_threat_175 rfl ?_
      refine ev_iload 4 dX12_threat_177 rfl ?_
      obtain ⟨c66, h⟩ := am_gd_elim h
      obtain ⟨c67, h⟩ := am_gd_elim h
      refine ev_zast' dX12_threat_179 (fun h9 => (h9.2.1 30 _ rfl).2) c67 (am_in_vp c66) ?_
      refine am_let_elim (P := fun g68 => am_Ev zr MX12_threat 6 180 [(0, .ref 0), (3, .int a3), (4, .int x23), (5, .int x48), (6, .int x64)] [] g68 (am_ri r)) h fun g68 h => ?_
      obtain ⟨x69, ex69, h⟩ := am_let_ex h
      refine ev_iinc (ls' := [(5, .int x69), (0, .ref 0), (3, .int a3), (4, .int x23), (6, .int x64)]) 3 dX12_threat_180 rfl ex69 (by decide) rfl ?_
      refine ev_goto 126 dX12_threat_183 (by decide) ?_
      refine ev_sub [1, 2, 3, 0] rfl ?_
      exact ih _ _ _ h
set_option maxRecDepth 100000 in
set_option maxHeartbeats 4000000 in
theorem tfX12_threat_L222  {k : Int32 → Int32 → am_G → Option (Int32 × am_G)} (a3 : Int32) (x23 : Int32) (hk : ∀ (x78 : Int32) (x79 : Int32) (g80 : am_G) (r : Int32 × am_G), k x78 x79 g80 = some r → am_Ev zr MX12_threat 6 251 [(3, .int a3), (5, .int x78), (6, .int x79)] [] g80 (am_ri r)) : ∀ (n : Nat) (x74 : Int32) (x75 : Int32) (x76 : Int32) (g77 : am_G) (r : Int32 × am_G), fX12_threat_L222 k a3 x23 n x74 x75 x76 g77 = some r → am_Ev zr MX12_threat 6 222 [(0, .ref 0), (3, .int a3), (4, .int x23), (5, .int x74), (6, .int x75), (7, .int x76)] [] g77 (am_ri r) := by
  intro n
  induction n with
  | zero => intro x74 x75 x76 g77 r h; exact nomatch (show (none : Option (Int32 × am_G)) = some r from h)
  | succ n ih =>
    intro x74 x75 x76 g77 r h
    rw [fX12_threat_L222] at h
    refine ev_iload 5 dX12_threat_222 rfl ?_
    refine ev_if_lt 251 dX12_threat_224 (by decide) (fun c81 => ?_) (fun c81 => ?_)
    · replace h := am_ifp c81 h
      refine ev_sub [1, 3, 4] rfl ?_
      exact hk _ _ _ _ h
    · replace h := am_ifn c81 h
      refine ev_aload_n 0 dX12_threat_227 rfl ?_
      refine ev_iload 2 dX12_threat_228 rfl ?_
      refine ev_iload 5 dX12_threat_230 rfl ?_
      obtain ⟨v82, g83, e84, h⟩ := am_bd_elim h
      refine ev_callVi (v := v82) [.int x23, .int x76] [] dX12_threat_232 (tX12_isWon e84) (by decide) mo_X12_isWon kM_X12_493 ki_X12_isWon kv_X12_isWon (fun h9 => (h9.2.1 0 _ rfl).2) (by decide) rfl (Nat.le_of_ble_eq_true rfl) ?_
      refine am_jn_elim (fun q9 => ∀ (x86 : Int32) (x87 : Int32) (g88 : am_G) (r : Int32 × am_G), q9 x86 x87 g88 = some r → am_Ev zr MX12_threat 6 245 [(0, .ref 0), (3, .int a3), (4, .int x23), (5, .int x86), (6, .int x87), (7, .int x76)] [] g88 (am_ri r)) h ?_ (fun j89 hj89 h => ?_)
      · intro x86 x87 g88 r h
        try dsimp only at h
        obtain ⟨x90, ex90, h⟩ := am_let_ex h
        refine ev_iinc (ls' := [(7, .int x90), (0, .ref 0), (3, .int a3), (4, .int x23), (5, .int x86), (6, .int x87)]) 5 dX12_threat_245 rfl ex90 (by decide) rfl ?_
        refine ev_goto 222 dX12_threat_248 (by decide) ?_
        refine ev_sub [1, 2, 3, 4, 5, 0] rfl ?_
        exact ih _ _ _ _ _ h
      · refine ev_if_eq 245 dX12_threat_235 (by decide) (fun c85 => ?_) (fun c85 => ?_)
        · replace h := am_ifp c85 h
          refine ev_sub [0, 1, 2, 3, 4, 5] rfl ?_
          exact hj89 _ _ _ _ h
        · replace h := am_ifn c85 h
          obtain ⟨x91, ex91, h⟩ := am_let_ex h
          refine ev_iinc (ls' := [(5, .int x91), (0, .ref 0), (3, .int a3), (4, .int x23), (6, .int x75), (7, .int x76)]) 3 dX12_threat_238 rfl ex91 (by decide) rfl ?_
          refine ev_iload 5 dX12_threat_241 rfl ?_
          refine ev_istore (ls' := [(6, .int x76), (5, .int x91), (0, .ref 0), (3, .int a3), (4, .int x23), (7, .int x76)]) dX12_threat_243 (by decide) rfl ?_
          refine ev_sub [2, 3, 4, 1, 0, 5] rfl ?_
          exact hj89 _ _ _ _ h
set_option maxRecDepth 100000 in
set_option maxHeartbeats 4000000 in
theorem eX12_threat (a1 : Int32) (a2 : Int32) (a3 : Int32) (g : am_G) (r : Int32 × am_G) (h : fX12_threat a1 a2 a3 g = some r) : am_Ev zr MX12_threat 6 0 [(0, .ref 0), (1, .int a1), (2, .int a2), (3, .int a3)] [] g (am_ri r) := by
  unfold fX12_threat at h
  refine ev_aload_n 0 dX12_threat_0 rfl ?_
  refine ev_iconst dX12_threat_1 rfl ?_
  refine ev_pfi dX12_threat_2 (fun h9 => (h9.2.1 0 _ rfl).2) 0 (by decide) (by decide) kF_X12_163 rfl rfl rfl (fun _ => rfl) ?_
  refine am_let_elim (P := fun g1 => am_Ev zr MX12_threat 6 5 [(0, .ref 0), (1, .int a1), (2, .int a2), (3, .int a3)] [] g1 (am_ri r)) h fun g1 h => ?_
  refine ev_iload_n 1 dX12_threat_5 rfl ?_
  obtain ⟨v2, g3, e4, h⟩ := am_bd_elim h
  refine ev_callSi (v := v2) [.int a1] [] dX12_threat_6 (tX12_isSlope e4) (by decide) mo_X12_isSlope kM_X12_199 ks_X12_isSlope (Nat.le_of_ble_eq_true rfl) ?_
  refine ev_if_eq 31 dX12_threat_9 (by decide) (fun c5 => ?_) (fun c5 => ?_)
  · replace h := am_ifp c5 h
    refine ev_iconst dX12_threat_31 rfl ?_
    cases h
    exact ev_iret dX12_threat_32 rfl
  · replace h := am_ifn c5 h
    refine ev_iload_n 2 dX12_threat_12 rfl ?_
    obtain ⟨v6, g7, e8, h⟩ := am_bd_elim h
    refine ev_callSi (v := v6) [.int a2] [] dX12_threat_13 (tX12_isPlace e8) (by decide) mo_X12_isPlace kM_X12_428 ks_X12_isPlace (Nat.le_of_ble_eq_true rfl) ?_
    refine ev_if_eq 31 dX12_threat_16 (by decide) (fun c9 => ?_) (fun c9 => ?_)
    · replace h := am_ifp c9 h
      refine ev_iconst dX12_threat_31 rfl ?_
      cases h
      exact ev_iret dX12_threat_32 rfl
    · replace h := am_ifn c9 h
      refine ev_iload_n 3 dX12_threat_19 rfl ?_
      refine ev_i2l dX12_threat_20 ?_
      refine ev_lconst dX12_threat_21 rfl ?_
      refine ev_ldc2 dX12_threat_22 kL_X12_488 ?_
      obtain ⟨v10, g11, e12, h⟩ := am_bd_elim h
      refine ev_callSi (v := v10) [.long a3.toInt64, .long (0 : Int64), .long (2 : Int64)] [] dX12_threat_25 (tX12_in e12) (by decide) mo_X12_in kM_X12_183 ks_X12_in (Nat.le_of_ble_eq_true rfl) ?_
      refine ev_if_ne 33 dX12_threat_28 (by decide) (fun c13 => ?_) (fun c13 => ?_)
      · replace h := am_ifn c13 h
        refine ev_aload_n 0 dX12_threat_33 rfl ?_
        refine ev_iload_n 1 dX12_threat_34 rfl ?_
        refine ev_iconst dX12_threat_35 rfl ?_
        obtain ⟨v14, g15, e16, h⟩ := am_bd_elim h
        refine ev_callVi (v := v14) [.int a1, .int (1 : Int32)] [] dX12_threat_36 (tX12_ofSlope e16) (by decide) mo_X12_ofSlope kM_X12_210 ki_X12_ofSlope kv_X12_ofSlope (fun h9 => (h9.2.1 0 _ rfl).2) (by decide) rfl (Nat.le_of_ble_eq_true rfl) ?_
        refine ev_aload_n 0 dX12_threat_39 rfl ?_
        refine ev_iload_n 1 dX12_threat_40 rfl ?_
        refine ev_iconst dX12_threat_41 rfl ?_
        obtain ⟨v17, g18, e19, h⟩ := am_bd_elim h
        refine ev_callVi (v := v17) [.int a1, .int (0 : Int32)] [.int v14] dX12_threat_42 (tX12_ofSlope e19) (by decide) mo_X12_ofSlope kM_X12_210 ki_X12_ofSlope kv_X12_ofSlope (fun h9 => (h9.2.1 0 _ rfl).2) (by decide) rfl (Nat.le_of_ble_eq_true rfl) ?_
        refine ev_isub dX12_threat_45 ?_
        refine ev_aload_n 0 dX12_threat_46 rfl ?_
        refine ev_iload_n 1 dX12_threat_47 rfl ?_
        refine ev_bipush dX12_threat_48 rfl ?_
        obtain ⟨v20, g21, e22, h⟩ := am_bd_elim h
        refine ev_callVi (v := v20) [.int a1, .int (8 : Int32)] [.int (v14 - v17)] dX12_threat_50 (tX12_ofSlope e22) (by decide) mo_X12_ofSlope kM_X12_210 ki_X12_ofSlope kv_X12_ofSlope (fun h9 => (h9.2.1 0 _ rfl).2) (by decide) rfl (Nat.le_of_ble_eq_true rfl) ?_
        refine ev_isub dX12_threat_53 ?_
        refine am_let_elim (P := fun x23 => am_Ev zr MX12_threat 6 54 [(0, .ref 0), (1, .int a1), (2, .int a2), (3, .int a3)] [.int x23] g21 (am_ri r)) h fun x23 h => ?_
        refine ev_istore (ls' := [(4, .int x23), (0, .ref 0), (1, .int a1), (2, .int a2), (3, .int a3)]) dX12_threat_54 (by decide) rfl ?_
        refine ev_aload_n 1 dX12_threat_56 rfl ?_
        refine ev_iload_n 2 dX12_threat_57 rfl ?_
        refine ev_iconst dX12_threat_58 rfl ?_
        obtain ⟨v24, g25, e26, h⟩ := am_bd_elim h
        refine ev_callVi (v := v24) [.int a1, .int (0 : Int32)] [] dX12_threat_59 (tX12_ofSlope e26) (by decide) mo_X12_ofSlope kM_X12_210 ki_X12_ofSlope kv_X12_ofSlope (fun h9 => (h9.2.1 0 _ rfl).2) (by decide) rfl (Nat.le_of_ble_eq_true rfl) ?_
        refine ev_if_eq 70 dX12_threat_62 (by decide) (fun c27 => ?_) (fun c27 => ?_)
        · replace h := am_ifp c27 h
          refine ev_iconst dX12_threat_70 rfl ?_
          cases h
          exact ev_iret dX12_threat_71 rfl
        · replace h := am_ifn c27 h
          refine ev_iload 0 dX12_threat_65 rfl ?_
          refine ev_if_ge 72 dX12_threat_67 (by decide) (fun c28 => ?_) (fun c28 => ?_)
          · replace h := am_ifp c28 h
            refine ev_iconst dX12_threat_72 rfl ?_
            refine ev_istore (ls' := [(5, .int (0 : Int32)), (4, .int x23), (0, .ref 0), (1, .int a1), (2, .int a2), (3, .int a3)]) dX12_threat_73 (by decide) rfl ?_
            refine ev_sub [2, 3, 4, 5, 1, 0] rfl ?_
            refine tfX12_threat_L75 a1 a2 a3 x23 ?_ _ _ _ _ h
            intro  g47 r h
            try dsimp only at h
            refine ev_iconst dX12_threat_123 rfl ?_
            refine ev_istore (ls' := [(5, .int (0 : Int32)), (0, .ref 0), (3, .int a3), (4, .int x23)]) dX12_threat_124 (by decide) rfl ?_
            refine ev_sub [1, 2, 3, 0] rfl ?_
            refine tfX12_threat_L126 a3 x23 ?_ _ _ _ _ h
            intro  g70 r h
            try dsimp only at h
            refine ev_iload_n 1 dX12_threat_186 rfl ?_
            refine ev_if_ne 206 dX12_threat_187 (by decide) (fun c71 => ?_) (fun c71 => ?_)
            · replace h := am_ifn c71 h
              refine ev_iconst dX12_threat_206 rfl ?_
              refine ev_istore (ls' := [(5, .int (0 : Int32)), (0, .ref 0), (3, .int a3), (4, .int x23)]) dX12_threat_207 (by decide) rfl ?_
              refine ev_iconst dX12_threat_209 rfl ?_
              refine ev_istore (ls' := [(6, .int (-1 : Int32)), (5, .int (0 : Int32)), (0, .ref 0), (3, .int a3), (4, .int x23)]) dX12_threat_210 (by decide) rfl ?_
              refine ev_aload_n 2 dX12_threat_212 rfl ?_
              refine ev_gf (v := .ref 2) dX12_threat_213 (fun h9 => (h9.2.1 0 _ rfl).2) 3 (by decide) (by decide) kF_X12_13 (fun h9 => congrArg va_rf (h9.2.2 0 3 2 rfl)) ?_
              refine ev_iconst dX12_threat_216 rfl ?_
              obtain ⟨c72, h⟩ := am_gd_elim h
              refine ev_iald dX12_threat_217 (fun h9 => (h9.2.1 2 _ rfl).2) (am_in_vp c72) ?_
              refine ev_iconst dX12_threat_218 rfl ?_
              refine ev_isub dX12_threat_219 ?_
              refine am_let_elim (P := fun x73 => am_Ev zr MX12_threat 6 220 [(6, .int (-1 : Int32)), (5, .int (0 : Int32)), (0, .ref 0), (3, .int a3), (4, .int x23)] [.int x73] g70 (am_ri r)) h fun x73 h => ?_
              refine ev_istore (ls' := [(7, .int x73), (6, .int (-1 : Int32)), (5, .int (0 : Int32)), (0, .ref 0), (3, .int a3), (4, .int x23)]) dX12_threat_220 (by decide) rfl ?_
              refine ev_sub [3, 4, 5, 2, 1, 0] rfl ?_
              refine tfX12_threat_L222 a3 x23 ?_ _ _ _ _ _ _ h
              intro x92 x93 g94 r h
              try dsimp only at h
              refine ev_iload_n 0 dX12_threat_251 rfl ?_
              refine ev_iconst dX12_threat_252 rfl ?_
              refine ev_icmp_ne 261 dX12_threat_253 (by decide) (fun c95 => ?_) (fun c95 => ?_)
              · replace h := am_ifn c95 h
                refine ev_iload 2 dX12_threat_261 rfl ?_
                cases h
                exact ev_iret dX12_threat_263 rfl
              · replace h := am_ifp c95 h
                refine ev_iload 1 dX12_threat_256 rfl ?_
                refine ev_goto 263 dX12_threat_258 (by decide) ?_
                cases h
                exact ev_iret dX12_threat_263 rfl
            · replace h := am_ifp c71 h
              refine ev_aload_n 0 dX12_threat_190 rfl ?_
              refine ev_gf (v := .ref 30) dX12_threat_191 (fun h9 => (h9.2.1 0 _ rfl).2) 52 (by decide) (by decide) kF_X12_141 (fun h9 => congrArg va_rf (h9.2.2 0 52 30 rfl)) ?_
              refine ev_iload 2 dX12_threat_194 rfl ?_
              obtain ⟨c96, h⟩ := am_gd_elim h
              refine ev_zald dX12_threat_196 (fun h9 => (h9.2.1 30 _ rfl).2) (am_in_vp c96) ?_
              refine ev_if_eq 204 dX12_threat_197 (by decide) (fun c97 => ?_) (fun c97 => ?_)
              · replace h := am_ifp c97 h
                refine ev_iconst dX12_threat_204 rfl ?_
                cases h
                exact ev_iret dX12_threat_205 rfl
              · replace h := am_ifn c97 h
                refine ev_iconst dX12_threat_200 rfl ?_
                refine ev_goto 205 dX12_threat_201 (by decide) ?_
                cases h
                exact ev_iret dX12_threat_205 rfl
          · replace h := am_ifn c28 h
            refine ev_iconst dX12_threat_70 rfl ?_
            cases h
            exact ev_iret dX12_threat_71 rfl
      · replace h := am_ifp c13 h
        refine ev_iconst dX12_threat_31 rfl ?_
        cases h
        exact ev_iret dX12_threat_32 rfl
theorem tX12_threat {a1 : Int32} {a2 : Int32} {a3 : Int32} {g : am_G} {r : Int32 × am_G} (h : fX12_threat a1 a2 a3 g = some r) : am_Mt zr MX12_threat 6 [.ref 0, .int a1, .int a2, .int a3] g (am_ri r) := am_Mt.of rfl (Nat.le_of_ble_eq_true rfl) (eX12_threat _ _ _ _ _ h)
def fX12_seen (a1 : Int32) (a2 : Int32) (a3 : Int32) (g : am_G) : Option (Int32 × am_G) :=
  am_let (am_si g 0 0 (0 : Int32)) fun g1 =>
  am_bd (fX12_isSlope a1 g1) fun v2 g3 =>
  if v2 = 0 then (
    am_bd (fX12_tell (-1 : Int32) g3) fun v6 g7 =>
    some (v6, g7))
  else (
    am_bd (fX12_in a2.toInt64 (1 : Int64) (9999 : Int64) g3) fun v9 g10 =>
    if v9 = 0 then (
      am_bd (fX12_tell (-1 : Int32) g10) fun v13 g14 =>
      some (v13, g14))
    else (
      am_bd (fX12_in a3.toInt64 (0 : Int64) (1 : Int64) g10) fun v16 g17 =>
      if v16 = 0 then (
        am_bd (fX12_tell (-1 : Int32) g17) fun v38 g39 =>
        some (v38, g39))
      else (
        am_gd (am_in (3 : Int32) 5660) <|
        am_let (am_I g17 2 (3 : Int32).toNatClampNeg) fun x21 =>
        if x21 = (10 : Int32) then (
          am_bd (fX12_tell (-5 : Int32) g17) fun v35 g36 =>
          some (v35, g36))
        else (
          am_gd (am_in ((229 : Int32) + ((3 : Int32) * x21)) 5660) <|
          am_let (am_si g17 2 ((229 : Int32) + ((3 : Int32) * x21)).toNatClampNeg a1) fun g24 =>
          am_gd (am_in (((229 : Int32) + ((3 : Int32) * x21)) + (1 : Int32)) 5660) <|
          am_let (am_si g24 2 (((229 : Int32) + ((3 : Int32) * x21)) + (1 : Int32)).toNatClampNeg a2) fun g26 =>
          am_gd (am_in (((229 : Int32) + ((3 : Int32) * x21)) + (2 : Int32)) 5660) <|
          am_let (am_si g26 2 (((229 : Int32) + ((3 : Int32) * x21)) + (2 : Int32)).toNatClampNeg a3) fun g28 =>
          am_gd (am_in (3 : Int32) 5660) <|
          am_gd (am_in (3 : Int32) 5660) <|
          am_let (am_si g28 2 (3 : Int32).toNatClampNeg ((am_I g28 2 (3 : Int32).toNatClampNeg) + (1 : Int32))) fun g31 =>
          am_bd (fX12_tell (x21 + (1 : Int32)) g31) fun v32 g33 =>
          some (v32, g33)))))
set_option maxRecDepth 100000 in
set_option maxHeartbeats 4000000 in
theorem eX12_seen (a1 : Int32) (a2 : Int32) (a3 : Int32) (g : am_G) (r : Int32 × am_G) (h : fX12_seen a1 a2 a3 g = some r) : am_Ev zr MX12_seen 2 0 [(0, .ref 0), (1, .int a1), (2, .int a2), (3, .int a3)] [] g (am_ri r) := by
  unfold fX12_seen at h
  refine ev_aload_n 0 dX12_seen_0 rfl ?_
  refine ev_iconst dX12_seen_1 rfl ?_
  refine ev_pfi dX12_seen_2 (fun h9 => (h9.2.1 0 _ rfl).2) 0 (by decide) (by decide) kF_X12_163 rfl rfl rfl (fun _ => rfl) ?_
  refine am_let_elim (P := fun g1 => am_Ev zr MX12_seen 2 5 [(0, .ref 0), (1, .int a1), (2, .int a2), (3, .int a3)] [] g1 (am_ri r)) h fun g1 h => ?_
  refine ev_iload_n 1 dX12_seen_5 rfl ?_
  obtain ⟨v2, g3, e4, h⟩ := am_bd_elim h
  refine ev_callSi (v := v2) [.int a1] [] dX12_seen_6 (tX12_isSlope e4) (by decide) mo_X12_isSlope kM_X12_199 ks_X12_isSlope (Nat.le_of_ble_eq_true rfl) ?_
  refine ev_if_eq 34 dX12_seen_9 (by decide) (fun c5 => ?_) (fun c5 => ?_)
  · replace h := am_ifp c5 h
    refine ev_aload_n 0 dX12_seen_34 rfl ?_
    refine ev_iconst dX12_seen_35 rfl ?_
    obtain ⟨v6, g7, e8, h⟩ := am_bd_elim h
    refine ev_callVi (v := v6) [.int (-1 : Int32)] [] dX12_seen_36 (tX12_tell e8) (by decide) mo_X12_tell kM_X12_176 ki_X12_tell kv_X12_tell (fun h9 => (h9.2.1 0 _ rfl).2) (by decide) rfl (Nat.le_of_ble_eq_true rfl) ?_
    cases h
    exact ev_iret dX12_seen_39 rfl
  · replace h := am_ifn c5 h
    refine ev_iload_n 2 dX12_seen_12 rfl ?_
    refine ev_i2l dX12_seen_13 ?_
    refine ev_lconst dX12_seen_14 rfl ?_
    refine ev_ldc2 dX12_seen_15 kL_X12_191 ?_
    obtain ⟨v9, g10, e11, h⟩ := am_bd_elim h
    refine ev_callSi (v := v9) [.long a2.toInt64, .long (1 : Int64), .long (9999 : Int64)] [] dX12_seen_18 (tX12_in e11) (by decide) mo_X12_in kM_X12_183 ks_X12_in (Nat.le_of_ble_eq_true rfl) ?_
    refine ev_if_eq 34 dX12_seen_21 (by decide) (fun c12 => ?_) (fun c12 => ?_)
    · replace h := am_ifp c12 h
      refine ev_aload_n 0 dX12_seen_34 rfl ?_
      refine ev_iconst dX12_seen_35 rfl ?_
      obtain ⟨v13, g14, e15, h⟩ := am_bd_elim h
      refine ev_callVi (v := v13) [.int (-1 : Int32)] [] dX12_seen_36 (tX12_tell e15) (by decide) mo_X12_tell kM_X12_176 ki_X12_tell kv_X12_tell (fun h9 => (h9.2.1 0 _ rfl).2) (by decide) rfl (Nat.le_of_ble_eq_true rfl) ?_
      cases h
      exact ev_iret dX12_seen_39 rfl
    · replace h := am_ifn c12 h
      refine ev_iload_n 3 dX12_seen_24 rfl ?_
      refine ev_i2l dX12_seen_25 ?_
      refine ev_lconst dX12_seen_26 rfl ?_
      refine ev_lconst dX12_seen_27 rfl ?_
      obtain ⟨v16, g17, e18, h⟩ := am_bd_elim h
      refine ev_callSi (v := v16) [.long a3.toInt64, .long (0 : Int64), .long (1 : Int64)] [] dX12_seen_28 (tX12_in e18) (by decide) mo_X12_in kM_X12_183 ks_X12_in (Nat.le_of_ble_eq_true rfl) ?_
      refine ev_if_ne 40 dX12_seen_31 (by decide) (fun c19 => ?_) (fun c19 => ?_)
      · replace h := am_ifn c19 h
        refine ev_aload_n 0 dX12_seen_40 rfl ?_
        refine ev_gf (v := .ref 2) dX12_seen_41 (fun h9 => (h9.2.1 0 _ rfl).2) 3 (by decide) (by decide) kF_X12_13 (fun h9 => congrArg va_rf (h9.2.2 0 3 2 rfl)) ?_
        refine ev_iconst dX12_seen_44 rfl ?_
        obtain ⟨c20, h⟩ := am_gd_elim h
        refine ev_iald dX12_seen_45 (fun h9 => (h9.2.1 2 _ rfl).2) (am_in_vp c20) ?_
        refine am_let_elim (P := fun x21 => am_Ev zr MX12_seen 2 46 [(0, .ref 0), (1, .int a1), (2, .int a2), (3, .int a3)] [.int x21] g17 (am_ri r)) h fun x21 h => ?_
        refine ev_istore (ls' := [(4, .int x21), (0, .ref 0), (1, .int a1), (2, .int a2), (3, .int a3)]) dX12_seen_46 (by decide) rfl ?_
        refine ev_iload 0 dX12_seen_48 rfl ?_
        refine ev_bipush dX12_seen_50 rfl ?_
        refine ev_icmp_ne 62 dX12_seen_52 (by decide) (fun c22 => ?_) (fun c22 => ?_)
        · replace h := am_ifn c22 h
          refine ev_aload_n 1 dX12_seen_62 rfl ?_
          refine ev_gf (v := .ref 2) dX12_seen_63 (fun h9 => (h9.2.1 0 _ rfl).2) 3 (by decide) (by decide) kF_X12_13 (fun h9 => congrArg va_rf (h9.2.2 0 3 2 rfl)) ?_
          refine ev_sipush dX12_seen_66 rfl ?_
          refine ev_iconst dX12_seen_69 rfl ?_
          refine ev_iload 0 dX12_seen_70 rfl ?_
          refine ev_imul dX12_seen_72 ?_
          refine ev_iadd dX12_seen_73 ?_
          refine ev_iload_n 2 dX12_seen_74 rfl ?_
          obtain ⟨c23, h⟩ := am_gd_elim h
          refine ev_iast dX12_seen_75 (fun h9 => (h9.2.1 2 _ rfl).2) (am_in_vp c23) ?_
          refine am_let_elim (P := fun g24 => am_Ev zr MX12_seen 2 76 [(4, .int x21), (0, .ref 0), (1, .int a1), (2, .int a2), (3, .int a3)] [] g24 (am_ri r)) h fun g24 h => ?_
          refine ev_aload_n 1 dX12_seen_76 rfl ?_
          refine ev_gf (v := .ref 2) dX12_seen_77 (fun h9 => (h9.2.1 0 _ rfl).2) 3 (by decide) (by decide) kF_X12_13 (fun h9 => congrArg va_rf (h9.2.2 0 3 2 rfl)) ?_
          refine ev_sipush dX12_seen_80 rfl ?_
          refine ev_iconst dX12_seen_83 rfl ?_
          refine ev_iload 0 dX12_seen_84 rfl ?_
          refine ev_imul dX12_seen_86 ?_
          refine ev_iadd dX12_seen_87 ?_
          refine ev_iconst dX12_seen_88 rfl ?_
          refine ev_iadd dX12_seen_89 ?_
          refine ev_iload_n 3 dX12_seen_90 rfl ?_
          obtain ⟨c25, h⟩ := am_gd_elim h
          refine ev_iast dX12_seen_91 (fun h9 => (h9.2.1 2 _ rfl).2) (am_in_vp c25) ?_
          refine am_let_elim (P := fun g26 => am_Ev zr MX12_seen 2 92 [(4, .int x21), (0, .ref 0), (1, .int a1), (2, .int a2), (3, .int a3)] [] g26 (am_ri r)) h fun g26 h => ?_
          refine ev_aload_n 1 dX12_seen_92 rfl ?_
          refine ev_gf (v := .ref 2) dX12_seen_93 (fun h9 => (h9.2.1 0 _ rfl).2) 3 (by decide) (by decide) kF_X12_13 (fun h9 => congrArg va_rf (h9.2.2 0 3 2 rfl)) ?_
          refine ev_sipush dX12_seen_96 rfl ?_
          refine ev_iconst dX12_seen_99 rfl ?_
          refine ev_iload 0 dX12_seen_100 rfl ?_
          refine ev_imul dX12_seen_102 ?_
          refine ev_iadd dX12_seen_103 ?_
          refine ev_iconst dX12_seen_104 rfl ?_
          refine ev_iadd dX12_seen_105 ?_
          refine ev_iload_n 4 dX12_seen_106 rfl ?_
          obtain ⟨c27, h⟩ := am_gd_elim h
          refine ev_iast dX12_seen_107 (fun h9 => (h9.2.1 2 _ rfl).2) (am_in_vp c27) ?_
          refine am_let_elim (P := fun g28 => am_Ev zr MX12_seen 2 108 [(4, .int x21), (0, .ref 0), (1, .int a1), (2, .int a2), (3, .int a3)] [] g28 (am_ri r)) h fun g28 h => ?_
          refine ev_aload_n 1 dX12_seen_108 rfl ?_
          refine ev_gf (v := .ref 2) dX12_seen_109 (fun h9 => (h9.2.1 0 _ rfl).2) 3 (by decide) (by decide) kF_X12_13 (fun h9 => congrArg va_rf (h9.2.2 0 3 2 rfl)) ?_
          refine ev_iconst dX12_seen_112 rfl ?_
          refine ev_dup2 dX12_seen_113 rfl rfl ?_
          obtain ⟨c29, h⟩ := am_gd_elim h
          refine ev_iald dX12_seen_114 (fun h9 => (h9.2.1 2 _ rfl).2) (am_in_vp c29) ?_
          refine ev_iconst dX12_seen_115 rfl ?_
          refine ev_iadd dX12_seen_116 ?_
          obtain ⟨c30, h⟩ := am_gd_elim h
          refine ev_iast dX12_seen_117 (fun h9 => (h9.2.1 2 _ rfl).2) (am_in_vp c30) ?_
          refine am_let_elim (P := fun g31 => am_Ev zr MX12_seen 2 118 [(4, .int x21), (0, .ref 0), (1, .int a1), (2, .int a2), (3, .int a3)] [] g31 (am_ri r)) h fun g31 h => ?_
          refine ev_aload_n 1 dX12_seen_118 rfl ?_
          refine ev_iload 0 dX12_seen_119 rfl ?_
          refine ev_iconst dX12_seen_121 rfl ?_
          refine ev_iadd dX12_seen_122 ?_
          obtain ⟨v32, g33, e34, h⟩ := am_bd_elim h
          refine ev_callVi (v := v32) [.int (x21 + (1 : Int32))] [] dX12_seen_123 (tX12_tell e34) (by decide) mo_X12_tell kM_X12_176 ki_X12_tell kv_X12_tell (fun h9 => (h9.2.1 0 _ rfl).2) (by decide) rfl (Nat.le_of_ble_eq_true rfl) ?_
          cases h
          exact ev_iret dX12_seen_126 rfl
        · replace h := am_ifp c22 h
          refine ev_aload_n 1 dX12_seen_55 rfl ?_
          refine ev_bipush dX12_seen_56 rfl ?_
          obtain ⟨v35, g36, e37, h⟩ := am_bd_elim h
          refine ev_callVi (v := v35) [.int (-5 : Int32)] [] dX12_seen_58 (tX12_tell e37) (by decide) mo_X12_tell kM_X12_176 ki_X12_tell kv_X12_tell (fun h9 => (h9.2.1 0 _ rfl).2) (by decide) rfl (Nat.le_of_ble_eq_true rfl) ?_
          cases h
          exact ev_iret dX12_seen_61 rfl
      · replace h := am_ifp c19 h
        refine ev_aload_n 0 dX12_seen_34 rfl ?_
        refine ev_iconst dX12_seen_35 rfl ?_
        obtain ⟨v38, g39, e40, h⟩ := am_bd_elim h
        refine ev_callVi (v := v38) [.int (-1 : Int32)] [] dX12_seen_36 (tX12_tell e40) (by decide) mo_X12_tell kM_X12_176 ki_X12_tell kv_X12_tell (fun h9 => (h9.2.1 0 _ rfl).2) (by decide) rfl (Nat.le_of_ble_eq_true rfl) ?_
        cases h
        exact ev_iret dX12_seen_39 rfl
theorem tX12_seen {a1 : Int32} {a2 : Int32} {a3 : Int32} {g : am_G} {r : Int32 × am_G} (h : fX12_seen a1 a2 a3 g = some r) : am_Mt zr MX12_seen 2 [.ref 0, .int a1, .int a2, .int a3] g (am_ri r) := am_Mt.of rfl (Nat.le_of_ble_eq_true rfl) (eX12_seen _ _ _ _ _ h)
def fX12_forget (g : am_G) : Option (Int32 × am_G) :=
  am_let (am_si g 0 0 (0 : Int32)) fun g1 =>
  am_gd (am_in (3 : Int32) 5660) <|
  am_let (am_I g1 2 (3 : Int32).toNatClampNeg) fun x3 =>
  am_gd (am_in (3 : Int32) 5660) <|
  am_let (am_si g1 2 (3 : Int32).toNatClampNeg (0 : Int32)) fun g5 =>
  some (x3, g5)
set_option maxRecDepth 100000 in
set_option maxHeartbeats 4000000 in
theorem eX12_forget (g : am_G) (r : Int32 × am_G) (h : fX12_forget g = some r) : am_Ev zr MX12_forget 0 0 [(0, .ref 0)] [] g (am_ri r) := by
  unfold fX12_forget at h
  refine ev_aload_n 0 dX12_forget_0 rfl ?_
  refine ev_iconst dX12_forget_1 rfl ?_
  refine ev_pfi dX12_forget_2 (fun h9 => (h9.2.1 0 _ rfl).2) 0 (by decide) (by decide) kF_X12_163 rfl rfl rfl (fun _ => rfl) ?_
  refine am_let_elim (P := fun g1 => am_Ev zr MX12_forget 0 5 [(0, .ref 0)] [] g1 (am_ri r)) h fun g1 h => ?_
  refine ev_aload_n 0 dX12_forget_5 rfl ?_
  refine ev_gf (v := .ref 2) dX12_forget_6 (fun h9 => (h9.2.1 0 _ rfl).2) 3 (by decide) (by decide) kF_X12_13 (fun h9 => congrArg va_rf (h9.2.2 0 3 2 rfl)) ?_
  refine ev_iconst dX12_forget_9 rfl ?_
  obtain ⟨c2, h⟩ := am_gd_elim h
  refine ev_iald dX12_forget_10 (fun h9 => (h9.2.1 2 _ rfl).2) (am_in_vp c2) ?_
  refine am_let_elim (P := fun x3 => am_Ev zr MX12_forget 0 11 [(0, .ref 0)] [.int x3] g1 (am_ri r)) h fun x3 h => ?_
  refine ev_istore_n (ls' := [(1, .int x3), (0, .ref 0)]) dX12_forget_11 rfl (by decide) rfl ?_
  refine ev_aload_n 1 dX12_forget_12 rfl ?_
  refine ev_gf (v := .ref 2) dX12_forget_13 (fun h9 => (h9.2.1 0 _ rfl).2) 3 (by decide) (by decide) kF_X12_13 (fun h9 => congrArg va_rf (h9.2.2 0 3 2 rfl)) ?_
  refine ev_iconst dX12_forget_16 rfl ?_
  refine ev_iconst dX12_forget_17 rfl ?_
  obtain ⟨c4, h⟩ := am_gd_elim h
  refine ev_iast dX12_forget_18 (fun h9 => (h9.2.1 2 _ rfl).2) (am_in_vp c4) ?_
  refine am_let_elim (P := fun g5 => am_Ev zr MX12_forget 0 19 [(1, .int x3), (0, .ref 0)] [] g5 (am_ri r)) h fun g5 h => ?_
  refine ev_iload_n 0 dX12_forget_19 rfl ?_
  cases h
  exact ev_iret dX12_forget_20 rfl
theorem tX12_forget {g : am_G} {r : Int32 × am_G} (h : fX12_forget g = some r) : am_Mt zr MX12_forget 0 [.ref 0] g (am_ri r) := am_Mt.of rfl (Nat.le_of_ble_eq_true rfl) (eX12_forget _ _ h)
def fX12_holds_L36 (k : Int32 → Int32 → am_G → Option (Int32 × am_G)) (a1 : Int32) (a2 : Int32) : Nat → Int32 → Int32 → Int32 → am_G → Option (Int32 × am_G)
  | 0, _, _, _, _ => none
  | n + 1, x10, x11, x12, g13 =>
    am_gd (am_in (3 : Int32) 5660) <|
    if (am_I g13 2 (3 : Int32).toNatClampNeg) ≤ x12 then (
      k x10 x11 g13)
    else (
      am_let ((229 : Int32) + ((3 : Int32) * x12)) fun x19 =>
      am_gd (am_in x19 5660) <|
      am_jn (fun (x22 : Int32) (x23 : Int32) (g24 : am_G) =>
        am_let (x12 + (1 : Int32)) fun x26 =>
        fX12_holds_L36 k a1 a2 n x22 x23 x26 g24) fun j25 =>
      if (am_I g13 2 x19.toNatClampNeg) = a1 then (
        am_gd (am_in (x19 + (1 : Int32)) 5660) <|
        am_let (am_I g13 2 (x19 + (1 : Int32)).toNatClampNeg) fun x28 =>
        am_gd (am_in (x19 + (2 : Int32)) 5660) <|
        am_jn (fun (x31 : Int32) (g32 : am_G) =>
          am_gd (am_in (x19 + (2 : Int32)) 5660) <|
          am_jn (fun (x36 : Int32) (g37 : am_G) =>
            j25 x36 x31 g37) fun j38 =>
          am_jn (fun  (g39 : am_G) =>
            j38 x10 g39) fun j40 =>
          if (am_I g32 2 (x19 + (2 : Int32)).toNatClampNeg) = 0 then (
            if x28 ≤ x10 then (
              j40 g32)
            else (
              j38 x28 g32))
          else (
            j40 g32)) fun j33 =>
        am_jn (fun  (g42 : am_G) =>
          j33 x11 g42) fun j43 =>
        if (am_I g13 2 (x19 + (2 : Int32)).toNatClampNeg) = (1 : Int32) then (
          if x11 ≤ (x28 - (1 : Int32)) then (
            j43 g13)
          else (
            j33 (x28 - (1 : Int32)) g13))
        else (
          j43 g13))
      else (
        j25 x10 x11 g13))
def fX12_holds_L209 (x45 : Int32) (x46 : Int32) : Nat → Int32 → Int32 → Int32 → am_G → Option (Int32 × am_G)
  | 0, _, _, _, _ => none
  | n + 1, x56, x57, x58, g59 =>
    if x46 < x58 then (
      some (x56, g59))
    else (
      am_jn (fun (x62 : Int32) (g63 : am_G) =>
        am_jn (fun (x66 : Int32) (g67 : am_G) =>
          am_jn (fun (x70 : Int32) (g71 : am_G) =>
            am_let (x58 + (1 : Int32)) fun x73 =>
            fX12_holds_L209 x45 x46 n x66 x70 x73 g71) fun j72 =>
          if x57 ≤ x62 then (
            j72 x57 g67)
          else (
            j72 x62 g67)) fun j68 =>
        if x57 ≤ x62 then (
          j68 x56 g63)
        else (
          j68 x58 g63)) fun j64 =>
      if (x58 - x45) ≤ ((x46 - x58) + (1 : Int32)) then (
        j64 ((x46 - x58) + (1 : Int32)) g59)
      else (
        j64 (x58 - x45) g59))
def fX12_holds (a1 : Int32) (a2 : Int32) (g : am_G) : Option (Int32 × am_G) :=
  am_let (am_si g 0 0 (0 : Int32)) fun g1 =>
  am_bd (fX12_isSlope a1 g1) fun v2 g3 =>
  if v2 = 0 then (
    some ((-1 : Int32), g3))
  else (
    am_bd (fX12_in a2.toInt64 (0 : Int64) (3 : Int64) g3) fun v6 g7 =>
    if v6 = 0 then (
      some ((-1 : Int32), g7))
    else (
      fX12_holds_L36 (fun (x45 : Int32) (x46 : Int32) (g47 : am_G) =>
        am_jn (fun  (g49 : am_G) =>
          if a2 = (2 : Int32) then (
            if x45 ≤ x46 then (
              some ((x46 - x45) + (1 : Int32), g49))
            else (
              some ((0 : Int32), g49)))
          else (
            some ((-1 : Int32), g49))) fun j50 =>
        if a2 = (2 : Int32) then (
          j50 g47)
        else (
          if x45 ≤ x46 then (
            if (2 : Int32) ≤ a2 then (
              am_let (x45 + (1 : Int32)) fun x55 =>
              fX12_holds_L209 x45 x46 am_fu (-1 : Int32) (100000000 : Int32) x55 g47)
            else (
              if a2 = 0 then (
                some (x45, g47))
              else (
                some (x46, g47))))
          else (
            j50 g47))) a1 a2 am_fu (1 : Int32) (9999 : Int32) (0 : Int32) g7))
set_option maxRecDepth 100000 in
set_option maxHeartbeats 4000000 in
theorem tfX12_holds_L36  {k : Int32 → Int32 → am_G → Option (Int32 × am_G)} (a1 : Int32) (a2 : Int32) (hk : ∀ (x14 : Int32) (x15 : Int32) (g16 : am_G) (r : Int32 × am_G), k x14 x15 g16 = some r → am_Ev zr MX12_holds 2 143 [(2, .int a2), (3, .int x14), (4, .int x15)] [] g16 (am_ri r)) : ∀ (n : Nat) (x10 : Int32) (x11 : Int32) (x12 : Int32) (g13 : am_G) (r : Int32 × am_G), fX12_holds_L36 k a1 a2 n x10 x11 x12 g13 = some r → am_Ev zr MX12_holds 2 36 [(0, .ref 0), (1, .int a1), (2, .int a2), (3, .int x10), (4, .int x11), (5, .int x12)] [] g13 (am_ri r) := by
  intro n
  induction n with
  | zero => intro x10 x11 x12 g13 r h; exact nomatch (show (none : Option (Int32 × am_G)) = some r from h)
  | succ n ih =>
    intro x10 x11 x12 g13 r h
    rw [fX12_holds_L36] at h
    refine ev_iload 5 dX12_holds_36 rfl ?_
    refine ev_aload_n 0 dX12_holds_38 rfl ?_
    refine ev_gf (v := .ref 2) dX12_holds_39 (fun h9 => (h9.2.1 0 _ rfl).2) 3 (by decide) (by decide) kF_X12_13 (fun h9 => congrArg va_rf (h9.2.2 0 3 2 rfl)) ?_
    refine ev_iconst dX12_holds_42 rfl ?_
    obtain ⟨c17, h⟩ := am_gd_elim h
    refine ev_iald dX12_holds_43 (fun h9 => (h9.2.1 2 _ rfl).2) (am_in_vp c17) ?_
    refine ev_icmp_ge 143 dX12_holds_44 (by decide) (fun c18 => ?_) (fun c18 => ?_)
    · replace h := am_ifp c18 h
      refine ev_sub [2, 3, 4] rfl ?_
      exact hk _ _ _ _ h
    · replace h := am_ifn c18 h
      refine ev_sipush dX12_holds_47 rfl ?_
      refine ev_iconst dX12_holds_50 rfl ?_
      refine ev_iload 5 dX12_holds_51 rfl ?_
      refine ev_imul dX12_holds_53 ?_
      refine ev_iadd dX12_holds_54 ?_
      refine am_let_elim (P := fun x19 => am_Ev zr MX12_holds 2 55 [(0, .ref 0), (1, .int a1), (2, .int a2), (3, .int x10), (4, .int x11), (5, .int x12)] [.int x19] g13 (am_ri r)) h fun x19 h => ?_
      refine ev_istore (ls' := [(6, .int x19), (0, .ref 0), (1, .int a1), (2, .int a2), (3, .int x10), (4, .int x11), (5, .int x12)]) dX12_holds_55 (by decide) rfl ?_
      refine ev_aload_n 1 dX12_holds_57 rfl ?_
      refine ev_gf (v := .ref 2) dX12_holds_58 (fun h9 => (h9.2.1 0 _ rfl).2) 3 (by decide) (by decide) kF_X12_13 (fun h9 => congrArg va_rf (h9.2.2 0 3 2 rfl)) ?_
      refine ev_iload 0 dX12_holds_61 rfl ?_
      obtain ⟨c20, h⟩ := am_gd_elim h
      refine ev_iald dX12_holds_63 (fun h9 => (h9.2.1 2 _ rfl).2) (am_in_vp c20) ?_
      refine ev_iload_n 2 dX12_holds_64 rfl ?_
      refine am_jn_elim (fun q9 => ∀ (x22 : Int32) (x23 : Int32) (g24 : am_G) (r : Int32 × am_G), q9 x22 x23 g24 = some r → am_Ev zr MX12_holds 2 137 [(0, .ref 0), (1, .int a1), (2, .int a2), (3, .int x22), (4, .int x23), (5, .int x12)] [] g24 (am_ri r)) h ?_ (fun j25 hj25 h => ?_)
      · intro x22 x23 g24 r h
        try dsimp only at h
        obtain ⟨x26, ex26, h⟩ := am_let_ex h
        refine ev_iinc (ls' := [(5, .int x26), (0, .ref 0), (1, .int a1), (2, .int a2), (3, .int x22), (4, .int x23)]) 5 dX12_holds_137 rfl ex26 (by decide) rfl ?_
        refine ev_goto 36 dX12_holds_140 (by decide) ?_
        refine ev_sub [1, 2, 3, 4, 5, 0] rfl ?_
        exact ih _ _ _ _ _ h
      · refine ev_icmp_ne 137 dX12_holds_65 (by decide) (fun c21 => ?_) (fun c21 => ?_)
        · replace h := am_ifn c21 h
          refine ev_sub [1, 2, 3, 4, 5, 6] rfl ?_
          exact hj25 _ _ _ _ h
        · replace h := am_ifp c21 h
          refine ev_aload_n 1 dX12_holds_68 rfl ?_
          refine ev_gf (v := .ref 2) dX12_holds_69 (fun h9 => (h9.2.1 0 _ rfl).2) 3 (by decide) (by decide) kF_X12_13 (fun h9 => congrArg va_rf (h9.2.2 0 3 2 rfl)) ?_
          refine ev_iload 0 dX12_holds_72 rfl ?_
          refine ev_iconst dX12_holds_74 rfl ?_
          refine ev_iadd dX12_holds_75 ?_
          obtain ⟨c27, h⟩ := am_gd_elim h
          refine ev_iald dX12_holds_76 (fun h9 => (h9.2.1 2 _ rfl).2) (am_in_vp c27) ?_
          refine am_let_elim (P := fun x28 => am_Ev zr MX12_holds 2 77 [(6, .int x19), (0, .ref 0), (1, .int a1), (2, .int a2), (3, .int x10), (4, .int x11), (5, .int x12)] [.int x28] g13 (am_ri r)) h fun x28 h => ?_
          refine ev_istore (ls' := [(7, .int x28), (6, .int x19), (0, .ref 0), (1, .int a1), (2, .int a2), (3, .int x10), (4, .int x11), (5, .int x12)]) dX12_holds_77 (by decide) rfl ?_
          refine ev_aload_n 2 dX12_holds_79 rfl ?_
          refine ev_gf (v := .ref 2) dX12_holds_80 (fun h9 => (h9.2.1 0 _ rfl).2) 3 (by decide) (by decide) kF_X12_13 (fun h9 => congrArg va_rf (h9.2.2 0 3 2 rfl)) ?_
          refine ev_iload 1 dX12_holds_83 rfl ?_
          refine ev_iconst dX12_holds_85 rfl ?_
          refine ev_iadd dX12_holds_86 ?_
          obtain ⟨c29, h⟩ := am_gd_elim h
          refine ev_iald dX12_holds_87 (fun h9 => (h9.2.1 2 _ rfl).2) (am_in_vp c29) ?_
          refine ev_iconst dX12_holds_88 rfl ?_
          refine am_jn_elim (fun q9 => ∀ (x31 : Int32) (g32 : am_G) (r : Int32 × am_G), q9 x31 g32 = some r → am_Ev zr MX12_holds 2 110 [(0, .ref 0), (1, .int a1), (2, .int a2), (3, .int x10), (5, .int x12), (6, .int x19), (7, .int x28)] [.int x31] g32 (am_ri r)) h ?_ (fun j33 hj33 h => ?_)
          · intro x31 g32 r h
            try dsimp only at h
            refine ev_istore (ls' := [(4, .int x31), (0, .ref 0), (1, .int a1), (2, .int a2), (3, .int x10), (5, .int x12), (6, .int x19), (7, .int x28)]) dX12_holds_110 (by decide) rfl ?_
            refine ev_aload_n 1 dX12_holds_112 rfl ?_
            refine ev_gf (v := .ref 2) dX12_holds_113 (fun h9 => (h9.2.1 0 _ rfl).2) 3 (by decide) (by decide) kF_X12_13 (fun h9 => congrArg va_rf (h9.2.2 0 3 2 rfl)) ?_
            refine ev_iload 6 dX12_holds_116 rfl ?_
            refine ev_iconst dX12_holds_118 rfl ?_
            refine ev_iadd dX12_holds_119 ?_
            obtain ⟨c34, h⟩ := am_gd_elim h
            refine ev_iald dX12_holds_120 (fun h9 => (h9.2.1 2 _ rfl).2) (am_in_vp c34) ?_
            refine am_jn_elim (fun q9 => ∀ (x36 : Int32) (g37 : am_G) (r : Int32 × am_G), q9 x36 g37 = some r → am_Ev zr MX12_holds 2 136 [(0, .ref 0), (1, .int a1), (2, .int a2), (4, .int x31), (5, .int x12)] [.int x36] g37 (am_ri r)) h ?_ (fun j38 hj38 h => ?_)
            · intro x36 g37 r h
              try dsimp only at h
              refine ev_istore_n (ls' := [(3, .int x36), (0, .ref 0), (1, .int a1), (2, .int a2), (4, .int x31), (5, .int x12)]) dX12_holds_136 rfl (by decide) rfl ?_
              refine ev_sub [1, 2, 3, 0, 4, 5] rfl ?_
              exact hj25 _ _ _ _ h
            · refine am_jn_elim (fun q9 => ∀  (g39 : am_G) (r : Int32 × am_G), q9  g39 = some r → am_Ev zr MX12_holds 2 135 [(0, .ref 0), (1, .int a1), (2, .int a2), (3, .int x10), (4, .int x31), (5, .int x12)] [] g39 (am_ri r)) h ?_ (fun j40 hj40 h => ?_)
              · intro  g39 r h
                try dsimp only at h
                refine ev_iload_n 3 dX12_holds_135 rfl ?_
                refine ev_sub [0, 1, 2, 4, 5] rfl ?_
                exact hj38 _ _ _ h
              · refine ev_if_ne 135 dX12_holds_121 (by decide) (fun c35 => ?_) (fun c35 => ?_)
                · replace h := am_ifn c35 h
                  refine ev_sub [1, 2, 3, 4, 0, 5] rfl ?_
                  exact hj40  _ _ h
                · replace h := am_ifp c35 h
                  refine ev_iload 7 dX12_holds_124 rfl ?_
                  refine ev_iload_n 4 dX12_holds_126 rfl ?_
                  refine ev_icmp_le 135 dX12_holds_127 (by decide) (fun c41 => ?_) (fun c41 => ?_)
                  · replace h := am_ifp c41 h
                    refine ev_sub [1, 2, 3, 4, 0, 5] rfl ?_
                    exact hj40  _ _ h
                  · replace h := am_ifn c41 h
                    refine ev_iload 7 dX12_holds_130 rfl ?_
                    refine ev_goto 136 dX12_holds_132 (by decide) ?_
                    refine ev_sub [1, 2, 3, 0, 5] rfl ?_
                    exact hj38 _ _ _ h
          · refine am_jn_elim (fun q9 => ∀  (g42 : am_G) (r : Int32 × am_G), q9  g42 = some r → am_Ev zr MX12_holds 2 108 [(0, .ref 0), (1, .int a1), (2, .int a2), (3, .int x10), (4, .int x11), (5, .int x12), (6, .int x19), (7, .int x28)] [] g42 (am_ri r)) h ?_ (fun j43 hj43 h => ?_)
            · intro  g42 r h
              try dsimp only at h
              refine ev_iload 4 dX12_holds_108 rfl ?_
              refine ev_sub [0, 1, 2, 3, 5, 6, 7] rfl ?_
              exact hj33 _ _ _ h
            · refine ev_icmp_ne 108 dX12_holds_89 (by decide) (fun c30 => ?_) (fun c30 => ?_)
              · replace h := am_ifn c30 h
                refine ev_sub [2, 3, 4, 5, 6, 7, 1, 0] rfl ?_
                exact hj43  _ _ h
              · replace h := am_ifp c30 h
                refine ev_iload 0 dX12_holds_92 rfl ?_
                refine ev_iconst dX12_holds_94 rfl ?_
                refine ev_isub dX12_holds_95 ?_
                refine ev_iload 6 dX12_holds_96 rfl ?_
                refine ev_icmp_ge 108 dX12_holds_98 (by decide) (fun c44 => ?_) (fun c44 => ?_)
                · replace h := am_ifp c44 h
                  refine ev_sub [2, 3, 4, 5, 6, 7, 1, 0] rfl ?_
                  exact hj43  _ _ h
                · replace h := am_ifn c44 h
                  refine ev_iload 0 dX12_holds_101 rfl ?_
                  refine ev_iconst dX12_holds_103 rfl ?_
                  refine ev_isub dX12_holds_104 ?_
                  refine ev_goto 110 dX12_holds_105 (by decide) ?_
                  refine ev_sub [2, 3, 4, 5, 7, 1, 0] rfl ?_
                  exact hj33 _ _ _ h
set_option maxRecDepth 100000 in
set_option maxHeartbeats 4000000 in
theorem tfX12_holds_L209  (x45 : Int32) (x46 : Int32) : ∀ (n : Nat) (x56 : Int32) (x57 : Int32) (x58 : Int32) (g59 : am_G) (r : Int32 × am_G), fX12_holds_L209 x45 x46 n x56 x57 x58 g59 = some r → am_Ev zr MX12_holds 2 209 [(3, .int x45), (4, .int x46), (5, .int x56), (6, .int x57), (7, .int x58)] [] g59 (am_ri r) := by
  intro n
  induction n with
  | zero => intro x56 x57 x58 g59 r h; exact nomatch (show (none : Option (Int32 × am_G)) = some r from h)
  | succ n ih =>
    intro x56 x57 x58 g59 r h
    rw [fX12_holds_L209] at h
    refine ev_iload 4 dX12_holds_209 rfl ?_
    refine ev_iload 1 dX12_holds_211 rfl ?_
    refine ev_icmp_gt 284 dX12_holds_213 (by decide) (fun c60 => ?_) (fun c60 => ?_)
    · replace h := am_ifp c60 h
      refine ev_iload 2 dX12_holds_284 rfl ?_
      cases h
      exact ev_iret dX12_holds_286 rfl
    · replace h := am_ifn c60 h
      refine ev_iload 4 dX12_holds_216 rfl ?_
      refine ev_iload_n 0 dX12_holds_218 rfl ?_
      refine ev_isub dX12_holds_219 ?_
      refine ev_iload 1 dX12_holds_220 rfl ?_
      refine ev_iload 4 dX12_holds_222 rfl ?_
      refine ev_isub dX12_holds_224 ?_
      refine ev_iconst dX12_holds_225 rfl ?_
      refine ev_iadd dX12_holds_226 ?_
      refine am_jn_elim (fun q9 => ∀ (x62 : Int32) (g63 : am_G) (r : Int32 × am_G), q9 x62 g63 = some r → am_Ev zr MX12_holds 2 244 [(3, .int x45), (4, .int x46), (5, .int x56), (6, .int x57), (7, .int x58)] [.int x62] g63 (am_ri r)) h ?_ (fun j64 hj64 h => ?_)
      · intro x62 g63 r h
        try dsimp only at h
        refine ev_istore (ls' := [(8, .int x62), (3, .int x45), (4, .int x46), (5, .int x56), (6, .int x57), (7, .int x58)]) dX12_holds_244 (by decide) rfl ?_
        refine ev_iload 0 dX12_holds_246 rfl ?_
        refine ev_iload 4 dX12_holds_248 rfl ?_
        refine am_jn_elim (fun q9 => ∀ (x66 : Int32) (g67 : am_G) (r : Int32 × am_G), q9 x66 g67 = some r → am_Ev zr MX12_holds 2 260 [(3, .int x45), (4, .int x46), (6, .int x57), (7, .int x58), (8, .int x62)] [.int x66] g67 (am_ri r)) h ?_ (fun j68 hj68 h => ?_)
        · intro x66 g67 r h
          try dsimp only at h
          refine ev_istore (ls' := [(5, .int x66), (3, .int x45), (4, .int x46), (6, .int x57), (7, .int x58), (8, .int x62)]) dX12_holds_260 (by decide) rfl ?_
          refine ev_iload 5 dX12_holds_262 rfl ?_
          refine ev_iload 3 dX12_holds_264 rfl ?_
          refine am_jn_elim (fun q9 => ∀ (x70 : Int32) (g71 : am_G) (r : Int32 × am_G), q9 x70 g71 = some r → am_Ev zr MX12_holds 2 276 [(3, .int x45), (4, .int x46), (5, .int x66), (7, .int x58)] [.int x70] g71 (am_ri r)) h ?_ (fun j72 hj72 h => ?_)
          · intro x70 g71 r h
            try dsimp only at h
            refine ev_istore (ls' := [(6, .int x70), (3, .int x45), (4, .int x46), (5, .int x66), (7, .int x58)]) dX12_holds_276 (by decide) rfl ?_
            obtain ⟨x73, ex73, h⟩ := am_let_ex h
            refine ev_iinc (ls' := [(7, .int x73), (6, .int x70), (3, .int x45), (4, .int x46), (5, .int x66)]) 4 dX12_holds_278 rfl ex73 (by decide) rfl ?_
            refine ev_goto 209 dX12_holds_281 (by decide) ?_
            refine ev_sub [2, 3, 4, 1, 0] rfl ?_
            exact ih _ _ _ _ _ h
          · refine ev_icmp_ge 274 dX12_holds_266 (by decide) (fun c69 => ?_) (fun c69 => ?_)
            · replace h := am_ifp c69 h
              refine ev_iload 3 dX12_holds_274 rfl ?_
              refine ev_sub [1, 2, 0, 4] rfl ?_
              exact hj72 _ _ _ h
            · replace h := am_ifn c69 h
              refine ev_iload 5 dX12_holds_269 rfl ?_
              refine ev_goto 276 dX12_holds_271 (by decide) ?_
              refine ev_sub [1, 2, 0, 4] rfl ?_
              exact hj72 _ _ _ h
        · refine ev_icmp_ge 258 dX12_holds_250 (by decide) (fun c65 => ?_) (fun c65 => ?_)
          · replace h := am_ifp c65 h
            refine ev_iload 3 dX12_holds_258 rfl ?_
            refine ev_sub [1, 2, 4, 5, 0] rfl ?_
            exact hj68 _ _ _ h
          · replace h := am_ifn c65 h
            refine ev_iload 5 dX12_holds_253 rfl ?_
            refine ev_goto 260 dX12_holds_255 (by decide) ?_
            refine ev_sub [1, 2, 4, 5, 0] rfl ?_
            exact hj68 _ _ _ h
      · refine ev_icmp_le 237 dX12_holds_227 (by decide) (fun c61 => ?_) (fun c61 => ?_)
        · replace h := am_ifp c61 h
          refine ev_iload 1 dX12_holds_237 rfl ?_
          refine ev_iload 4 dX12_holds_239 rfl ?_
          refine ev_isub dX12_holds_241 ?_
          refine ev_iconst dX12_holds_242 rfl ?_
          refine ev_iadd dX12_holds_243 ?_
          refine ev_sub [0, 1, 2, 3, 4] rfl ?_
          exact hj64 _ _ _ h
        · replace h := am_ifn c61 h
          refine ev_iload 4 dX12_holds_230 rfl ?_
          refine ev_iload_n 0 dX12_holds_232 rfl ?_
          refine ev_isub dX12_holds_233 ?_
          refine ev_goto 244 dX12_holds_234 (by decide) ?_
          refine ev_sub [0, 1, 2, 3, 4] rfl ?_
          exact hj64 _ _ _ h
set_option maxRecDepth 100000 in
set_option maxHeartbeats 4000000 in
theorem eX12_holds (a1 : Int32) (a2 : Int32) (g : am_G) (r : Int32 × am_G) (h : fX12_holds a1 a2 g = some r) : am_Ev zr MX12_holds 2 0 [(0, .ref 0), (1, .int a1), (2, .int a2)] [] g (am_ri r) := by
  unfold fX12_holds at h
  refine ev_aload_n 0 dX12_holds_0 rfl ?_
  refine ev_iconst dX12_holds_1 rfl ?_
  refine ev_pfi dX12_holds_2 (fun h9 => (h9.2.1 0 _ rfl).2) 0 (by decide) (by decide) kF_X12_163 rfl rfl rfl (fun _ => rfl) ?_
  refine am_let_elim (P := fun g1 => am_Ev zr MX12_holds 2 5 [(0, .ref 0), (1, .int a1), (2, .int a2)] [] g1 (am_ri r)) h fun g1 h => ?_
  refine ev_iload_n 1 dX12_holds_5 rfl ?_
  obtain ⟨v2, g3, e4, h⟩ := am_bd_elim h
  refine ev_callSi (v := v2) [.int a1] [] dX12_holds_6 (tX12_isSlope e4) (by decide) mo_X12_isSlope kM_X12_199 ks_X12_isSlope (Nat.le_of_ble_eq_true rfl) ?_
  refine ev_if_eq 24 dX12_holds_9 (by decide) (fun c5 => ?_) (fun c5 => ?_)
  · replace h := am_ifp c5 h
    refine ev_iconst dX12_holds_24 rfl ?_
    cases h
    exact ev_iret dX12_holds_25 rfl
  · replace h := am_ifn c5 h
    refine ev_iload_n 2 dX12_holds_12 rfl ?_
    refine ev_i2l dX12_holds_13 ?_
    refine ev_lconst dX12_holds_14 rfl ?_
    refine ev_ldc2 dX12_holds_15 kL_X12_189 ?_
    obtain ⟨v6, g7, e8, h⟩ := am_bd_elim h
    refine ev_callSi (v := v6) [.long a2.toInt64, .long (0 : Int64), .long (3 : Int64)] [] dX12_holds_18 (tX12_in e8) (by decide) mo_X12_in kM_X12_183 ks_X12_in (Nat.le_of_ble_eq_true rfl) ?_
    refine ev_if_ne 26 dX12_holds_21 (by decide) (fun c9 => ?_) (fun c9 => ?_)
    · replace h := am_ifn c9 h
      refine ev_iconst dX12_holds_26 rfl ?_
      refine ev_istore_n (ls' := [(3, .int (1 : Int32)), (0, .ref 0), (1, .int a1), (2, .int a2)]) dX12_holds_27 rfl (by decide) rfl ?_
      refine ev_sipush dX12_holds_28 rfl ?_
      refine ev_istore (ls' := [(4, .int (9999 : Int32)), (3, .int (1 : Int32)), (0, .ref 0), (1, .int a1), (2, .int a2)]) dX12_holds_31 (by decide) rfl ?_
      refine ev_iconst dX12_holds_33 rfl ?_
      refine ev_istore (ls' := [(5, .int (0 : Int32)), (4, .int (9999 : Int32)), (3, .int (1 : Int32)), (0, .ref 0), (1, .int a1), (2, .int a2)]) dX12_holds_34 (by decide) rfl ?_
      refine ev_sub [3, 4, 5, 2, 1, 0] rfl ?_
      refine tfX12_holds_L36 a1 a2 ?_ _ _ _ _ _ _ h
      intro x45 x46 g47 r h
      try dsimp only at h
      refine ev_iload_n 0 dX12_holds_143 rfl ?_
      refine ev_iconst dX12_holds_144 rfl ?_
      refine am_jn_elim (fun q9 => ∀  (g49 : am_G) (r : Int32 × am_G), q9  g49 = some r → am_Ev zr MX12_holds 2 154 [(2, .int a2), (3, .int x45), (4, .int x46)] [] g49 (am_ri r)) h ?_ (fun j50 hj50 h => ?_)
      · intro  g49 r h
        try dsimp only at h
        refine ev_iload_n 0 dX12_holds_154 rfl ?_
        refine ev_iconst dX12_holds_155 rfl ?_
        refine ev_icmp_ne 178 dX12_holds_156 (by decide) (fun c51 => ?_) (fun c51 => ?_)
        · replace h := am_ifn c51 h
          refine ev_iconst dX12_holds_178 rfl ?_
          cases h
          exact ev_iret dX12_holds_179 rfl
        · replace h := am_ifp c51 h
          refine ev_iload_n 1 dX12_holds_159 rfl ?_
          refine ev_iload 2 dX12_holds_160 rfl ?_
          refine ev_icmp_le 169 dX12_holds_162 (by decide) (fun c52 => ?_) (fun c52 => ?_)
          · replace h := am_ifp c52 h
            refine ev_iload 2 dX12_holds_169 rfl ?_
            refine ev_iload_n 1 dX12_holds_171 rfl ?_
            refine ev_isub dX12_holds_172 ?_
            refine ev_iconst dX12_holds_173 rfl ?_
            refine ev_iadd dX12_holds_174 ?_
            refine ev_goto 179 dX12_holds_175 (by decide) ?_
            cases h
            exact ev_iret dX12_holds_179 rfl
          · replace h := am_ifn c52 h
            refine ev_iconst dX12_holds_165 rfl ?_
            refine ev_goto 179 dX12_holds_166 (by decide) ?_
            cases h
            exact ev_iret dX12_holds_179 rfl
      · refine ev_icmp_eq 154 dX12_holds_145 (by decide) (fun c48 => ?_) (fun c48 => ?_)
        · replace h := am_ifp c48 h
          refine ev_sub [0, 1, 2] rfl ?_
          exact hj50  _ _ h
        · replace h := am_ifn c48 h
          refine ev_iload_n 1 dX12_holds_148 rfl ?_
          refine ev_iload 2 dX12_holds_149 rfl ?_
          refine ev_icmp_le 180 dX12_holds_151 (by decide) (fun c53 => ?_) (fun c53 => ?_)
          · replace h := am_ifp c53 h
            refine ev_iload_n 0 dX12_holds_180 rfl ?_
            refine ev_iconst dX12_holds_181 rfl ?_
            refine ev_icmp_ge 196 dX12_holds_182 (by decide) (fun c54 => ?_) (fun c54 => ?_)
            · replace h := am_ifp c54 h
              refine ev_iconst dX12_holds_196 rfl ?_
              refine ev_istore (ls' := [(5, .int (-1 : Int32)), (2, .int a2), (3, .int x45), (4, .int x46)]) dX12_holds_197 (by decide) rfl ?_
              refine ev_ldcw dX12_holds_199 kI_X12_475 ?_
              refine ev_istore (ls' := [(6, .int (100000000 : Int32)), (5, .int (-1 : Int32)), (2, .int a2), (3, .int x45), (4, .int x46)]) dX12_holds_202 (by decide) rfl ?_
              refine ev_iload_n 3 dX12_holds_204 rfl ?_
              refine ev_iconst dX12_holds_205 rfl ?_
              refine ev_iadd dX12_holds_206 ?_
              refine am_let_elim (P := fun x55 => am_Ev zr MX12_holds 2 207 [(6, .int (100000000 : Int32)), (5, .int (-1 : Int32)), (2, .int a2), (3, .int x45), (4, .int x46)] [.int x55] g47 (am_ri r)) h fun x55 h => ?_
              refine ev_istore (ls' := [(7, .int x55), (6, .int (100000000 : Int32)), (5, .int (-1 : Int32)), (2, .int a2), (3, .int x45), (4, .int x46)]) dX12_holds_207 (by decide) rfl ?_
              refine ev_sub [4, 5, 2, 1, 0] rfl ?_
              exact tfX12_holds_L209 x45 x46 _ _ _ _ _ _ h
            · replace h := am_ifn c54 h
              refine ev_iload_n 0 dX12_holds_185 rfl ?_
              refine ev_if_ne 193 dX12_holds_186 (by decide) (fun c74 => ?_) (fun c74 => ?_)
              · replace h := am_ifn c74 h
                refine ev_iload 2 dX12_holds_193 rfl ?_
                cases h
                exact ev_iret dX12_holds_195 rfl
              · replace h := am_ifp c74 h
                refine ev_iload_n 1 dX12_holds_189 rfl ?_
                refine ev_goto 195 dX12_holds_190 (by decide) ?_
                cases h
                exact ev_iret dX12_holds_195 rfl
          · replace h := am_ifn c53 h
            refine ev_sub [0, 1, 2] rfl ?_
            exact hj50  _ _ h
    · replace h := am_ifp c9 h
      refine ev_iconst dX12_holds_24 rfl ?_
      cases h
      exact ev_iret dX12_holds_25 rfl
theorem tX12_holds {a1 : Int32} {a2 : Int32} {g : am_G} {r : Int32 × am_G} (h : fX12_holds a1 a2 g = some r) : am_Mt zr MX12_holds 2 [.ref 0, .int a1, .int a2] g (am_ri r) := am_Mt.of rfl (Nat.le_of_ble_eq_true rfl) (eX12_holds _ _ _ _ h)
def fX12_signs_L9 (k : Int32 → am_G → Option (Int32 × am_G)) : Nat → Int32 → Int32 → am_G → Option (Int32 × am_G)
  | 0, _, _, _ => none
  | n + 1, x2, x3, g4 =>
    am_gd (am_in (0 : Int32) 5660) <|
    if (am_I g4 2 (0 : Int32).toNatClampNeg) ≤ x3 then (
      k x2 g4)
    else (
      am_bd (fX12_ofWord x3 (3 : Int32) g4) fun v9 g10 =>
      am_jn (fun (x13 : Int32) (g14 : am_G) =>
        am_let (x3 + (1 : Int32)) fun x16 =>
        fX12_signs_L9 k n x13 x16 g14) fun j15 =>
      if v9 ≤ 0 then (
        j15 x2 g10)
      else (
        am_bd (fX12_ofWord x3 (3 : Int32) g10) fun v17 g18 =>
        am_gd (am_in x2 16) <|
        am_let (am_si g18 32 x2.toNatClampNeg v17) fun g21 =>
        am_let (x2 + (1 : Int32)) fun x22 =>
        j15 x22 g21))
def fX12_signs_L83 (k : Int32 → am_G → Option (Int32 × am_G)) (x29 : Int32) (x30 : Int32) (x33 : Int32) : Nat → Int32 → Int32 → am_G → Option (Int32 × am_G)
  | 0, _, _, _ => none
  | n + 1, x37, x38, g39 =>
    if x29 ≤ x38 then (
      k x37 g39)
    else (
      am_gd (am_in x38 16) <|
      am_gd (am_in x37 16) <|
      am_jn (fun (x46 : Int32) (g47 : am_G) =>
        am_let (x38 + (1 : Int32)) fun x49 =>
        fX12_signs_L83 k x29 x30 x33 n x46 x49 g47) fun j48 =>
      if (am_I g39 32 x37.toNatClampNeg) ≤ (am_I g39 32 x38.toNatClampNeg) then (
        j48 x37 g39)
      else (
        j48 x38 g39))
def fX12_signs_L72 (k : am_G → Option (Int32 × am_G)) (x29 : Int32) (x30 : Int32) : Nat → Int32 → am_G → Option (Int32 × am_G)
  | 0, _, _ => none
  | n + 1, x33, g34 =>
    if (2 : Int32) ≤ x33 then (
      k g34)
    else (
      fX12_signs_L83 (fun (x50 : Int32) (g51 : am_G) =>
        am_gd (am_in x33 16) <|
        am_let (am_I g51 32 x33.toNatClampNeg) fun x53 =>
        am_gd (am_in x50 16) <|
        am_gd (am_in x33 16) <|
        am_let (am_si g51 32 x33.toNatClampNeg (am_I g51 32 x50.toNatClampNeg)) fun g56 =>
        am_gd (am_in x50 16) <|
        am_let (am_si g56 32 x50.toNatClampNeg x53) fun g58 =>
        am_let (x33 + (1 : Int32)) fun x59 =>
        fX12_signs_L72 k x29 x30 n x59 g58) x29 x30 x33 am_fu x33 x33 g34)
def fX12_signs_L65 : Nat → Int32 → Int32 → am_G → Option (Int32 × am_G)
  | 0, _, _, _ => none
  | n + 1, x29, x30, g31 =>
    if x29 ≤ (1 : Int32) then (
      some (x30, g31))
    else (
      fX12_signs_L72 (fun  (g60 : am_G) =>
        am_gd (am_in (0 : Int32) 16) <|
        am_gd (am_in (1 : Int32) 16) <|
        am_let ((am_I g60 32 (0 : Int32).toNatClampNeg) + (am_I g60 32 (1 : Int32).toNatClampNeg)) fun x63 =>
        am_let (x30 + x63) fun x64 =>
        am_gd (am_in (0 : Int32) 16) <|
        am_let (am_si g60 32 (0 : Int32).toNatClampNeg x63) fun g66 =>
        am_gd (am_in (x29 - (1 : Int32)) 16) <|
        am_gd (am_in (1 : Int32) 16) <|
        am_let (am_si g66 32 (1 : Int32).toNatClampNeg (am_I g66 32 (x29 - (1 : Int32)).toNatClampNeg)) fun g69 =>
        am_let (x29 + (-1 : Int32)) fun x70 =>
        fX12_signs_L65 n x70 x64 g69) x29 x30 am_fu (0 : Int32) g31)
def fX12_signs (g : am_G) : Option (Int32 × am_G) :=
  am_let (am_si g 0 0 (0 : Int32)) fun g1 =>
  fX12_signs_L9 (fun (x23 : Int32) (g24 : am_G) =>
    am_jn (fun (x26 : Int32) (g27 : am_G) =>
      fX12_signs_L65 am_fu x23 x26 g27) fun j28 =>
    if x23 = (1 : Int32) then (
      am_gd (am_in (0 : Int32) 16) <|
      j28 (am_I g24 32 (0 : Int32).toNatClampNeg) g24)
    else (
      j28 (0 : Int32) g24)) am_fu (0 : Int32) (0 : Int32) g1
set_option maxRecDepth 100000 in
set_option maxHeartbeats 4000000 in
theorem tfX12_signs_L9  {k : Int32 → am_G → Option (Int32 × am_G)} (hk : ∀ (x5 : Int32) (g6 : am_G) (r : Int32 × am_G), k x5 g6 = some r → am_Ev zr MX12_signs 1 49 [(0, .ref 0), (1, .int x5)] [] g6 (am_ri r)) : ∀ (n : Nat) (x2 : Int32) (x3 : Int32) (g4 : am_G) (r : Int32 × am_G), fX12_signs_L9 k n x2 x3 g4 = some r → am_Ev zr MX12_signs 1 9 [(0, .ref 0), (1, .int x2), (2, .int x3)] [] g4 (am_ri r) := by
  intro n
  induction n with
  | zero => intro x2 x3 g4 r h; exact nomatch (show (none : Option (Int32 × am_G)) = some r from h)
  | succ n ih =>
    intro x2 x3 g4 r h
    rw [fX12_signs_L9] at h
    refine ev_iload_n 2 dX12_signs_9 rfl ?_
    refine ev_aload_n 0 dX12_signs_10 rfl ?_
    refine ev_gf (v := .ref 2) dX12_signs_11 (fun h9 => (h9.2.1 0 _ rfl).2) 3 (by decide) (by decide) kF_X12_13 (fun h9 => congrArg va_rf (h9.2.2 0 3 2 rfl)) ?_
    refine ev_iconst dX12_signs_14 rfl ?_
    obtain ⟨c7, h⟩ := am_gd_elim h
    refine ev_iald dX12_signs_15 (fun h9 => (h9.2.1 2 _ rfl).2) (am_in_vp c7) ?_
    refine ev_icmp_ge 49 dX12_signs_16 (by decide) (fun c8 => ?_) (fun c8 => ?_)
    · replace h := am_ifp c8 h
      refine ev_sub [0, 1] rfl ?_
      exact hk _ _ _ h
    · replace h := am_ifn c8 h
      refine ev_aload_n 0 dX12_signs_19 rfl ?_
      refine ev_iload_n 2 dX12_signs_20 rfl ?_
      refine ev_iconst dX12_signs_21 rfl ?_
      obtain ⟨v9, g10, e11, h⟩ := am_bd_elim h
      refine ev_callVi (v := v9) [.int x3, .int (3 : Int32)] [] dX12_signs_22 (tX12_ofWord e11) (by decide) mo_X12_ofWord kM_X12_220 ki_X12_ofWord kv_X12_ofWord (fun h9 => (h9.2.1 0 _ rfl).2) (by decide) rfl (Nat.le_of_ble_eq_true rfl) ?_
      refine am_jn_elim (fun q9 => ∀ (x13 : Int32) (g14 : am_G) (r : Int32 × am_G), q9 x13 g14 = some r → am_Ev zr MX12_signs 1 43 [(0, .ref 0), (1, .int x13), (2, .int x3)] [] g14 (am_ri r)) h ?_ (fun j15 hj15 h => ?_)
      · intro x13 g14 r h
        try dsimp only at h
        obtain ⟨x16, ex16, h⟩ := am_let_ex h
        refine ev_iinc (ls' := [(2, .int x16), (0, .ref 0), (1, .int x13)]) 2 dX12_signs_43 rfl ex16 (by decide) rfl ?_
        refine ev_goto 9 dX12_signs_46 (by decide) ?_
        refine ev_sub [1, 2, 0] rfl ?_
        exact ih _ _ _ _ h
      · refine ev_if_le 43 dX12_signs_25 (by decide) (fun c12 => ?_) (fun c12 => ?_)
        · replace h := am_ifp c12 h
          refine ev_sub [0, 1, 2] rfl ?_
          exact hj15 _ _ _ h
        · replace h := am_ifn c12 h
          refine ev_aload_n 0 dX12_signs_28 rfl ?_
          refine ev_gf (v := .ref 32) dX12_signs_29 (fun h9 => (h9.2.1 0 _ rfl).2) 54 (by decide) (by decide) kF_X12_147 (fun h9 => congrArg va_rf (h9.2.2 0 54 32 rfl)) ?_
          refine ev_iload_n 1 dX12_signs_32 rfl ?_
          refine ev_aload_n 0 dX12_signs_33 rfl ?_
          refine ev_iload_n 2 dX12_signs_34 rfl ?_
          refine ev_iconst dX12_signs_35 rfl ?_
          obtain ⟨v17, g18, e19, h⟩ := am_bd_elim h
          refine ev_callVi (v := v17) [.int x3, .int (3 : Int32)] [.int x2, .ref 32] dX12_signs_36 (tX12_ofWord e19) (by decide) mo_X12_ofWord kM_X12_220 ki_X12_ofWord kv_X12_ofWord (fun h9 => (h9.2.1 0 _ rfl).2) (by decide) rfl (Nat.le_of_ble_eq_true rfl) ?_
          obtain ⟨c20, h⟩ := am_gd_elim h
          refine ev_iast dX12_signs_39 (fun h9 => (h9.2.1 32 _ rfl).2) (am_in_vp c20) ?_
          refine am_let_elim (P := fun g21 => am_Ev zr MX12_signs 1 40 [(0, .ref 0), (1, .int x2), (2, .int x3)] [] g21 (am_ri r)) h fun g21 h => ?_
          obtain ⟨x22, ex22, h⟩ := am_let_ex h
          refine ev_iinc (ls' := [(1, .int x22), (0, .ref 0), (2, .int x3)]) 1 dX12_signs_40 rfl ex22 (by decide) rfl ?_
          refine ev_sub [1, 0, 2] rfl ?_
          exact hj15 _ _ _ h
set_option maxRecDepth 100000 in
set_option maxHeartbeats 4000000 in
theorem tfX12_signs_L83  {k : Int32 → am_G → Option (Int32 × am_G)} (x29 : Int32) (x30 : Int32) (x33 : Int32) (hk : ∀ (x40 : Int32) (g41 : am_G) (r : Int32 × am_G), k x40 g41 = some r → am_Ev zr MX12_signs 1 121 [(0, .ref 0), (1, .int x29), (2, .int x30), (3, .int x33), (4, .int x40)] [] g41 (am_ri r)) : ∀ (n : Nat) (x37 : Int32) (x38 : Int32) (g39 : am_G) (r : Int32 × am_G), fX12_signs_L83 k x29 x30 x33 n x37 x38 g39 = some r → am_Ev zr MX12_signs 1 83 [(0, .ref 0), (1, .int x29), (2, .int x30), (3, .int x33), (4, .int x37), (5, .int x38)] [] g39 (am_ri r) := by
  intro n
  induction n with
  | zero => intro x37 x38 g39 r h; exact nomatch (show (none : Option (Int32 × am_G)) = some r from h)
  | succ n ih =>
    intro x37 x38 g39 r h
    rw [fX12_signs_L83] at h
    refine ev_iload 5 dX12_signs_83 rfl ?_
    refine ev_iload_n 1 dX12_signs_85 rfl ?_
    refine ev_icmp_ge 121 dX12_signs_86 (by decide) (fun c42 => ?_) (fun c42 => ?_)
    · replace h := am_ifp c42 h
      refine ev_sub [0, 1, 2, 3, 4] rfl ?_
      exact hk _ _ _ h
    · replace h := am_ifn c42 h
      refine ev_aload_n 0 dX12_signs_89 rfl ?_
      refine ev_gf (v := .ref 32) dX12_signs_90 (fun h9 => (h9.2.1 0 _ rfl).2) 54 (by decide) (by decide) kF_X12_147 (fun h9 => congrArg va_rf (h9.2.2 0 54 32 rfl)) ?_
      refine ev_iload 5 dX12_signs_93 rfl ?_
      obtain ⟨c43, h⟩ := am_gd_elim h
      refine ev_iald dX12_signs_95 (fun h9 => (h9.2.1 32 _ rfl).2) (am_in_vp c43) ?_
      refine ev_aload_n 0 dX12_signs_96 rfl ?_
      refine ev_gf (v := .ref 32) dX12_signs_97 (fun h9 => (h9.2.1 0 _ rfl).2) 54 (by decide) (by decide) kF_X12_147 (fun h9 => congrArg va_rf (h9.2.2 0 54 32 rfl)) ?_
      refine ev_iload 4 dX12_signs_100 rfl ?_
      obtain ⟨c44, h⟩ := am_gd_elim h
      refine ev_iald dX12_signs_102 (fun h9 => (h9.2.1 32 _ rfl).2) (am_in_vp c44) ?_
      refine am_jn_elim (fun q9 => ∀ (x46 : Int32) (g47 : am_G) (r : Int32 × am_G), q9 x46 g47 = some r → am_Ev zr MX12_signs 1 113 [(0, .ref 0), (1, .int x29), (2, .int x30), (3, .int x33), (5, .int x38)] [.int x46] g47 (am_ri r)) h ?_ (fun j48 hj48 h => ?_)
      · intro x46 g47 r h
        try dsimp only at h
        refine ev_istore (ls' := [(4, .int x46), (0, .ref 0), (1, .int x29), (2, .int x30), (3, .int x33), (5, .int x38)]) dX12_signs_113 (by decide) rfl ?_
        obtain ⟨x49, ex49, h⟩ := am_let_ex h
        refine ev_iinc (ls' := [(5, .int x49), (4, .int x46), (0, .ref 0), (1, .int x29), (2, .int x30), (3, .int x33)]) 5 dX12_signs_115 rfl ex49 (by decide) rfl ?_
        refine ev_goto 83 dX12_signs_118 (by decide) ?_
        refine ev_sub [2, 3, 4, 5, 1, 0] rfl ?_
        exact ih _ _ _ _ h
      · refine ev_icmp_ge 111 dX12_signs_103 (by decide) (fun c45 => ?_) (fun c45 => ?_)
        · replace h := am_ifp c45 h
          refine ev_iload 4 dX12_signs_111 rfl ?_
          refine ev_sub [0, 1, 2, 3, 5] rfl ?_
          exact hj48 _ _ _ h
        · replace h := am_ifn c45 h
          refine ev_iload 5 dX12_signs_106 rfl ?_
          refine ev_goto 113 dX12_signs_108 (by decide) ?_
          refine ev_sub [0, 1, 2, 3, 5] rfl ?_
          exact hj48 _ _ _ h
set_option maxRecDepth 100000 in
set_option maxHeartbeats 4000000 in
theorem tfX12_signs_L72  {k : am_G → Option (Int32 × am_G)} (x29 : Int32) (x30 : Int32) (hk : ∀  (g35 : am_G) (r : Int32 × am_G), k  g35 = some r → am_Ev zr MX12_signs 1 157 [(0, .ref 0), (1, .int x29), (2, .int x30)] [] g35 (am_ri r)) : ∀ (n : Nat) (x33 : Int32) (g34 : am_G) (r : Int32 × am_G), fX12_signs_L72 k x29 x30 n x33 g34 = some r → am_Ev zr MX12_signs 1 72 [(0, .ref 0), (1, .int x29), (2, .int x30), (3, .int x33)] [] g34 (am_ri r) := by
  intro n
  induction n with
  | zero => intro x33 g34 r h; exact nomatch (show (none : Option (Int32 × am_G)) = some r from h)
  | succ n ih =>
    intro x33 g34 r h
    rw [fX12_signs_L72] at h
    refine ev_iload_n 3 dX12_signs_72 rfl ?_
    refine ev_iconst dX12_signs_73 rfl ?_
    refine ev_icmp_ge 157 dX12_signs_74 (by decide) (fun c36 => ?_) (fun c36 => ?_)
    · replace h := am_ifp c36 h
      refine ev_sub [0, 1, 2] rfl ?_
      exact hk  _ _ h
    · replace h := am_ifn c36 h
      refine ev_iload_n 3 dX12_signs_77 rfl ?_
      refine ev_istore (ls' := [(4, .int x33), (0, .ref 0), (1, .int x29), (2, .int x30), (3, .int x33)]) dX12_signs_78 (by decide) rfl ?_
      refine ev_iload_n 4 dX12_signs_80 rfl ?_
      refine ev_istore (ls' := [(5, .int x33), (4, .int x33), (0, .ref 0), (1, .int x29), (2, .int x30), (3, .int x33)]) dX12_signs_81 (by decide) rfl ?_
      refine ev_sub [2, 3, 4, 5, 1, 0] rfl ?_
      refine tfX12_signs_L83 x29 x30 x33 ?_ _ _ _ _ _ h
      intro x50 g51 r h
      try dsimp only at h
      refine ev_aload_n 0 dX12_signs_121 rfl ?_
      refine ev_gf (v := .ref 32) dX12_signs_122 (fun h9 => (h9.2.1 0 _ rfl).2) 54 (by decide) (by decide) kF_X12_147 (fun h9 => congrArg va_rf (h9.2.2 0 54 32 rfl)) ?_
      refine ev_iload_n 3 dX12_signs_125 rfl ?_
      obtain ⟨c52, h⟩ := am_gd_elim h
      refine ev_iald dX12_signs_126 (fun h9 => (h9.2.1 32 _ rfl).2) (am_in_vp c52) ?_
      refine am_let_elim (P := fun x53 => am_Ev zr MX12_signs 1 127 [(0, .ref 0), (1, .int x29), (2, .int x30), (3, .int x33), (4, .int x50)] [.int x53] g51 (am_ri r)) h fun x53 h => ?_
      refine ev_istore (ls' := [(5, .int x53), (0, .ref 0), (1, .int x29), (2, .int x30), (3, .int x33), (4, .int x50)]) dX12_signs_127 (by decide) rfl ?_
      refine ev_aload_n 1 dX12_signs_129 rfl ?_
      refine ev_gf (v := .ref 32) dX12_signs_130 (fun h9 => (h9.2.1 0 _ rfl).2) 54 (by decide) (by decide) kF_X12_147 (fun h9 => congrArg va_rf (h9.2.2 0 54 32 rfl)) ?_
      refine ev_iload_n 4 dX12_signs_133 rfl ?_
      refine ev_aload_n 1 dX12_signs_134 rfl ?_
      refine ev_gf (v := .ref 32) dX12_signs_135 (fun h9 => (h9.2.1 0 _ rfl).2) 54 (by decide) (by decide) kF_X12_147 (fun h9 => congrArg va_rf (h9.2.2 0 54 32 rfl)) ?_
      refine ev_iload 5 dX12_signs_138 rfl ?_
      obtain ⟨c54, h⟩ := am_gd_elim h
      refine ev_iald dX12_signs_140 (fun h9 => (h9.2.1 32 _ rfl).2) (am_in_vp c54) ?_
      obtain ⟨c55, h⟩ := am_gd_elim h
      refine ev_iast dX12_signs_141 (fun h9 => (h9.2.1 32 _ rfl).2) (am_in_vp c55) ?_
      refine am_let_elim (P := fun g56 => am_Ev zr MX12_signs 1 142 [(5, .int x53), (0, .ref 0), (1, .int x29), (2, .int x30), (3, .int x33), (4, .int x50)] [] g56 (am_ri r)) h fun g56 h => ?_
      refine ev_aload_n 1 dX12_signs_142 rfl ?_
      refine ev_gf (v := .ref 32) dX12_signs_143 (fun h9 => (h9.2.1 0 _ rfl).2) 54 (by decide) (by decide) kF_X12_147 (fun h9 => congrArg va_rf (h9.2.2 0 54 32 rfl)) ?_
      refine ev_iload 5 dX12_signs_146 rfl ?_
      refine ev_iload 0 dX12_signs_148 rfl ?_
      obtain ⟨c57, h⟩ := am_gd_elim h
      refine ev_iast dX12_signs_150 (fun h9 => (h9.2.1 32 _ rfl).2) (am_in_vp c57) ?_
      refine am_let_elim (P := fun g58 => am_Ev zr MX12_signs 1 151 [(5, .int x53), (0, .ref 0), (1, .int x29), (2, .int x30), (3, .int x33), (4, .int x50)] [] g58 (am_ri r)) h fun g58 h => ?_
      obtain ⟨x59, ex59, h⟩ := am_let_ex h
      refine ev_iinc (ls' := [(3, .int x59), (5, .int x53), (0, .ref 0), (1, .int x29), (2, .int x30), (4, .int x50)]) 4 dX12_signs_151 rfl ex59 (by decide) rfl ?_
      refine ev_goto 72 dX12_signs_154 (by decide) ?_
      refine ev_sub [2, 3, 4, 0] rfl ?_
      exact ih _ _ _ h
set_option maxRecDepth 100000 in
set_option maxHeartbeats 4000000 in
theorem tfX12_signs_L65  : ∀ (n : Nat) (x29 : Int32) (x30 : Int32) (g31 : am_G) (r : Int32 × am_G), fX12_signs_L65 n x29 x30 g31 = some r → am_Ev zr MX12_signs 1 65 [(0, .ref 0), (1, .int x29), (2, .int x30)] [] g31 (am_ri r) := by
  intro n
  induction n with
  | zero => intro x29 x30 g31 r h; exact nomatch (show (none : Option (Int32 × am_G)) = some r from h)
  | succ n ih =>
    intro x29 x30 g31 r h
    rw [fX12_signs_L65] at h
    refine ev_iload_n 1 dX12_signs_65 rfl ?_
    refine ev_iconst dX12_signs_66 rfl ?_
    refine ev_icmp_le 202 dX12_signs_67 (by decide) (fun c32 => ?_) (fun c32 => ?_)
    · replace h := am_ifp c32 h
      refine ev_iload_n 2 dX12_signs_202 rfl ?_
      cases h
      exact ev_iret dX12_signs_203 rfl
    · replace h := am_ifn c32 h
      refine ev_iconst dX12_signs_70 rfl ?_
      refine ev_istore_n (ls' := [(3, .int (0 : Int32)), (0, .ref 0), (1, .int x29), (2, .int x30)]) dX12_signs_71 rfl (by decide) rfl ?_
      refine ev_sub [1, 2, 3, 0] rfl ?_
      refine tfX12_signs_L72 x29 x30 ?_ _ _ _ _ h
      intro  g60 r h
      try dsimp only at h
      refine ev_aload_n 0 dX12_signs_157 rfl ?_
      refine ev_gf (v := .ref 32) dX12_signs_158 (fun h9 => (h9.2.1 0 _ rfl).2) 54 (by decide) (by decide) kF_X12_147 (fun h9 => congrArg va_rf (h9.2.2 0 54 32 rfl)) ?_
      refine ev_iconst dX12_signs_161 rfl ?_
      obtain ⟨c61, h⟩ := am_gd_elim h
      refine ev_iald dX12_signs_162 (fun h9 => (h9.2.1 32 _ rfl).2) (am_in_vp c61) ?_
      refine ev_aload_n 0 dX12_signs_163 rfl ?_
      refine ev_gf (v := .ref 32) dX12_signs_164 (fun h9 => (h9.2.1 0 _ rfl).2) 54 (by decide) (by decide) kF_X12_147 (fun h9 => congrArg va_rf (h9.2.2 0 54 32 rfl)) ?_
      refine ev_iconst dX12_signs_167 rfl ?_
      obtain ⟨c62, h⟩ := am_gd_elim h
      refine ev_iald dX12_signs_168 (fun h9 => (h9.2.1 32 _ rfl).2) (am_in_vp c62) ?_
      refine ev_iadd dX12_signs_169 ?_
      refine am_let_elim (P := fun x63 => am_Ev zr MX12_signs 1 170 [(0, .ref 0), (1, .int x29), (2, .int x30)] [.int x63] g60 (am_ri r)) h fun x63 h => ?_
      refine ev_istore_n (ls' := [(3, .int x63), (0, .ref 0), (1, .int x29), (2, .int x30)]) dX12_signs_170 rfl (by decide) rfl ?_
      refine ev_iload_n 3 dX12_signs_171 rfl ?_
      refine ev_iload_n 0 dX12_signs_172 rfl ?_
      refine ev_iadd dX12_signs_173 ?_
      refine am_let_elim (P := fun x64 => am_Ev zr MX12_signs 1 174 [(3, .int x63), (0, .ref 0), (1, .int x29), (2, .int x30)] [.int x64] g60 (am_ri r)) h fun x64 h => ?_
      refine ev_istore_n (ls' := [(2, .int x64), (3, .int x63), (0, .ref 0), (1, .int x29)]) dX12_signs_174 rfl (by decide) rfl ?_
      refine ev_aload_n 2 dX12_signs_175 rfl ?_
      refine ev_gf (v := .ref 32) dX12_signs_176 (fun h9 => (h9.2.1 0 _ rfl).2) 54 (by decide) (by decide) kF_X12_147 (fun h9 => congrArg va_rf (h9.2.2 0 54 32 rfl)) ?_
      refine ev_iconst dX12_signs_179 rfl ?_
      refine ev_iload_n 1 dX12_signs_180 rfl ?_
      obtain ⟨c65, h⟩ := am_gd_elim h
      refine ev_iast dX12_signs_181 (fun h9 => (h9.2.1 32 _ rfl).2) (am_in_vp c65) ?_
      refine am_let_elim (P := fun g66 => am_Ev zr MX12_signs 1 182 [(2, .int x64), (3, .int x63), (0, .ref 0), (1, .int x29)] [] g66 (am_ri r)) h fun g66 h => ?_
      refine ev_aload_n 2 dX12_signs_182 rfl ?_
      refine ev_gf (v := .ref 32) dX12_signs_183 (fun h9 => (h9.2.1 0 _ rfl).2) 54 (by decide) (by decide) kF_X12_147 (fun h9 => congrArg va_rf (h9.2.2 0 54 32 rfl)) ?_
      refine ev_iconst dX12_signs_186 rfl ?_
      refine ev_aload_n 2 dX12_signs_187 rfl ?_
      refine ev_gf (v := .ref 32) dX12_signs_188 (fun h9 => (h9.2.1 0 _ rfl).2) 54 (by decide) (by decide) kF_X12_147 (fun h9 => congrArg va_rf (h9.2.2 0 54 32 rfl)) ?_
      refine ev_iload_n 3 dX12_signs_191 rfl ?_
      refine ev_iconst dX12_signs_192 rfl ?_
      refine ev_isub dX12_signs_193 ?_
      obtain ⟨c67, h⟩ := am_gd_elim h
      refine ev_iald dX12_signs_194 (fun h9 => (h9.2.1 32 _ rfl).2) (am_in_vp c67) ?_
      obtain ⟨c68, h⟩ := am_gd_elim h
      refine ev_iast dX12_signs_195 (fun h9 => (h9.2.1 32 _ rfl).2) (am_in_vp c68) ?_
      refine am_let_elim (P := fun g69 => am_Ev zr MX12_signs 1 196 [(2, .int x64), (3, .int x63), (0, .ref 0), (1, .int x29)] [] g69 (am_ri r)) h fun g69 h => ?_
      obtain ⟨x70, ex70, h⟩ := am_let_ex h
      refine ev_iinc (ls' := [(1, .int x70), (2, .int x64), (3, .int x63), (0, .ref 0)]) 3 dX12_signs_196 rfl ex70 (by decide) rfl ?_
      refine ev_goto 65 dX12_signs_199 (by decide) ?_
      refine ev_sub [3, 0, 1] rfl ?_
      exact ih _ _ _ _ h
set_option maxRecDepth 100000 in
set_option maxHeartbeats 4000000 in
theorem eX12_signs (g : am_G) (r : Int32 × am_G) (h : fX12_signs g = some r) : am_Ev zr MX12_signs 1 0 [(0, .ref 0)] [] g (am_ri r) := by
  unfold fX12_signs at h
  refine ev_aload_n 0 dX12_signs_0 rfl ?_
  refine ev_iconst dX12_signs_1 rfl ?_
  refine ev_pfi dX12_signs_2 (fun h9 => (h9.2.1 0 _ rfl).2) 0 (by decide) (by decide) kF_X12_163 rfl rfl rfl (fun _ => rfl) ?_
  refine am_let_elim (P := fun g1 => am_Ev zr MX12_signs 1 5 [(0, .ref 0)] [] g1 (am_ri r)) h fun g1 h => ?_
  refine ev_iconst dX12_signs_5 rfl ?_
  refine ev_istore_n (ls' := [(1, .int (0 : Int32)), (0, .ref 0)]) dX12_signs_6 rfl (by decide) rfl ?_
  refine ev_iconst dX12_signs_7 rfl ?_
  refine ev_istore_n (ls' := [(2, .int (0 : Int32)), (1, .int (0 : Int32)), (0, .ref 0)]) dX12_signs_8 rfl (by decide) rfl ?_
  refine ev_sub [2, 1, 0] rfl ?_
  refine tfX12_signs_L9 ?_ _ _ _ _ _ h
  intro x23 g24 r h
  try dsimp only at h
  refine ev_iload_n 1 dX12_signs_49 rfl ?_
  refine ev_iconst dX12_signs_50 rfl ?_
  refine am_jn_elim (fun q9 => ∀ (x26 : Int32) (g27 : am_G) (r : Int32 × am_G), q9 x26 g27 = some r → am_Ev zr MX12_signs 1 64 [(0, .ref 0), (1, .int x23)] [.int x26] g27 (am_ri r)) h ?_ (fun j28 hj28 h => ?_)
  · intro x26 g27 r h
    try dsimp only at h
    refine ev_istore_n (ls' := [(2, .int x26), (0, .ref 0), (1, .int x23)]) dX12_signs_64 rfl (by decide) rfl ?_
    refine ev_sub [1, 2, 0] rfl ?_
    exact tfX12_signs_L65 _ _ _ _ _ h
  · refine ev_icmp_ne 63 dX12_signs_51 (by decide) (fun c25 => ?_) (fun c25 => ?_)
    · replace h := am_ifn c25 h
      refine ev_iconst dX12_signs_63 rfl ?_
      refine ev_sub [0, 1] rfl ?_
      exact hj28 _ _ _ h
    · replace h := am_ifp c25 h
      refine ev_aload_n 0 dX12_signs_54 rfl ?_
      refine ev_gf (v := .ref 32) dX12_signs_55 (fun h9 => (h9.2.1 0 _ rfl).2) 54 (by decide) (by decide) kF_X12_147 (fun h9 => congrArg va_rf (h9.2.2 0 54 32 rfl)) ?_
      refine ev_iconst dX12_signs_58 rfl ?_
      obtain ⟨c71, h⟩ := am_gd_elim h
      refine ev_iald dX12_signs_59 (fun h9 => (h9.2.1 32 _ rfl).2) (am_in_vp c71) ?_
      refine ev_goto 64 dX12_signs_60 (by decide) ?_
      refine ev_sub [0, 1] rfl ?_
      exact hj28 _ _ _ h
theorem tX12_signs {g : am_G} {r : Int32 × am_G} (h : fX12_signs g = some r) : am_Mt zr MX12_signs 1 [.ref 0] g (am_ri r) := am_Mt.of rfl (Nat.le_of_ble_eq_true rfl) (eX12_signs _ _ h)
