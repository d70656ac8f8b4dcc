def fX12_law_L37 (k : am_G → Option (Int32 × am_G)) : Nat → am_G → Option (Int32 × am_G)
  | 0, _ => none
  | n + 1, g10 =>
    if (am_I g10 0 19) = 0 then (
      am_bd (fX12_isSign (59 : Int32) g10) fun v13 g14 =>
      if v13 = 0 then (
        k g14)
      else (
        am_bd (fX12_next g14) fun u17 g18 =>
        am_bd (fX12_readLaw g18) fun u20 g21 =>
        fX12_law_L37 k n g21))
    else (
      k g10)
def fX12_law_L111 (k : am_G → Option (Int32 × am_G)) (x29 : Int32) : Nat → Int32 → am_G → Option (Int32 × am_G)
  | 0, _, _ => none
  | n + 1, x32, g33 =>
    if ((8 : Int32) * (am_I g33 0 21)) ≤ x32 then (
      k g33)
    else (
      am_gd (am_in x32 96) <|
      am_gd (am_in ((x29 + (2 : Int32)) + x32) 5660) <|
      am_let (am_si g33 2 ((x29 + (2 : Int32)) + x32).toNatClampNeg (am_I g33 10 x32.toNatClampNeg)) fun g38 =>
      am_let (x32 + (1 : Int32)) fun x39 =>
      fX12_law_L111 k x29 n x39 g38)
def fX12_law_L146 (k : am_G → Option (Int32 × am_G)) (x29 : Int32) : Nat → Int32 → am_G → Option (Int32 × am_G)
  | 0, _, _ => none
  | n + 1, x41, g42 =>
    if (am_I g42 0 23) ≤ x41 then (
      k g42)
    else (
      am_gd (am_in x41 400) <|
      am_gd (am_in ((x29 + (98 : Int32)) + ((2 : Int32) * x41)) 5660) <|
      am_let (am_si g42 2 ((x29 + (98 : Int32)) + ((2 : Int32) * x41)).toNatClampNeg (am_I g42 11 x41.toNatClampNeg)) fun g47 =>
      am_gd (am_in x41 400) <|
      am_gd (am_in (((x29 + (98 : Int32)) + ((2 : Int32) * x41)) + (1 : Int32)) 5660) <|
      am_let (am_si g47 2 (((x29 + (98 : Int32)) + ((2 : Int32) * x41)) + (1 : Int32)).toNatClampNeg (am_I g47 12 x41.toNatClampNeg)) fun g50 =>
      am_let (x41 + (1 : Int32)) fun x51 =>
      fX12_law_L146 k x29 n x51 g50)
def fX12_law (g : am_G) : Option (Int32 × am_G) :=
  am_let (am_si g 0 0 (0 : Int32)) fun g1 =>
  am_gd (am_in (4 : Int32) 5660) <|
  if (am_I g1 2 (4 : Int32).toNatClampNeg) = (6 : Int32) then (
    am_let (am_si g1 0 13 (0 : Int32)) fun g63 =>
    am_bd (fX12_tell (-5 : Int32) g63) fun v64 g65 =>
    some (v64, g65))
  else (
    am_bd (fX12_beginText (0 : Int32) g1) fun u4 g5 =>
    am_bd (fX12_readLaw g5) fun u7 g8 =>
    fX12_law_L37 (fun  (g23 : am_G) =>
      am_bd (fX12_endText g23) fun u24 g25 =>
      if (am_I g25 0 19) = 0 then (
        am_gd (am_in (4 : Int32) 5660) <|
        am_let ((260 : Int32) + ((900 : Int32) * (am_I g25 2 (4 : Int32).toNatClampNeg))) fun x29 =>
        am_gd (am_in (x29 + (1 : Int32)) 5660) <|
        am_let (am_si g25 2 (x29 + (1 : Int32)).toNatClampNeg (am_I g25 0 21)) fun g31 =>
        fX12_law_L111 (fun  (g40 : am_G) =>
          fX12_law_L146 (fun  (g52 : am_G) =>
            am_gd (am_in (4 : Int32) 5660) <|
            am_gd (am_in (4 : Int32) 5660) <|
            am_let (am_si g52 2 (4 : Int32).toNatClampNeg ((am_I g52 2 (4 : Int32).toNatClampNeg) + (1 : Int32))) fun g55 =>
            am_gd (am_in (4 : Int32) 5660) <|
            am_bd (fX12_tell ((am_I g55 2 (4 : Int32).toNatClampNeg) - (1 : Int32)) g55) fun v57 g58 =>
            some (v57, g58)) x29 am_fu (0 : Int32) g40) x29 am_fu (0 : Int32) g31)
      else (
        am_bd (fX12_tell (-6 : Int32) g25) fun v60 g61 =>
        some (v60, g61))) am_fu g8)
set_option maxRecDepth 100000 in
set_option maxHeartbeats 4000000 in
theorem tfX12_law_L37  {k : am_G → Option (Int32 × am_G)} (hk : ∀  (g11 : am_G) (r : Int32 × am_G), k  g11 = some r → am_Ev zr MX12_law 8 64 [(0, .ref 0)] [] g11 (am_ri r)) : ∀ (n : Nat)  (g10 : am_G) (r : Int32 × am_G), fX12_law_L37 k n  g10 = some r → am_Ev zr MX12_law 8 37 [(0, .ref 0)] [] g10 (am_ri r) := by
  intro n
  induction n with
  | zero => intro  g10 r h; exact nomatch (show (none : Option (Int32 × am_G)) = some r from h)
  | succ n ih =>
    intro  g10 r h
    rw [fX12_law_L37] at h
    refine ev_aload_n 0 dX12_law_37 rfl ?_
    refine ev_gf (v := .int (am_I g10 0 19)) dX12_law_38 (fun h9 => (h9.2.1 0 _ rfl).2) 19 (by decide) (by decide) kF_X12_239 (fun _ => rfl) ?_
    refine ev_if_ne 64 dX12_law_41 (by decide) (fun c12 => ?_) (fun c12 => ?_)
    · replace h := am_ifn c12 h
      refine ev_sub [0] rfl ?_
      exact hk  _ _ h
    · replace h := am_ifp c12 h
      refine ev_aload_n 0 dX12_law_44 rfl ?_
      refine ev_bipush dX12_law_45 rfl ?_
      obtain ⟨v13, g14, e15, h⟩ := am_bd_elim h
      refine ev_callVi (v := v13) [.int (59 : Int32)] [] dX12_law_47 (tX12_isSign e15) (by decide) mo_X12_isSign kM_X12_312 ki_X12_isSign kv_X12_isSign (fun h9 => (h9.2.1 0 _ rfl).2) (by decide) rfl (Nat.le_of_ble_eq_true rfl) ?_
      refine ev_if_eq 64 dX12_law_50 (by decide) (fun c16 => ?_) (fun c16 => ?_)
      · replace h := am_ifp c16 h
        refine ev_sub [0] rfl ?_
        exact hk  _ _ h
      · replace h := am_ifn c16 h
        refine ev_aload_n 0 dX12_law_53 rfl ?_
        obtain ⟨u17, g18, e19, h⟩ := am_bd_elim h
        refine ev_callVv [] [] dX12_law_54 (tX12_next e19) (by decide) mo_X12_next kM_X12_243 ki_X12_next kv_X12_next (fun h9 => (h9.2.1 0 _ rfl).2) (by decide) rfl (Nat.le_of_ble_eq_true rfl) ?_
        refine ev_aload_n 0 dX12_law_57 rfl ?_
        obtain ⟨u20, g21, e22, h⟩ := am_bd_elim h
        refine ev_callVv [] [] dX12_law_58 (tX12_readLaw e22) (by decide) mo_X12_readLaw kM_X12_381 ki_X12_readLaw kv_X12_readLaw (fun h9 => (h9.2.1 0 _ rfl).2) (by decide) rfl (Nat.le_of_ble_eq_true rfl) ?_
        refine ev_goto 37 dX12_law_61 (by decide) ?_
        refine ev_sub [0] rfl ?_
        exact ih  _ _ h
set_option maxRecDepth 100000 in
set_option maxHeartbeats 4000000 in
theorem tfX12_law_L111  {k : am_G → Option (Int32 × am_G)} (x29 : Int32) (hk : ∀  (g34 : am_G) (r : Int32 × am_G), k  g34 = some r → am_Ev zr MX12_law 8 144 [(0, .ref 0), (1, .int x29)] [] g34 (am_ri r)) : ∀ (n : Nat) (x32 : Int32) (g33 : am_G) (r : Int32 × am_G), fX12_law_L111 k x29 n x32 g33 = some r → am_Ev zr MX12_law 8 111 [(0, .ref 0), (1, .int x29), (2, .int x32)] [] g33 (am_ri r) := by
  intro n
  induction n with
  | zero => intro x32 g33 r h; exact nomatch (show (none : Option (Int32 × am_G)) = some r from h)
  | succ n ih =>
    intro x32 g33 r h
    rw [fX12_law_L111] at h
    refine ev_iload_n 2 dX12_law_111 rfl ?_
    refine ev_bipush dX12_law_112 rfl ?_
    refine ev_aload_n 0 dX12_law_114 rfl ?_
    refine ev_gf (v := .int (am_I g33 0 21)) dX12_law_115 (fun h9 => (h9.2.1 0 _ rfl).2) 21 (by decide) (by decide) kF_X12_370 (fun _ => rfl) ?_
    refine ev_imul dX12_law_118 ?_
    refine ev_icmp_ge 144 dX12_law_119 (by decide) (fun c35 => ?_) (fun c35 => ?_)
    · replace h := am_ifp c35 h
      refine ev_sub [0, 1] rfl ?_
      exact hk  _ _ h
    · replace h := am_ifn c35 h
      refine ev_aload_n 0 dX12_law_122 rfl ?_
      refine ev_gf (v := .ref 2) dX12_law_123 (fun h9 => (h9.2.1 0 _ rfl).2) 3 (by decide) (by decide) kF_X12_13 (fun h9 => congrArg va_rf (h9.2.2 0 3 2 rfl)) ?_
      refine ev_iload_n 1 dX12_law_126 rfl ?_
      refine ev_iconst dX12_law_127 rfl ?_
      refine ev_iadd dX12_law_128 ?_
      refine ev_iload_n 2 dX12_law_129 rfl ?_
      refine ev_iadd dX12_law_130 ?_
      refine ev_aload_n 0 dX12_law_131 rfl ?_
      refine ev_gf (v := .ref 10) dX12_law_132 (fun h9 => (h9.2.1 0 _ rfl).2) 22 (by decide) (by decide) kF_X12_42 (fun h9 => congrArg va_rf (h9.2.2 0 22 10 rfl)) ?_
      refine ev_iload_n 2 dX12_law_135 rfl ?_
      obtain ⟨c36, h⟩ := am_gd_elim h
      refine ev_iald dX12_law_136 (fun h9 => (h9.2.1 10 _ rfl).2) (am_in_vp c36) ?_
      obtain ⟨c37, h⟩ := am_gd_elim h
      refine ev_iast dX12_law_137 (fun h9 => (h9.2.1 2 _ rfl).2) (am_in_vp c37) ?_
      refine am_let_elim (P := fun g38 => am_Ev zr MX12_law 8 138 [(0, .ref 0), (1, .int x29), (2, .int x32)] [] g38 (am_ri r)) h fun g38 h => ?_
      obtain ⟨x39, ex39, h⟩ := am_let_ex h
      refine ev_iinc (ls' := [(2, .int x39), (0, .ref 0), (1, .int x29)]) 2 dX12_law_138 rfl ex39 (by decide) rfl ?_
      refine ev_goto 111 dX12_law_141 (by decide) ?_
      refine ev_sub [1, 2, 0] rfl ?_
      exact ih _ _ _ h
set_option maxRecDepth 100000 in
set_option maxHeartbeats 4000000 in
theorem tfX12_law_L146  {k : am_G → Option (Int32 × am_G)} (x29 : Int32) (hk : ∀  (g43 : am_G) (r : Int32 × am_G), k  g43 = some r → am_Ev zr MX12_law 8 200 [(0, .ref 0)] [] g43 (am_ri r)) : ∀ (n : Nat) (x41 : Int32) (g42 : am_G) (r : Int32 × am_G), fX12_law_L146 k x29 n x41 g42 = some r → am_Ev zr MX12_law 8 146 [(0, .ref 0), (1, .int x29), (2, .int x41)] [] g42 (am_ri r) := by
  intro n
  induction n with
  | zero => intro x41 g42 r h; exact nomatch (show (none : Option (Int32 × am_G)) = some r from h)
  | succ n ih =>
    intro x41 g42 r h
    rw [fX12_law_L146] at h
    refine ev_iload_n 2 dX12_law_146 rfl ?_
    refine ev_aload_n 0 dX12_law_147 rfl ?_
    refine ev_gf (v := .int (am_I g42 0 23)) dX12_law_148 (fun h9 => (h9.2.1 0 _ rfl).2) 23 (by decide) (by decide) kF_X12_278 (fun _ => rfl) ?_
    refine ev_icmp_ge 200 dX12_law_151 (by decide) (fun c44 => ?_) (fun c44 => ?_)
    · replace h := am_ifp c44 h
      refine ev_sub [0] rfl ?_
      exact hk  _ _ h
    · replace h := am_ifn c44 h
      refine ev_aload_n 0 dX12_law_154 rfl ?_
      refine ev_gf (v := .ref 2) dX12_law_155 (fun h9 => (h9.2.1 0 _ rfl).2) 3 (by decide) (by decide) kF_X12_13 (fun h9 => congrArg va_rf (h9.2.2 0 3 2 rfl)) ?_
      refine ev_iload_n 1 dX12_law_158 rfl ?_
      refine ev_bipush dX12_law_159 rfl ?_
      refine ev_iadd dX12_law_161 ?_
      refine ev_iconst dX12_law_162 rfl ?_
      refine ev_iload_n 2 dX12_law_163 rfl ?_
      refine ev_imul dX12_law_164 ?_
      refine ev_iadd dX12_law_165 ?_
      refine ev_aload_n 0 dX12_law_166 rfl ?_
      refine ev_gf (v := .ref 11) dX12_law_167 (fun h9 => (h9.2.1 0 _ rfl).2) 24 (by decide) (by decide) kF_X12_45 (fun h9 => congrArg va_rf (h9.2.2 0 24 11 rfl)) ?_
      refine ev_iload_n 2 dX12_law_170 rfl ?_
      obtain ⟨c45, h⟩ := am_gd_elim h
      refine ev_iald dX12_law_171 (fun h9 => (h9.2.1 11 _ rfl).2) (am_in_vp c45) ?_
      obtain ⟨c46, h⟩ := am_gd_elim h
      refine ev_iast dX12_law_172 (fun h9 => (h9.2.1 2 _ rfl).2) (am_in_vp c46) ?_
      refine am_let_elim (P := fun g47 => am_Ev zr MX12_law 8 173 [(0, .ref 0), (1, .int x29), (2, .int x41)] [] g47 (am_ri r)) h fun g47 h => ?_
      refine ev_aload_n 0 dX12_law_173 rfl ?_
      refine ev_gf (v := .ref 2) dX12_law_174 (fun h9 => (h9.2.1 0 _ rfl).2) 3 (by decide) (by decide) kF_X12_13 (fun h9 => congrArg va_rf (h9.2.2 0 3 2 rfl)) ?_
      refine ev_iload_n 1 dX12_law_177 rfl ?_
      refine ev_bipush dX12_law_178 rfl ?_
      refine ev_iadd dX12_law_180 ?_
      refine ev_iconst dX12_law_181 rfl ?_
      refine ev_iload_n 2 dX12_law_182 rfl ?_
      refine ev_imul dX12_law_183 ?_
      refine ev_iadd dX12_law_184 ?_
      refine ev_iconst dX12_law_185 rfl ?_
      refine ev_iadd dX12_law_186 ?_
      refine ev_aload_n 0 dX12_law_187 rfl ?_
      refine ev_gf (v := .ref 12) dX12_law_188 (fun h9 => (h9.2.1 0 _ rfl).2) 25 (by decide) (by decide) kF_X12_48 (fun h9 => congrArg va_rf (h9.2.2 0 25 12 rfl)) ?_
      refine ev_iload_n 2 dX12_law_191 rfl ?_
      obtain ⟨c48, h⟩ := am_gd_elim h
      refine ev_iald dX12_law_192 (fun h9 => (h9.2.1 12 _ rfl).2) (am_in_vp c48) ?_
      obtain ⟨c49, h⟩ := am_gd_elim h
      refine ev_iast dX12_law_193 (fun h9 => (h9.2.1 2 _ rfl).2) (am_in_vp c49) ?_
      refine am_let_elim (P := fun g50 => am_Ev zr MX12_law 8 194 [(0, .ref 0), (1, .int x29), (2, .int x41)] [] g50 (am_ri r)) h fun g50 h => ?_
      obtain ⟨x51, ex51, h⟩ := am_let_ex h
      refine ev_iinc (ls' := [(2, .int x51), (0, .ref 0), (1, .int x29)]) 2 dX12_law_194 rfl ex51 (by decide) rfl ?_
      refine ev_goto 146 dX12_law_197 (by decide) ?_
      refine ev_sub [1, 2, 0] rfl ?_
      exact ih _ _ _ h
set_option maxRecDepth 100000 in
set_option maxHeartbeats 4000000 in
theorem eX12_law (g : am_G) (r : Int32 × am_G) (h : fX12_law g = some r) : am_Ev zr MX12_law 8 0 [(0, .ref 0)] [] g (am_ri r) := by
  unfold fX12_law at h
  refine ev_aload_n 0 dX12_law_0 rfl ?_
  refine ev_iconst dX12_law_1 rfl ?_
  refine ev_pfi dX12_law_2 (fun h9 => (h9.2.1 0 _ rfl).2) 0 (by decide) (by decide) kF_X12_163 rfl rfl rfl (fun _ => rfl) ?_
  refine am_let_elim (P := fun g1 => am_Ev zr MX12_law 8 5 [(0, .ref 0)] [] g1 (am_ri r)) h fun g1 h => ?_
  refine ev_aload_n 0 dX12_law_5 rfl ?_
  refine ev_gf (v := .ref 2) dX12_law_6 (fun h9 => (h9.2.1 0 _ rfl).2) 3 (by decide) (by decide) kF_X12_13 (fun h9 => congrArg va_rf (h9.2.2 0 3 2 rfl)) ?_
  refine ev_iconst dX12_law_9 rfl ?_
  obtain ⟨c2, h⟩ := am_gd_elim h
  refine ev_iald dX12_law_10 (fun h9 => (h9.2.1 2 _ rfl).2) (am_in_vp c2) ?_
  refine ev_bipush dX12_law_11 rfl ?_
  refine ev_icmp_ne 28 dX12_law_13 (by decide) (fun c3 => ?_) (fun c3 => ?_)
  · replace h := am_ifn c3 h
    refine ev_aload_n 0 dX12_law_28 rfl ?_
    refine ev_iconst dX12_law_29 rfl ?_
    obtain ⟨u4, g5, e6, h⟩ := am_bd_elim h
    refine ev_callVv [.int (0 : Int32)] [] dX12_law_30 (tX12_beginText e6) (by decide) mo_X12_beginText kM_X12_378 ki_X12_beginText kv_X12_beginText (fun h9 => (h9.2.1 0 _ rfl).2) (by decide) rfl (Nat.le_of_ble_eq_true rfl) ?_
    refine ev_aload_n 0 dX12_law_33 rfl ?_
    obtain ⟨u7, g8, e9, h⟩ := am_bd_elim h
    refine ev_callVv [] [] dX12_law_34 (tX12_readLaw e9) (by decide) mo_X12_readLaw kM_X12_381 ki_X12_readLaw kv_X12_readLaw (fun h9 => (h9.2.1 0 _ rfl).2) (by decide) rfl (Nat.le_of_ble_eq_true rfl) ?_
    refine ev_sub [0] rfl ?_
    refine tfX12_law_L37 ?_ _  _ _ h
    intro  g23 r h
    try dsimp only at h
    refine ev_aload_n 0 dX12_law_64 rfl ?_
    obtain ⟨u24, g25, e26, h⟩ := am_bd_elim h
    refine ev_callVv [] [] dX12_law_65 (tX12_endText e26) (by decide) mo_X12_endText kM_X12_384 ki_X12_endText kv_X12_endText (fun h9 => (h9.2.1 0 _ rfl).2) (by decide) rfl (Nat.le_of_ble_eq_true rfl) ?_
    refine ev_aload_n 0 dX12_law_68 rfl ?_
    refine ev_gf (v := .int (am_I g25 0 19)) dX12_law_69 (fun h9 => (h9.2.1 0 _ rfl).2) 19 (by decide) (by decide) kF_X12_239 (fun _ => rfl) ?_
    refine ev_if_eq 82 dX12_law_72 (by decide) (fun c27 => ?_) (fun c27 => ?_)
    · replace h := am_ifp c27 h
      refine ev_sipush dX12_law_82 rfl ?_
      refine ev_sipush dX12_law_85 rfl ?_
      refine ev_aload_n 0 dX12_law_88 rfl ?_
      refine ev_gf (v := .ref 2) dX12_law_89 (fun h9 => (h9.2.1 0 _ rfl).2) 3 (by decide) (by decide) kF_X12_13 (fun h9 => congrArg va_rf (h9.2.2 0 3 2 rfl)) ?_
      refine ev_iconst dX12_law_92 rfl ?_
      obtain ⟨c28, h⟩ := am_gd_elim h
      refine ev_iald dX12_law_93 (fun h9 => (h9.2.1 2 _ rfl).2) (am_in_vp c28) ?_
      refine ev_imul dX12_law_94 ?_
      refine ev_iadd dX12_law_95 ?_
      refine am_let_elim (P := fun x29 => am_Ev zr MX12_law 8 96 [(0, .ref 0)] [.int x29] g25 (am_ri r)) h fun x29 h => ?_
      refine ev_istore_n (ls' := [(1, .int x29), (0, .ref 0)]) dX12_law_96 rfl (by decide) rfl ?_
      refine ev_aload_n 1 dX12_law_97 rfl ?_
      refine ev_gf (v := .ref 2) dX12_law_98 (fun h9 => (h9.2.1 0 _ rfl).2) 3 (by decide) (by decide) kF_X12_13 (fun h9 => congrArg va_rf (h9.2.2 0 3 2 rfl)) ?_
      refine ev_iload_n 0 dX12_law_101 rfl ?_
      refine ev_iconst dX12_law_102 rfl ?_
      refine ev_iadd dX12_law_103 ?_
      refine ev_aload_n 1 dX12_law_104 rfl ?_
      refine ev_gf (v := .int (am_I g25 0 21)) dX12_law_105 (fun h9 => (h9.2.1 0 _ rfl).2) 21 (by decide) (by decide) kF_X12_370 (fun _ => rfl) ?_
      obtain ⟨c30, h⟩ := am_gd_elim h
      refine ev_iast dX12_law_108 (fun h9 => (h9.2.1 2 _ rfl).2) (am_in_vp c30) ?_
      refine am_let_elim (P := fun g31 => am_Ev zr MX12_law 8 109 [(1, .int x29), (0, .ref 0)] [] g31 (am_ri r)) h fun g31 h => ?_
      refine ev_iconst dX12_law_109 rfl ?_
      refine ev_istore_n (ls' := [(2, .int (0 : Int32)), (1, .int x29), (0, .ref 0)]) dX12_law_110 rfl (by decide) rfl ?_
      refine ev_sub [2, 1, 0] rfl ?_
      refine tfX12_law_L111 x29 ?_ _ _ _ _ h
      intro  g40 r h
      try dsimp only at h
      refine ev_iconst dX12_law_144 rfl ?_
      refine ev_istore_n (ls' := [(2, .int (0 : Int32)), (0, .ref 0), (1, .int x29)]) dX12_law_145 rfl (by decide) rfl ?_
      refine ev_sub [1, 2, 0] rfl ?_
      refine tfX12_law_L146 x29 ?_ _ _ _ _ h
      intro  g52 r h
      try dsimp only at h
      refine ev_aload_n 0 dX12_law_200 rfl ?_
      refine ev_gf (v := .ref 2) dX12_law_201 (fun h9 => (h9.2.1 0 _ rfl).2) 3 (by decide) (by decide) kF_X12_13 (fun h9 => congrArg va_rf (h9.2.2 0 3 2 rfl)) ?_
      refine ev_iconst dX12_law_204 rfl ?_
      refine ev_dup2 dX12_law_205 rfl rfl ?_
      obtain ⟨c53, h⟩ := am_gd_elim h
      refine ev_iald dX12_law_206 (fun h9 => (h9.2.1 2 _ rfl).2) (am_in_vp c53) ?_
      refine ev_iconst dX12_law_207 rfl ?_
      refine ev_iadd dX12_law_208 ?_
      obtain ⟨c54, h⟩ := am_gd_elim h
      refine ev_iast dX12_law_209 (fun h9 => (h9.2.1 2 _ rfl).2) (am_in_vp c54) ?_
      refine am_let_elim (P := fun g55 => am_Ev zr MX12_law 8 210 [(0, .ref 0)] [] g55 (am_ri r)) h fun g55 h => ?_
      refine ev_aload_n 0 dX12_law_210 rfl ?_
      refine ev_aload_n 0 dX12_law_211 rfl ?_
      refine ev_gf (v := .ref 2) dX12_law_212 (fun h9 => (h9.2.1 0 _ rfl).2) 3 (by decide) (by decide) kF_X12_13 (fun h9 => congrArg va_rf (h9.2.2 0 3 2 rfl)) ?_
      refine ev_iconst dX12_law_215 rfl ?_
      obtain ⟨c56, h⟩ := am_gd_elim h
      refine ev_iald dX12_law_216 (fun h9 => (h9.2.1 2 _ rfl).2) (am_in_vp c56) ?_
      refine ev_iconst dX12_law_217 rfl ?_
      refine ev_isub dX12_law_218 ?_
      obtain ⟨v57, g58, e59, h⟩ := am_bd_elim h
      refine ev_callVi (v := v57) [.int ((am_I g55 2 (4 : Int32).toNatClampNeg) - (1 : Int32))] [] dX12_law_219 (tX12_tell e59) (by decide) mo_X12_tell kM_X12_176 ki_X12_tell kv_X12_tell (fun h9 => (h9.2.1 0 _ rfl).2) (by decide) rfl (Nat.le_of_ble_eq_true rfl) ?_
      cases h
      exact ev_iret dX12_law_222 rfl
    · replace h := am_ifn c27 h
      refine ev_aload_n 0 dX12_law_75 rfl ?_
      refine ev_bipush dX12_law_76 rfl ?_
      obtain ⟨v60, g61, e62, h⟩ := am_bd_elim h
      refine ev_callVi (v := v60) [.int (-6 : Int32)] [] dX12_law_78 (tX12_tell e62) (by decide) mo_X12_tell kM_X12_176 ki_X12_tell kv_X12_tell (fun h9 => (h9.2.1 0 _ rfl).2) (by decide) rfl (Nat.le_of_ble_eq_true rfl) ?_
      cases h
      exact ev_iret dX12_law_81 rfl
  · replace h := am_ifp c3 h
    refine ev_aload_n 0 dX12_law_16 rfl ?_
    refine ev_iconst dX12_law_17 rfl ?_
    refine ev_pfi dX12_law_18 (fun h9 => (h9.2.1 0 _ rfl).2) 13 (by decide) (by decide) kF_X12_227 rfl rfl rfl (fun _ => rfl) ?_
    refine am_let_elim (P := fun g63 => am_Ev zr MX12_law 8 21 [(0, .ref 0)] [] g63 (am_ri r)) h fun g63 h => ?_
    refine ev_aload_n 0 dX12_law_21 rfl ?_
    refine ev_bipush dX12_law_22 rfl ?_
    obtain ⟨v64, g65, e66, h⟩ := am_bd_elim h
    refine ev_callVi (v := v64) [.int (-5 : Int32)] [] dX12_law_24 (tX12_tell e66) (by decide) mo_X12_tell kM_X12_176 ki_X12_tell kv_X12_tell (fun h9 => (h9.2.1 0 _ rfl).2) (by decide) rfl (Nat.le_of_ble_eq_true rfl) ?_
    cases h
    exact ev_iret dX12_law_27 rfl
theorem tX12_law {g : am_G} {r : Int32 × am_G} (h : fX12_law g = some r) : am_Mt zr MX12_law 8 [.ref 0] g (am_ri r) := am_Mt.of rfl (Nat.le_of_ble_eq_true rfl) (eX12_law _ _ h)
def fX12_force (a1 : Int32) (g : am_G) : Option (Int32 × am_G) :=
  am_let (am_si g 0 0 (0 : Int32)) fun g1 =>
  if a1 = (-1 : Int32) then (
    am_bd (fX12_change (5 : Int32) a1 g1) fun v3 g4 =>
    some (v3, g4))
  else (
    am_gd (am_in (4 : Int32) 5660) <|
    am_bd (fX12_in a1.toInt64 (0 : Int64) (((am_I g1 2 (4 : Int32).toNatClampNeg).toInt64) - (1 : Int64)) g1) fun v7 g8 =>
    if v7 = 0 then (
      am_bd (fX12_tell (-2 : Int32) g8) fun v11 g12 =>
      some (v11, g12))
    else (
      am_bd (fX12_change (5 : Int32) a1 g8) fun v14 g15 =>
      some (v14, g15)))
set_option maxRecDepth 100000 in
set_option maxHeartbeats 4000000 in
theorem eX12_force (a1 : Int32) (g : am_G) (r : Int32 × am_G) (h : fX12_force a1 g = some r) : am_Ev zr MX12_force 1 0 [(0, .ref 0), (1, .int a1)] [] g (am_ri r) := by
  unfold fX12_force at h
  refine ev_aload_n 0 dX12_force_0 rfl ?_
  refine ev_iconst dX12_force_1 rfl ?_
  refine ev_pfi dX12_force_2 (fun h9 => (h9.2.1 0 _ rfl).2) 0 (by decide) (by decide) kF_X12_163 rfl rfl rfl (fun _ => rfl) ?_
  refine am_let_elim (P := fun g1 => am_Ev zr MX12_force 1 5 [(0, .ref 0), (1, .int a1)] [] g1 (am_ri r)) h fun g1 h => ?_
  refine ev_iload_n 1 dX12_force_5 rfl ?_
  refine ev_iconst dX12_force_6 rfl ?_
  refine ev_icmp_eq 28 dX12_force_7 (by decide) (fun c2 => ?_) (fun c2 => ?_)
  · replace h := am_ifp c2 h
    refine ev_aload_n 0 dX12_force_28 rfl ?_
    refine ev_iconst dX12_force_29 rfl ?_
    refine ev_iload_n 1 dX12_force_30 rfl ?_
    obtain ⟨v3, g4, e5, h⟩ := am_bd_elim h
    refine ev_callVi (v := v3) [.int (5 : Int32), .int a1] [] dX12_force_31 (tX12_change e5) (by decide) mo_X12_change kM_X12_207 ki_X12_change kv_X12_change (fun h9 => (h9.2.1 0 _ rfl).2) (by decide) rfl (Nat.le_of_ble_eq_true rfl) ?_
    refine ev_goto 43 dX12_force_34 (by decide) ?_
    cases h
    exact ev_iret dX12_force_43 rfl
  · replace h := am_ifn c2 h
    refine ev_iload_n 1 dX12_force_10 rfl ?_
    refine ev_i2l dX12_force_11 ?_
    refine ev_lconst dX12_force_12 rfl ?_
    refine ev_aload_n 0 dX12_force_13 rfl ?_
    refine ev_gf (v := .ref 2) dX12_force_14 (fun h9 => (h9.2.1 0 _ rfl).2) 3 (by decide) (by decide) kF_X12_13 (fun h9 => congrArg va_rf (h9.2.2 0 3 2 rfl)) ?_
    refine ev_iconst dX12_force_17 rfl ?_
    obtain ⟨c6, h⟩ := am_gd_elim h
    refine ev_iald dX12_force_18 (fun h9 => (h9.2.1 2 _ rfl).2) (am_in_vp c6) ?_
    refine ev_i2l dX12_force_19 ?_
    refine ev_lconst dX12_force_20 rfl ?_
    refine ev_lsub dX12_force_21 ?_
    obtain ⟨v7, g8, e9, h⟩ := am_bd_elim h
    refine ev_callSi (v := v7) [.long a1.toInt64, .long (0 : Int64), .long (((am_I g1 2 (4 : Int32).toNatClampNeg).toInt64) - (1 : Int64))] [] dX12_force_22 (tX12_in e9) (by decide) mo_X12_in kM_X12_183 ks_X12_in (Nat.le_of_ble_eq_true rfl) ?_
    refine ev_if_eq 37 dX12_force_25 (by decide) (fun c10 => ?_) (fun c10 => ?_)
    · replace h := am_ifp c10 h
      refine ev_aload_n 0 dX12_force_37 rfl ?_
      refine ev_bipush dX12_force_38 rfl ?_
      obtain ⟨v11, g12, e13, h⟩ := am_bd_elim h
      refine ev_callVi (v := v11) [.int (-2 : Int32)] [] dX12_force_40 (tX12_tell e13) (by decide) mo_X12_tell kM_X12_176 ki_X12_tell kv_X12_tell (fun h9 => (h9.2.1 0 _ rfl).2) (by decide) rfl (Nat.le_of_ble_eq_true rfl) ?_
      cases h
      exact ev_iret dX12_force_43 rfl
    · replace h := am_ifn c10 h
      refine ev_aload_n 0 dX12_force_28 rfl ?_
      refine ev_iconst dX12_force_29 rfl ?_
      refine ev_iload_n 1 dX12_force_30 rfl ?_
      obtain ⟨v14, g15, e16, h⟩ := am_bd_elim h
      refine ev_callVi (v := v14) [.int (5 : Int32), .int a1] [] dX12_force_31 (tX12_change e16) (by decide) mo_X12_change kM_X12_207 ki_X12_change kv_X12_change (fun h9 => (h9.2.1 0 _ rfl).2) (by decide) rfl (Nat.le_of_ble_eq_true rfl) ?_
      refine ev_goto 43 dX12_force_34 (by decide) ?_
      cases h
      exact ev_iret dX12_force_43 rfl
theorem tX12_force {a1 : Int32} {g : am_G} {r : Int32 × am_G} (h : fX12_force a1 g = some r) : am_Mt zr MX12_force 1 [.ref 0, .int a1] g (am_ri r) := am_Mt.of rfl (Nat.le_of_ble_eq_true rfl) (eX12_force _ _ _ h)
def fX12_reckon (a1 : Int32) (a2 : Int64) (a4 : Int64) (g : am_G) : Option (Int64 × am_G) :=
  if a1 = (20 : Int32) then (
    some (a2 + a4, g))
  else
  if a1 = (21 : Int32) then (
    some (a2 - a4, g))
  else
  if a1 = (22 : Int32) then (
    some (a2 * a4, g))
  else
  if a1 = (23 : Int32) then (
    am_jn (fun (x2 : Int32) (g3 : am_G) =>
      am_gd (am_zb x2) <|
      am_let (am_si g3 0 38 x2) fun g5 =>
      if (am_I g5 0 38) = 0 then (
        am_gd (!decide (a4 = 0)) <|
        some (a2 / a4, g5))
      else (
        some ((0 : Int64), g5))) fun j4 =>
    if (lg_cmp a4 (0 : Int64)) = 0 then (
      j4 (1 : Int32) g)
    else (
      j4 (0 : Int32) g))
  else
  if a1 = (24 : Int32) then (
    am_jn (fun (x10 : Int32) (g11 : am_G) =>
      am_gd (am_zb x10) <|
      am_let (am_si g11 0 38 x10) fun g13 =>
      if (am_I g13 0 38) = 0 then (
        am_gd (!decide (a4 = 0)) <|
        some (a2 - a2 / a4 * a4, g13))
      else (
        some ((0 : Int64), g13))) fun j12 =>
    if (lg_cmp a4 (0 : Int64)) = 0 then (
      j12 (1 : Int32) g)
    else (
      j12 (0 : Int32) g))
  else
  if a1 = (25 : Int32) then (
    if 0 ≤ (lg_cmp a2 a4) then (
      some ((0 : Int64), g))
    else (
      some ((1 : Int64), g)))
  else
  if a1 = (26 : Int32) then (
    if (lg_cmp a2 a4) ≤ 0 then (
      some ((0 : Int64), g))
    else (
      some ((1 : Int64), g)))
  else (
    if (lg_cmp a2 a4) = 0 then (
      some ((1 : Int64), g))
    else (
      some ((0 : Int64), g)))
set_option maxRecDepth 100000 in
set_option maxHeartbeats 4000000 in
theorem eX12_reckon (a1 : Int32) (a2 : Int64) (a4 : Int64) (g : am_G) (r : Int64 × am_G) (h : fX12_reckon a1 a2 a4 g = some r) : am_Ev zr MX12_reckon 0 0 [(0, .ref 0), (1, .int a1), (2, .long a2), (4, .long a4)] [] g (am_rl r) := by
  unfold fX12_reckon at h
  refine ev_iload_n 1 dX12_reckon_0 rfl ?_
  by_cases c20 : a1 = (20 : Int32)
  · replace h := am_ifp c20 h
    refine ev_tableIn 44 dX12_reckon_1 (by rw [c20]; decide) (by rw [c20]; decide) (by rw [c20]; rfl) (by decide) ?_
    refine ev_lload_n 2 dX12_reckon_44 rfl ?_
    refine ev_lload 3 dX12_reckon_45 rfl ?_
    refine ev_ladd dX12_reckon_47 ?_
    cases h
    exact ev_lret dX12_reckon_48 rfl
  replace h := am_ifn c20 h
  by_cases c21 : a1 = (21 : Int32)
  · replace h := am_ifp c21 h
    refine ev_tableIn 49 dX12_reckon_1 (by rw [c21]; decide) (by rw [c21]; decide) (by rw [c21]; rfl) (by decide) ?_
    refine ev_lload_n 2 dX12_reckon_49 rfl ?_
    refine ev_lload 3 dX12_reckon_50 rfl ?_
    refine ev_lsub dX12_reckon_52 ?_
    cases h
    exact ev_lret dX12_reckon_53 rfl
  replace h := am_ifn c21 h
  by_cases c22 : a1 = (22 : Int32)
  · replace h := am_ifp c22 h
    refine ev_tableIn 54 dX12_reckon_1 (by rw [c22]; decide) (by rw [c22]; decide) (by rw [c22]; rfl) (by decide) ?_
    refine ev_lload_n 2 dX12_reckon_54 rfl ?_
    refine ev_lload 3 dX12_reckon_55 rfl ?_
    refine ev_lmul dX12_reckon_57 ?_
    cases h
    exact ev_lret dX12_reckon_58 rfl
  replace h := am_ifn c22 h
  by_cases c23 : a1 = (23 : Int32)
  · replace h := am_ifp c23 h
    refine ev_tableIn 59 dX12_reckon_1 (by rw [c23]; decide) (by rw [c23]; decide) (by rw [c23]; rfl) (by decide) ?_
    refine ev_aload_n 0 dX12_reckon_59 rfl ?_
    refine ev_lload 3 dX12_reckon_60 rfl ?_
    refine ev_lconst dX12_reckon_62 rfl ?_
    refine ev_lcmp dX12_reckon_63 ?_
    refine am_jn_elim (fun q9 => ∀ (x2 : Int32) (g3 : am_G) (r : Int64 × am_G), q9 x2 g3 = some r → am_Ev zr MX12_reckon 0 72 [(0, .ref 0), (2, .long a2), (4, .long a4)] [.int x2, .ref 0] g3 (am_rl r)) h ?_ (fun j4 hj4 h => ?_)
    · intro x2 g3 r h
      try dsimp only at h
      obtain ⟨c6, h⟩ := am_gd_elim h
      refine ev_pfi dX12_reckon_72 (fun h9 => (h9.2.1 0 _ rfl).2) 38 (by decide) (by decide) kF_X12_387 rfl (am_zb_n c6) (am_zb_f c6) (fun _ => rfl) ?_
      refine am_let_elim (P := fun g5 => am_Ev zr MX12_reckon 0 75 [(0, .ref 0), (2, .long a2), (4, .long a4)] [] g5 (am_rl r)) h fun g5 h => ?_
      refine ev_aload_n 0 dX12_reckon_75 rfl ?_
      refine ev_gf (v := .int (am_I g5 0 38)) dX12_reckon_76 (fun h9 => (h9.2.1 0 _ rfl).2) 38 (by decide) (by decide) kF_X12_387 (fun _ => rfl) ?_
      refine ev_if_eq 86 dX12_reckon_79 (by decide) (fun c7 => ?_) (fun c7 => ?_)
      · replace h := am_ifp c7 h
        refine ev_lload_n 1 dX12_reckon_86 rfl ?_
        refine ev_lload 2 dX12_reckon_87 rfl ?_
        obtain ⟨c8, h⟩ := am_gd_elim h
        refine ev_ldiv dX12_reckon_89 (by simpa using c8) ?_
        cases h
        exact ev_lret dX12_reckon_90 rfl
      · replace h := am_ifn c7 h
        refine ev_lconst dX12_reckon_82 rfl ?_
        refine ev_goto 90 dX12_reckon_83 (by decide) ?_
        cases h
        exact ev_lret dX12_reckon_90 rfl
    · refine ev_if_ne 71 dX12_reckon_64 (by decide) (fun c1 => ?_) (fun c1 => ?_)
      · replace h := am_ifn c1 h
        refine ev_iconst dX12_reckon_71 rfl ?_
        refine ev_sub [0, 2, 3] rfl ?_
        exact hj4 _ _ _ h
      · replace h := am_ifp c1 h
        refine ev_iconst dX12_reckon_67 rfl ?_
        refine ev_goto 72 dX12_reckon_68 (by decide) ?_
        refine ev_sub [0, 2, 3] rfl ?_
        exact hj4 _ _ _ h
  replace h := am_ifn c23 h
  by_cases c24 : a1 = (24 : Int32)
  · replace h := am_ifp c24 h
    refine ev_tableIn 91 dX12_reckon_1 (by rw [c24]; decide) (by rw [c24]; decide) (by rw [c24]; rfl) (by decide) ?_
    refine ev_aload_n 0 dX12_reckon_91 rfl ?_
    refine ev_lload 3 dX12_reckon_92 rfl ?_
    refine ev_lconst dX12_reckon_94 rfl ?_
    refine ev_lcmp dX12_reckon_95 ?_
    refine am_jn_elim (fun q9 => ∀ (x10 : Int32) (g11 : am_G) (r : Int64 × am_G), q9 x10 g11 = some r → am_Ev zr MX12_reckon 0 104 [(0, .ref 0), (2, .long a2), (4, .long a4)] [.int x10, .ref 0] g11 (am_rl r)) h ?_ (fun j12 hj12 h => ?_)
    · intro x10 g11 r h
      try dsimp only at h
      obtain ⟨c14, h⟩ := am_gd_elim h
      refine ev_pfi dX12_reckon_104 (fun h9 => (h9.2.1 0 _ rfl).2) 38 (by decide) (by decide) kF_X12_387 rfl (am_zb_n c14) (am_zb_f c14) (fun _ => rfl) ?_
      refine am_let_elim (P := fun g13 => am_Ev zr MX12_reckon 0 107 [(0, .ref 0), (2, .long a2), (4, .long a4)] [] g13 (am_rl r)) h fun g13 h => ?_
      refine ev_aload_n 0 dX12_reckon_107 rfl ?_
      refine ev_gf (v := .int (am_I g13 0 38)) dX12_reckon_108 (fun h9 => (h9.2.1 0 _ rfl).2) 38 (by decide) (by decide) kF_X12_387 (fun _ => rfl) ?_
      refine ev_if_eq 118 dX12_reckon_111 (by decide) (fun c15 => ?_) (fun c15 => ?_)
      · replace h := am_ifp c15 h
        refine ev_lload_n 1 dX12_reckon_118 rfl ?_
        refine ev_lload 2 dX12_reckon_119 rfl ?_
        obtain ⟨c16, h⟩ := am_gd_elim h
        refine ev_lrem dX12_reckon_121 (by simpa using c16) ?_
        cases h
        exact ev_lret dX12_reckon_122 rfl
      · replace h := am_ifn c15 h
        refine ev_lconst dX12_reckon_114 rfl ?_
        refine ev_goto 122 dX12_reckon_115 (by decide) ?_
        cases h
        exact ev_lret dX12_reckon_122 rfl
    · refine ev_if_ne 103 dX12_reckon_96 (by decide) (fun c9 => ?_) (fun c9 => ?_)
      · replace h := am_ifn c9 h
        refine ev_iconst dX12_reckon_103 rfl ?_
        refine ev_sub [0, 2, 3] rfl ?_
        exact hj12 _ _ _ h
      · replace h := am_ifp c9 h
        refine ev_iconst dX12_reckon_99 rfl ?_
        refine ev_goto 104 dX12_reckon_100 (by decide) ?_
        refine ev_sub [0, 2, 3] rfl ?_
        exact hj12 _ _ _ h
  replace h := am_ifn c24 h
  by_cases c25 : a1 = (25 : Int32)
  · replace h := am_ifp c25 h
    refine ev_tableIn 123 dX12_reckon_1 (by rw [c25]; decide) (by rw [c25]; decide) (by rw [c25]; rfl) (by decide) ?_
    refine ev_lload_n 2 dX12_reckon_123 rfl ?_
    refine ev_lload 3 dX12_reckon_124 rfl ?_
    refine ev_lcmp dX12_reckon_126 ?_
    refine ev_if_ge 134 dX12_reckon_127 (by decide) (fun c17 => ?_) (fun c17 => ?_)
    · replace h := am_ifp c17 h
      refine ev_lconst dX12_reckon_134 rfl ?_
      cases h
      exact ev_lret dX12_reckon_135 rfl
    · replace h := am_ifn c17 h
      refine ev_lconst dX12_reckon_130 rfl ?_
      refine ev_goto 135 dX12_reckon_131 (by decide) ?_
      cases h
      exact ev_lret dX12_reckon_135 rfl
  replace h := am_ifn c25 h
  by_cases c26 : a1 = (26 : Int32)
  · replace h := am_ifp c26 h
    refine ev_tableIn 136 dX12_reckon_1 (by rw [c26]; decide) (by rw [c26]; decide) (by rw [c26]; rfl) (by decide) ?_
    refine ev_lload_n 2 dX12_reckon_136 rfl ?_
    refine ev_lload 3 dX12_reckon_137 rfl ?_
    refine ev_lcmp dX12_reckon_139 ?_
    refine ev_if_le 147 dX12_reckon_140 (by decide) (fun c18 => ?_) (fun c18 => ?_)
    · replace h := am_ifp c18 h
      refine ev_lconst dX12_reckon_147 rfl ?_
      cases h
      exact ev_lret dX12_reckon_148 rfl
    · replace h := am_ifn c18 h
      refine ev_lconst dX12_reckon_143 rfl ?_
      refine ev_goto 148 dX12_reckon_144 (by decide) ?_
      cases h
      exact ev_lret dX12_reckon_148 rfl
  replace h := am_ifn c26 h
  refine ev_tableOut 149 dX12_reckon_1 (by have z0 := am_ti c20 (k := 20) (by decide); have z1 := am_ti c21 (k := 21) (by decide); have z2 := am_ti c22 (k := 22) (by decide); have z3 := am_ti c23 (k := 23) (by decide); have z4 := am_ti c24 (k := 24) (by decide); have z5 := am_ti c25 (k := 25) (by decide); have z6 := am_ti c26 (k := 26) (by decide); omega) (by decide) ?_
  refine ev_lload_n 2 dX12_reckon_149 rfl ?_
  refine ev_lload 3 dX12_reckon_150 rfl ?_
  refine ev_lcmp dX12_reckon_152 ?_
  refine ev_if_ne 160 dX12_reckon_153 (by decide) (fun c19 => ?_) (fun c19 => ?_)
  · replace h := am_ifn c19 h
    refine ev_lconst dX12_reckon_160 rfl ?_
    cases h
    exact ev_lret dX12_reckon_161 rfl
  · replace h := am_ifp c19 h
    refine ev_lconst dX12_reckon_156 rfl ?_
    refine ev_goto 161 dX12_reckon_157 (by decide) ?_
    cases h
    exact ev_lret dX12_reckon_161 rfl
theorem tX12_reckon {a1 : Int32} {a2 : Int64} {a4 : Int64} {g : am_G} {r : Int64 × am_G} (h : fX12_reckon a1 a2 a4 g = some r) : am_Mt zr MX12_reckon 0 [.ref 0, .int a1, .long a2, .long a4] g (am_rl r) := am_Mt.of rfl (Nat.le_of_ble_eq_true rfl) (eX12_reckon _ _ _ _ _ h)
def fX12_reckonAll_L10 (k : Int32 → am_G → Option (Unit × am_G)) (a2 : Int32) : Nat → Int32 → Int32 → am_G → Option (Unit × am_G)
  | 0, _, _, _ => none
  | n + 1, x2, x3, g4 =>
    if a2 ≤ x3 then (
      k x2 g4)
    else (
      if (am_I g4 0 38) = 0 then (
        am_jn (fun (x10 : Int32) (g11 : am_G) =>
          am_jn (fun (x14 : Int32) (g15 : am_G) =>
            am_let (x3 + (1 : Int32)) fun x17 =>
            am_jn (fun (x19 : Int32) (x20 : Int32) (g21 : am_G) =>
              fX12_reckonAll_L10 k a2 n x19 x20 g21) fun j22 =>
            if (20 : Int32) ≤ x10 then (
              if (28 : Int32) ≤ x10 then (
                if x10 = (28 : Int32) then (
                  am_gd (am_in (x2 - (1 : Int32)) 400) <|
                  am_gd (am_in (x2 - (1 : Int32)) 400) <|
                  am_let (am_sl g15 20 (x2 - (1 : Int32)).toNatClampNeg ((1 : Int64) - (am_L g15 20 (x2 - (1 : Int32)).toNatClampNeg))) fun g34 =>
                  j22 x2 x17 g34)
                else (
                  am_gd (am_in (x2 - (1 : Int32)) 400) <|
                  am_jn (fun (y27 : Int64) (g28 : am_G) =>
                    if (lg_cmp (am_L g15 20 (x2 - (1 : Int32)).toNatClampNeg) y27) = 0 then (
                      j22 x2 x14 g28)
                    else (
                      am_let (x2 + (-1 : Int32)) fun x31 =>
                      j22 x31 x17 g28)) fun j29 =>
                  if x10 = (29 : Int32) then (
                    j29 (0 : Int64) g15)
                  else (
                    j29 (1 : Int64) g15)))
              else (
                am_let (x2 + (-1 : Int32)) fun x35 =>
                am_gd (am_in (x35 - (1 : Int32)) 400) <|
                am_gd (am_in x35 400) <|
                am_bd (fX12_reckon x10 (am_L g15 20 (x35 - (1 : Int32)).toNatClampNeg) (am_L g15 20 x35.toNatClampNeg) g15) fun w38 g39 =>
                am_gd (am_in (x35 - (1 : Int32)) 400) <|
                am_let (am_sl g39 20 (x35 - (1 : Int32)).toNatClampNeg w38) fun g42 =>
                am_jn (fun (x44 : Int32) (g45 : am_G) =>
                  am_gd (am_zb x44) <|
                  am_let (am_si g45 0 38 x44) fun g47 =>
                  j22 x35 x17 g47) fun j46 =>
                am_jn (fun  (g49 : am_G) =>
                  j46 (1 : Int32) g49) fun j50 =>
                if (am_I g42 0 38) = 0 then (
                  am_gd (am_in (x35 - (1 : Int32)) 400) <|
                  am_bd (fX12_in (am_L g42 20 (x35 - (1 : Int32)).toNatClampNeg) (-1000000000 : Int64) (1000000000 : Int64) g42) fun v52 g53 =>
                  if v52 = 0 then (
                    j50 g53)
                  else (
                    j46 (0 : Int32) g53))
                else (
                  j50 g42)))
            else (
              am_jn (fun (y57 : Int64) (g58 : am_G) =>
                am_gd (am_in x2 400) <|
                am_let (am_sl g58 20 x2.toNatClampNeg y57) fun g61 =>
                am_let (x2 + (1 : Int32)) fun x62 =>
                j22 x62 x17 g61) fun j59 =>
              if x10 = 0 then (
                j59 x14.toInt64 g15)
              else (
                if (am_I g15 0 20) = 0 then (
                  am_gd (am_in x10 13) <|
                  j59 (am_L g15 18 x10.toNatClampNeg) g15)
                else (
                  if (6 : Int32) ≤ x10 then (
                    am_jn (fun (x66 : Int32) (g67 : am_G) =>
                      am_bd (fX12_ofSlope x14 x66 g67) fun v69 g70 =>
                      j59 v69.toInt64 g70) fun j68 =>
                    if x10 = (6 : Int32) then (
                      j68 (0 : Int32) g15)
                    else (
                      j68 (8 : Int32) g15))
                  else (
                    am_gd (am_in x10 13) <|
                    j59 (am_L g15 19 x10.toNatClampNeg) g15))))) fun j16 =>
          if (am_I g11 0 20) = 0 then (
            am_gd (am_in ((((am_I g11 0 34) + (98 : Int32)) + ((2 : Int32) * x3)) + (1 : Int32)) 5660) <|
            j16 (am_I g11 2 ((((am_I g11 0 34) + (98 : Int32)) + ((2 : Int32) * x3)) + (1 : Int32)).toNatClampNeg) g11)
          else (
            am_gd (am_in x3 400) <|
            j16 (am_I g11 12 x3.toNatClampNeg) g11)) fun j12 =>
        if (am_I g4 0 20) = 0 then (
          am_gd (am_in (((am_I g4 0 34) + (98 : Int32)) + ((2 : Int32) * x3)) 5660) <|
          j12 (am_I g4 2 (((am_I g4 0 34) + (98 : Int32)) + ((2 : Int32) * x3)).toNatClampNeg) g4)
        else (
          am_gd (am_in x3 400) <|
          j12 (am_I g4 11 x3.toNatClampNeg) g4))
      else (
        k x2 g4))
def fX12_reckonAll (a1 : Int32) (a2 : Int32) (g : am_G) : Option (Unit × am_G) :=
  am_let (am_si g 0 38 (0 : Int32)) fun g1 =>
  fX12_reckonAll_L10 (fun (x78 : Int32) (g79 : am_G) =>
    if x78 ≤ 0 then (
      am_let (am_sl g79 0 39 (0 : Int64)) fun g81 =>
      some ((), g81))
    else (
      am_gd (am_in (0 : Int32) 400) <|
      am_let (am_sl g79 0 39 (am_L g79 20 (0 : Int32).toNatClampNeg)) fun g83 =>
      some ((), g83))) a2 am_fu (0 : Int32) a1 g1
set_option maxRecDepth 100000 in
set_option maxHeartbeats 4000000 in
theorem tfX12_reckonAll_L10  {k : Int32 → am_G → Option (Unit × am_G)} (a2 : Int32) (hk : ∀ (x5 : Int32) (g6 : am_G) (r : Unit × am_G), k x5 g6 = some r → am_Ev zr MX12_reckonAll 2 326 [(0, .ref 0), (3, .int x5)] [] g6 (am_rv r)) : ∀ (n : Nat) (x2 : Int32) (x3 : Int32) (g4 : am_G) (r : Unit × am_G), fX12_reckonAll_L10 k a2 n x2 x3 g4 = some r → am_Ev zr MX12_reckonAll 2 10 [(0, .ref 0), (2, .int a2), (3, .int x2), (4, .int x3)] [] g4 (am_rv r) := by
  intro n
  induction n with
  | zero => intro x2 x3 g4 r h; exact nomatch (show (none : Option (Unit × am_G)) = some r from h)
  | succ n ih =>
    intro x2 x3 g4 r h
    rw [fX12_reckonAll_L10] at h
    refine ev_iload 3 dX12_reckonAll_10 rfl ?_
    refine ev_iload_n 1 dX12_reckonAll_12 rfl ?_
    refine ev_icmp_ge 326 dX12_reckonAll_13 (by decide) (fun c7 => ?_) (fun c7 => ?_)
    · replace h := am_ifp c7 h
      refine ev_sub [0, 2] rfl ?_
      exact hk _ _ _ h
    · replace h := am_ifn c7 h
      refine ev_aload_n 0 dX12_reckonAll_16 rfl ?_
      refine ev_gf (v := .int (am_I g4 0 38)) dX12_reckonAll_17 (fun h9 => (h9.2.1 0 _ rfl).2) 38 (by decide) (by decide) kF_X12_387 (fun _ => rfl) ?_
      refine ev_if_ne 326 dX12_reckonAll_20 (by decide) (fun c8 => ?_) (fun c8 => ?_)
      · replace h := am_ifn c8 h
        refine ev_sub [0, 2] rfl ?_
        exact hk _ _ _ h
      · replace h := am_ifp c8 h
        refine ev_aload_n 0 dX12_reckonAll_23 rfl ?_
        refine ev_gf (v := .int (am_I g4 0 20)) dX12_reckonAll_24 (fun h9 => (h9.2.1 0 _ rfl).2) 20 (by decide) (by decide) kF_X12_318 (fun _ => rfl) ?_
        refine am_jn_elim (fun q9 => ∀ (x10 : Int32) (g11 : am_G) (r : Unit × am_G), q9 x10 g11 = some r → am_Ev zr MX12_reckonAll 2 57 [(0, .ref 0), (2, .int a2), (3, .int x2), (4, .int x3)] [.int x10] g11 (am_rv r)) h ?_ (fun j12 hj12 h => ?_)
        · intro x10 g11 r h
          try dsimp only at h
          refine ev_istore (ls' := [(5, .int x10), (0, .ref 0), (2, .int a2), (3, .int x2), (4, .int x3)]) dX12_reckonAll_57 (by decide) rfl ?_
          refine ev_aload_n 1 dX12_reckonAll_59 rfl ?_
          refine ev_gf (v := .int (am_I g11 0 20)) dX12_reckonAll_60 (fun h9 => (h9.2.1 0 _ rfl).2) 20 (by decide) (by decide) kF_X12_318 (fun _ => rfl) ?_
          refine am_jn_elim (fun q9 => ∀ (x14 : Int32) (g15 : am_G) (r : Unit × am_G), q9 x14 g15 = some r → am_Ev zr MX12_reckonAll 2 95 [(0, .ref 0), (2, .int a2), (3, .int x2), (4, .int x3), (5, .int x10)] [.int x14] g15 (am_rv r)) h ?_ (fun j16 hj16 h => ?_)
          · intro x14 g15 r h
            try dsimp only at h
            refine ev_istore (ls' := [(6, .int x14), (0, .ref 0), (2, .int a2), (3, .int x2), (4, .int x3), (5, .int x10)]) dX12_reckonAll_95 (by decide) rfl ?_
            obtain ⟨x17, ex17, h⟩ := am_let_ex h
            refine ev_iinc (ls' := [(4, .int x17), (6, .int x14), (0, .ref 0), (2, .int a2), (3, .int x2), (5, .int x10)]) 4 dX12_reckonAll_97 rfl ex17 (by decide) rfl ?_
            refine ev_iload 5 dX12_reckonAll_100 rfl ?_
            refine ev_bipush dX12_reckonAll_102 rfl ?_
            refine am_jn_elim (fun q9 => ∀ (x19 : Int32) (x20 : Int32) (g21 : am_G) (r : Unit × am_G), q9 x19 x20 g21 = some r → am_Ev zr MX12_reckonAll 2 323 [(0, .ref 0), (2, .int a2), (3, .int x19), (4, .int x20)] [] g21 (am_rv r)) h ?_ (fun j22 hj22 h => ?_)
            · intro x19 x20 g21 r h
              try dsimp only at h
              refine ev_goto 10 dX12_reckonAll_323 (by decide) ?_
              refine ev_sub [0, 1, 2, 3] rfl ?_
              exact ih _ _ _ _ h
            · refine ev_icmp_ge 184 dX12_reckonAll_104 (by decide) (fun c18 => ?_) (fun c18 => ?_)
              · replace h := am_ifp c18 h
                refine ev_iload 5 dX12_reckonAll_184 rfl ?_
                refine ev_bipush dX12_reckonAll_186 rfl ?_
                refine ev_icmp_ge 261 dX12_reckonAll_188 (by decide) (fun c23 => ?_) (fun c23 => ?_)
                · replace h := am_ifp c23 h
                  refine ev_iload 5 dX12_reckonAll_261 rfl ?_
                  refine ev_bipush dX12_reckonAll_263 rfl ?_
                  refine ev_icmp_ne 289 dX12_reckonAll_265 (by decide) (fun c24 => ?_) (fun c24 => ?_)
                  · replace h := am_ifn c24 h
                    refine ev_aload_n 2 dX12_reckonAll_289 rfl ?_
                    refine ev_gf (v := .ref 20) dX12_reckonAll_290 (fun h9 => (h9.2.1 0 _ rfl).2) 37 (by decide) (by decide) kF_X12_111 (fun h9 => congrArg va_rf (h9.2.2 0 37 20 rfl)) ?_
                    refine ev_iload_n 4 dX12_reckonAll_293 rfl ?_
                    refine ev_iconst dX12_reckonAll_294 rfl ?_
                    refine ev_isub dX12_reckonAll_295 ?_
                    obtain ⟨c25, h⟩ := am_gd_elim h
                    refine ev_lald dX12_reckonAll_296 (fun h9 => (h9.2.1 20 _ rfl).2) (am_in_vp c25) ?_
                    refine ev_iload 5 dX12_reckonAll_297 rfl ?_
                    refine ev_bipush dX12_reckonAll_299 rfl ?_
                    refine am_jn_elim (fun q9 => ∀ (y27 : Int64) (g28 : am_G) (r : Unit × am_G), q9 y27 g28 = some r → am_Ev zr MX12_reckonAll 2 309 [(0, .ref 0), (2, .int a2), (3, .int x2), (4, .int x17), (6, .int x14)] [.long y27, .long (am_L g15 20 (x2 - (1 : Int32)).toNatClampNeg)] g28 (am_rv r)) h ?_ (fun j29 hj29 h => ?_)
                    · intro y27 g28 r h
                      try dsimp only at h
                      refine ev_lcmp dX12_reckonAll_309 ?_
                      refine ev_if_ne 320 dX12_reckonAll_310 (by decide) (fun c30 => ?_) (fun c30 => ?_)
                      · replace h := am_ifn c30 h
                        obtain ⟨x31, ex31, h⟩ := am_let_ex h
                        refine ev_iinc (ls' := [(3, .int x31), (0, .ref 0), (2, .int a2), (4, .int x17), (6, .int x14)]) 2 dX12_reckonAll_320 rfl ex31 (by decide) rfl ?_
                        refine ev_sub [1, 2, 0, 3] rfl ?_
                        exact hj22 _ _ _ _ h
                      · replace h := am_ifp c30 h
                        refine ev_iload 4 dX12_reckonAll_313 rfl ?_
                        refine ev_istore (ls' := [(4, .int x14), (0, .ref 0), (2, .int a2), (3, .int x2), (6, .int x14)]) dX12_reckonAll_315 (by decide) rfl ?_
                        refine ev_goto 323 dX12_reckonAll_317 (by decide) ?_
                        refine ev_sub [1, 2, 3, 0] rfl ?_
                        exact hj22 _ _ _ _ h
                    · refine ev_icmp_ne 308 dX12_reckonAll_301 (by decide) (fun c26 => ?_) (fun c26 => ?_)
                      · replace h := am_ifn c26 h
                        refine ev_lconst dX12_reckonAll_308 rfl ?_
                        refine ev_sub [2, 3, 4, 0, 1] rfl ?_
                        exact hj29 _ _ _ h
                      · replace h := am_ifp c26 h
                        refine ev_lconst dX12_reckonAll_304 rfl ?_
                        refine ev_goto 309 dX12_reckonAll_305 (by decide) ?_
                        refine ev_sub [2, 3, 4, 0, 1] rfl ?_
                        exact hj29 _ _ _ h
                  · replace h := am_ifp c24 h
                    refine ev_aload_n 2 dX12_reckonAll_268 rfl ?_
                    refine ev_gf (v := .ref 20) dX12_reckonAll_269 (fun h9 => (h9.2.1 0 _ rfl).2) 37 (by decide) (by decide) kF_X12_111 (fun h9 => congrArg va_rf (h9.2.2 0 37 20 rfl)) ?_
                    refine ev_iload_n 4 dX12_reckonAll_272 rfl ?_
                    refine ev_iconst dX12_reckonAll_273 rfl ?_
                    refine ev_isub dX12_reckonAll_274 ?_
                    refine ev_lconst dX12_reckonAll_275 rfl ?_
                    refine ev_aload_n 2 dX12_reckonAll_276 rfl ?_
                    refine ev_gf (v := .ref 20) dX12_reckonAll_277 (fun h9 => (h9.2.1 0 _ rfl).2) 37 (by decide) (by decide) kF_X12_111 (fun h9 => congrArg va_rf (h9.2.2 0 37 20 rfl)) ?_
                    refine ev_iload_n 4 dX12_reckonAll_280 rfl ?_
                    refine ev_iconst dX12_reckonAll_281 rfl ?_
                    refine ev_isub dX12_reckonAll_282 ?_
                    obtain ⟨c32, h⟩ := am_gd_elim h
                    refine ev_lald dX12_reckonAll_283 (fun h9 => (h9.2.1 20 _ rfl).2) (am_in_vp c32) ?_
                    refine ev_lsub dX12_reckonAll_284 ?_
                    obtain ⟨c33, h⟩ := am_gd_elim h
                    refine ev_last dX12_reckonAll_285 (fun h9 => (h9.2.1 20 _ rfl).2) (am_in_vp c33) ?_
                    refine am_let_elim (P := fun g34 => am_Ev zr MX12_reckonAll 2 286 [(4, .int x17), (6, .int x14), (0, .ref 0), (2, .int a2), (3, .int x2), (5, .int x10)] [] g34 (am_rv r)) h fun g34 h => ?_
                    refine ev_goto 323 dX12_reckonAll_286 (by decide) ?_
                    refine ev_sub [2, 3, 4, 0] rfl ?_
                    exact hj22 _ _ _ _ h
                · replace h := am_ifn c23 h
                  obtain ⟨x35, ex35, h⟩ := am_let_ex h
                  refine ev_iinc (ls' := [(3, .int x35), (4, .int x17), (6, .int x14), (0, .ref 0), (2, .int a2), (5, .int x10)]) 4 dX12_reckonAll_191 rfl ex35 (by decide) rfl ?_
                  refine ev_aload_n 3 dX12_reckonAll_194 rfl ?_
                  refine ev_gf (v := .ref 20) dX12_reckonAll_195 (fun h9 => (h9.2.1 0 _ rfl).2) 37 (by decide) (by decide) kF_X12_111 (fun h9 => congrArg va_rf (h9.2.2 0 37 20 rfl)) ?_
                  refine ev_iload_n 0 dX12_reckonAll_198 rfl ?_
                  refine ev_iconst dX12_reckonAll_199 rfl ?_
                  refine ev_isub dX12_reckonAll_200 ?_
                  refine ev_aload_n 3 dX12_reckonAll_201 rfl ?_
                  refine ev_iload 5 dX12_reckonAll_202 rfl ?_
                  refine ev_aload_n 3 dX12_reckonAll_204 rfl ?_
                  refine ev_gf (v := .ref 20) dX12_reckonAll_205 (fun h9 => (h9.2.1 0 _ rfl).2) 37 (by decide) (by decide) kF_X12_111 (fun h9 => congrArg va_rf (h9.2.2 0 37 20 rfl)) ?_
                  refine ev_iload_n 0 dX12_reckonAll_208 rfl ?_
                  refine ev_iconst dX12_reckonAll_209 rfl ?_
                  refine ev_isub dX12_reckonAll_210 ?_
                  obtain ⟨c36, h⟩ := am_gd_elim h
                  refine ev_lald dX12_reckonAll_211 (fun h9 => (h9.2.1 20 _ rfl).2) (am_in_vp c36) ?_
                  refine ev_aload_n 3 dX12_reckonAll_212 rfl ?_
                  refine ev_gf (v := .ref 20) dX12_reckonAll_213 (fun h9 => (h9.2.1 0 _ rfl).2) 37 (by decide) (by decide) kF_X12_111 (fun h9 => congrArg va_rf (h9.2.2 0 37 20 rfl)) ?_
                  refine ev_iload_n 0 dX12_reckonAll_216 rfl ?_
                  obtain ⟨c37, h⟩ := am_gd_elim h
                  refine ev_lald dX12_reckonAll_217 (fun h9 => (h9.2.1 20 _ rfl).2) (am_in_vp c37) ?_
                  obtain ⟨w38, g39, e40, h⟩ := am_bd_elim h
                  refine ev_callVl (v := w38) [.int x10, .long (am_L g15 20 (x35 - (1 : Int32)).toNatClampNeg), .long (am_L g15 20 x35.toNatClampNeg)] [.int (x35 - (1 : Int32)), .ref 20] dX12_reckonAll_218 (tX12_reckon e40) (by decide) mo_X12_reckon kM_X12_393 ki_X12_reckon kv_X12_reckon (fun h9 => (h9.2.1 0 _ rfl).2) (by decide) rfl (Nat.le_of_ble_eq_true rfl) ?_
                  obtain ⟨c41, h⟩ := am_gd_elim h
                  refine ev_last dX12_reckonAll_221 (fun h9 => (h9.2.1 20 _ rfl).2) (am_in_vp c41) ?_
                  refine am_let_elim (P := fun g42 => am_Ev zr MX12_reckonAll 2 222 [(3, .int x35), (4, .int x17), (6, .int x14), (0, .ref 0), (2, .int a2), (5, .int x10)] [] g42 (am_rv r)) h fun g42 h => ?_
                  refine ev_aload_n 3 dX12_reckonAll_222 rfl ?_
                  refine ev_aload_n 3 dX12_reckonAll_223 rfl ?_
                  refine ev_gf (v := .int (am_I g42 0 38)) dX12_reckonAll_224 (fun h9 => (h9.2.1 0 _ rfl).2) 38 (by decide) (by decide) kF_X12_387 (fun _ => rfl) ?_
                  refine am_jn_elim (fun q9 => ∀ (x44 : Int32) (g45 : am_G) (r : Unit × am_G), q9 x44 g45 = some r → am_Ev zr MX12_reckonAll 2 255 [(0, .ref 0), (2, .int a2), (3, .int x35), (4, .int x17)] [.int x44, .ref 0] g45 (am_rv r)) h ?_ (fun j46 hj46 h => ?_)
                  · intro x44 g45 r h
                    try dsimp only at h
                    obtain ⟨c48, h⟩ := am_gd_elim h
                    refine ev_pfi dX12_reckonAll_255 (fun h9 => (h9.2.1 0 _ rfl).2) 38 (by decide) (by decide) kF_X12_387 rfl (am_zb_n c48) (am_zb_f c48) (fun _ => rfl) ?_
                    refine am_let_elim (P := fun g47 => am_Ev zr MX12_reckonAll 2 258 [(0, .ref 0), (2, .int a2), (3, .int x35), (4, .int x17)] [] g47 (am_rv r)) h fun g47 h => ?_
                    refine ev_goto 323 dX12_reckonAll_258 (by decide) ?_
                    refine ev_sub [0, 1, 2, 3] rfl ?_
                    exact hj22 _ _ _ _ h
                  · refine am_jn_elim (fun q9 => ∀  (g49 : am_G) (r : Unit × am_G), q9  g49 = some r → am_Ev zr MX12_reckonAll 2 250 [(0, .ref 0), (2, .int a2), (3, .int x35), (4, .int x17)] [.ref 0] g49 (am_rv r)) h ?_ (fun j50 hj50 h => ?_)
                    · intro  g49 r h
                      try dsimp only at h
                      refine ev_iconst dX12_reckonAll_250 rfl ?_
                      refine ev_goto 255 dX12_reckonAll_251 (by decide) ?_
                      refine ev_sub [0, 1, 2, 3] rfl ?_
                      exact hj46 _ _ _ h
                    · refine ev_if_ne 250 dX12_reckonAll_227 (by decide) (fun c43 => ?_) (fun c43 => ?_)
                      · replace h := am_ifn c43 h
                        refine ev_sub [3, 4, 0, 1] rfl ?_
                        exact hj50  _ _ h
                      · replace h := am_ifp c43 h
                        refine ev_aload_n 3 dX12_reckonAll_230 rfl ?_
                        refine ev_gf (v := .ref 20) dX12_reckonAll_231 (fun h9 => (h9.2.1 0 _ rfl).2) 37 (by decide) (by decide) kF_X12_111 (fun h9 => congrArg va_rf (h9.2.2 0 37 20 rfl)) ?_
                        refine ev_iload_n 0 dX12_reckonAll_234 rfl ?_
                        refine ev_iconst dX12_reckonAll_235 rfl ?_
                        refine ev_isub dX12_reckonAll_236 ?_
                        obtain ⟨c51, h⟩ := am_gd_elim h
                        refine ev_lald dX12_reckonAll_237 (fun h9 => (h9.2.1 20 _ rfl).2) (am_in_vp c51) ?_
                        refine ev_ldc2 dX12_reckonAll_238 kL_X12_397 ?_
                        refine ev_ldc2 dX12_reckonAll_241 kL_X12_399 ?_
                        obtain ⟨v52, g53, e54, h⟩ := am_bd_elim h
                        refine ev_callSi (v := v52) [.long (am_L g42 20 (x35 - (1 : Int32)).toNatClampNeg), .long (-1000000000 : Int64), .long (1000000000 : Int64)] [.ref 0] dX12_reckonAll_244 (tX12_in e54) (by decide) mo_X12_in kM_X12_183 ks_X12_in (Nat.le_of_ble_eq_true rfl) ?_
                        refine ev_if_ne 254 dX12_reckonAll_247 (by decide) (fun c55 => ?_) (fun c55 => ?_)
                        · replace h := am_ifn c55 h
                          refine ev_iconst dX12_reckonAll_254 rfl ?_
                          refine ev_sub [3, 4, 0, 1] rfl ?_
                          exact hj46 _ _ _ h
                        · replace h := am_ifp c55 h
                          refine ev_sub [3, 4, 0, 1] rfl ?_
                          exact hj50  _ _ h
              · replace h := am_ifn c18 h
                refine ev_aload_n 2 dX12_reckonAll_107 rfl ?_
                refine ev_gf (v := .ref 20) dX12_reckonAll_108 (fun h9 => (h9.2.1 0 _ rfl).2) 37 (by decide) (by decide) kF_X12_111 (fun h9 => congrArg va_rf (h9.2.2 0 37 20 rfl)) ?_
                refine ev_iload_n 4 dX12_reckonAll_111 rfl ?_
                refine ev_iload 5 dX12_reckonAll_112 rfl ?_
                refine am_jn_elim (fun q9 => ∀ (y57 : Int64) (g58 : am_G) (r : Unit × am_G), q9 y57 g58 = some r → am_Ev zr MX12_reckonAll 2 177 [(0, .ref 0), (2, .int a2), (3, .int x2), (4, .int x17)] [.long y57, .int x2, .ref 20] g58 (am_rv r)) h ?_ (fun j59 hj59 h => ?_)
                · intro y57 g58 r h
                  try dsimp only at h
                  obtain ⟨c60, h⟩ := am_gd_elim h
                  refine ev_last dX12_reckonAll_177 (fun h9 => (h9.2.1 20 _ rfl).2) (am_in_vp c60) ?_
                  refine am_let_elim (P := fun g61 => am_Ev zr MX12_reckonAll 2 178 [(0, .ref 0), (2, .int a2), (3, .int x2), (4, .int x17)] [] g61 (am_rv r)) h fun g61 h => ?_
                  obtain ⟨x62, ex62, h⟩ := am_let_ex h
                  refine ev_iinc (ls' := [(3, .int x62), (0, .ref 0), (2, .int a2), (4, .int x17)]) 2 dX12_reckonAll_178 rfl ex62 (by decide) rfl ?_
                  refine ev_goto 323 dX12_reckonAll_181 (by decide) ?_
                  refine ev_sub [1, 2, 0, 3] rfl ?_
                  exact hj22 _ _ _ _ h
                · refine ev_if_ne 123 dX12_reckonAll_114 (by decide) (fun c56 => ?_) (fun c56 => ?_)
                  · replace h := am_ifn c56 h
                    refine ev_aload_n 2 dX12_reckonAll_123 rfl ?_
                    refine ev_gf (v := .int (am_I g15 0 20)) dX12_reckonAll_124 (fun h9 => (h9.2.1 0 _ rfl).2) 20 (by decide) (by decide) kF_X12_318 (fun _ => rfl) ?_
                    refine ev_if_ne 140 dX12_reckonAll_127 (by decide) (fun c63 => ?_) (fun c63 => ?_)
                    · replace h := am_ifn c63 h
                      refine ev_iload 5 dX12_reckonAll_140 rfl ?_
                      refine ev_bipush dX12_reckonAll_142 rfl ?_
                      refine ev_icmp_ge 157 dX12_reckonAll_144 (by decide) (fun c64 => ?_) (fun c64 => ?_)
                      · replace h := am_ifp c64 h
                        refine ev_aload_n 2 dX12_reckonAll_157 rfl ?_
                        refine ev_iload 1 dX12_reckonAll_158 rfl ?_
                        refine ev_iload 5 dX12_reckonAll_160 rfl ?_
                        refine ev_bipush dX12_reckonAll_162 rfl ?_
                        refine am_jn_elim (fun q9 => ∀ (x66 : Int32) (g67 : am_G) (r : Unit × am_G), q9 x66 g67 = some r → am_Ev zr MX12_reckonAll 2 173 [(0, .ref 0), (2, .int a2), (3, .int x2), (4, .int x17)] [.int x66, .int x14, .ref 0, .int x2, .ref 20] g67 (am_rv r)) h ?_ (fun j68 hj68 h => ?_)
                        · intro x66 g67 r h
                          try dsimp only at h
                          obtain ⟨v69, g70, e71, h⟩ := am_bd_elim h
                          refine ev_callVi (v := v69) [.int x14, .int x66] [.int x2, .ref 20] dX12_reckonAll_173 (tX12_ofSlope e71) (by decide) mo_X12_ofSlope kM_X12_210 ki_X12_ofSlope kv_X12_ofSlope (fun h9 => (h9.2.1 0 _ rfl).2) (by decide) rfl (Nat.le_of_ble_eq_true rfl) ?_
                          refine ev_i2l dX12_reckonAll_176 ?_
                          refine ev_sub [0, 1, 2, 3] rfl ?_
                          exact hj59 _ _ _ h
                        · refine ev_icmp_ne 171 dX12_reckonAll_164 (by decide) (fun c65 => ?_) (fun c65 => ?_)
                          · replace h := am_ifn c65 h
                            refine ev_bipush dX12_reckonAll_171 rfl ?_
                            refine ev_sub [2, 3, 4, 0] rfl ?_
                            exact hj68 _ _ _ h
                          · replace h := am_ifp c65 h
                            refine ev_iconst dX12_reckonAll_167 rfl ?_
                            refine ev_goto 173 dX12_reckonAll_168 (by decide) ?_
                            refine ev_sub [2, 3, 4, 0] rfl ?_
                            exact hj68 _ _ _ h
                      · replace h := am_ifn c64 h
                        refine ev_aload_n 2 dX12_reckonAll_147 rfl ?_
                        refine ev_gf (v := .ref 19) dX12_reckonAll_148 (fun h9 => (h9.2.1 0 _ rfl).2) 36 (by decide) (by decide) kF_X12_108 (fun h9 => congrArg va_rf (h9.2.2 0 36 19 rfl)) ?_
                        refine ev_iload 5 dX12_reckonAll_151 rfl ?_
                        obtain ⟨c72, h⟩ := am_gd_elim h
                        refine ev_lald dX12_reckonAll_153 (fun h9 => (h9.2.1 19 _ rfl).2) (am_in_vp c72) ?_
                        refine ev_goto 177 dX12_reckonAll_154 (by decide) ?_
                        refine ev_sub [2, 3, 4, 0] rfl ?_
                        exact hj59 _ _ _ h
                    · replace h := am_ifp c63 h
                      refine ev_aload_n 2 dX12_reckonAll_130 rfl ?_
                      refine ev_gf (v := .ref 18) dX12_reckonAll_131 (fun h9 => (h9.2.1 0 _ rfl).2) 35 (by decide) (by decide) kF_X12_105 (fun h9 => congrArg va_rf (h9.2.2 0 35 18 rfl)) ?_
                      refine ev_iload 5 dX12_reckonAll_134 rfl ?_
                      obtain ⟨c73, h⟩ := am_gd_elim h
                      refine ev_lald dX12_reckonAll_136 (fun h9 => (h9.2.1 18 _ rfl).2) (am_in_vp c73) ?_
                      refine ev_goto 177 dX12_reckonAll_137 (by decide) ?_
                      refine ev_sub [2, 3, 4, 0] rfl ?_
                      exact hj59 _ _ _ h
                  · replace h := am_ifp c56 h
                    refine ev_iload 1 dX12_reckonAll_117 rfl ?_
                    refine ev_i2l dX12_reckonAll_119 ?_
                    refine ev_goto 177 dX12_reckonAll_120 (by decide) ?_
                    refine ev_sub [2, 3, 4, 0] rfl ?_
                    exact hj59 _ _ _ h
          · refine ev_if_eq 76 dX12_reckonAll_63 (by decide) (fun c13 => ?_) (fun c13 => ?_)
            · replace h := am_ifp c13 h
              refine ev_aload_n 1 dX12_reckonAll_76 rfl ?_
              refine ev_gf (v := .ref 2) dX12_reckonAll_77 (fun h9 => (h9.2.1 0 _ rfl).2) 3 (by decide) (by decide) kF_X12_13 (fun h9 => congrArg va_rf (h9.2.2 0 3 2 rfl)) ?_
              refine ev_aload_n 1 dX12_reckonAll_80 rfl ?_
              refine ev_gf (v := .int (am_I g11 0 34)) dX12_reckonAll_81 (fun h9 => (h9.2.1 0 _ rfl).2) 34 (by decide) (by decide) kF_X12_390 (fun _ => rfl) ?_
              refine ev_bipush dX12_reckonAll_84 rfl ?_
              refine ev_iadd dX12_reckonAll_86 ?_
              refine ev_iconst dX12_reckonAll_87 rfl ?_
              refine ev_iload 4 dX12_reckonAll_88 rfl ?_
              refine ev_imul dX12_reckonAll_90 ?_
              refine ev_iadd dX12_reckonAll_91 ?_
              refine ev_iconst dX12_reckonAll_92 rfl ?_
              refine ev_iadd dX12_reckonAll_93 ?_
              obtain ⟨c74, h⟩ := am_gd_elim h
              refine ev_iald dX12_reckonAll_94 (fun h9 => (h9.2.1 2 _ rfl).2) (am_in_vp c74) ?_
              refine ev_sub [1, 2, 3, 4, 0] rfl ?_
              exact hj16 _ _ _ h
            · replace h := am_ifn c13 h
              refine ev_aload_n 1 dX12_reckonAll_66 rfl ?_
              refine ev_gf (v := .ref 12) dX12_reckonAll_67 (fun h9 => (h9.2.1 0 _ rfl).2) 25 (by decide) (by decide) kF_X12_48 (fun h9 => congrArg va_rf (h9.2.2 0 25 12 rfl)) ?_
              refine ev_iload 4 dX12_reckonAll_70 rfl ?_
              obtain ⟨c75, h⟩ := am_gd_elim h
              refine ev_iald dX12_reckonAll_72 (fun h9 => (h9.2.1 12 _ rfl).2) (am_in_vp c75) ?_
              refine ev_goto 95 dX12_reckonAll_73 (by decide) ?_
              refine ev_sub [1, 2, 3, 4, 0] rfl ?_
              exact hj16 _ _ _ h
        · refine ev_if_eq 40 dX12_reckonAll_27 (by decide) (fun c9 => ?_) (fun c9 => ?_)
          · replace h := am_ifp c9 h
            refine ev_aload_n 0 dX12_reckonAll_40 rfl ?_
            refine ev_gf (v := .ref 2) dX12_reckonAll_41 (fun h9 => (h9.2.1 0 _ rfl).2) 3 (by decide) (by decide) kF_X12_13 (fun h9 => congrArg va_rf (h9.2.2 0 3 2 rfl)) ?_
            refine ev_aload_n 0 dX12_reckonAll_44 rfl ?_
            refine ev_gf (v := .int (am_I g4 0 34)) dX12_reckonAll_45 (fun h9 => (h9.2.1 0 _ rfl).2) 34 (by decide) (by decide) kF_X12_390 (fun _ => rfl) ?_
            refine ev_bipush dX12_reckonAll_48 rfl ?_
            refine ev_iadd dX12_reckonAll_50 ?_
            refine ev_iconst dX12_reckonAll_51 rfl ?_
            refine ev_iload 3 dX12_reckonAll_52 rfl ?_
            refine ev_imul dX12_reckonAll_54 ?_
            refine ev_iadd dX12_reckonAll_55 ?_
            obtain ⟨c76, h⟩ := am_gd_elim h
            refine ev_iald dX12_reckonAll_56 (fun h9 => (h9.2.1 2 _ rfl).2) (am_in_vp c76) ?_
            refine ev_sub [0, 1, 2, 3] rfl ?_
            exact hj12 _ _ _ h
          · replace h := am_ifn c9 h
            refine ev_aload_n 0 dX12_reckonAll_30 rfl ?_
            refine ev_gf (v := .ref 11) dX12_reckonAll_31 (fun h9 => (h9.2.1 0 _ rfl).2) 24 (by decide) (by decide) kF_X12_45 (fun h9 => congrArg va_rf (h9.2.2 0 24 11 rfl)) ?_
            refine ev_iload 3 dX12_reckonAll_34 rfl ?_
            obtain ⟨c77, h⟩ := am_gd_elim h
            refine ev_iald dX12_reckonAll_36 (fun h9 => (h9.2.1 11 _ rfl).2) (am_in_vp c77) ?_
            refine ev_goto 57 dX12_reckonAll_37 (by decide) ?_
            refine ev_sub [0, 1, 2, 3] rfl ?_
            exact hj12 _ _ _ h
set_option maxRecDepth 100000 in
set_option maxHeartbeats 4000000 in
theorem eX12_reckonAll (a1 : Int32) (a2 : Int32) (g : am_G) (r : Unit × am_G) (h : fX12_reckonAll a1 a2 g = some r) : am_Ev zr MX12_reckonAll 2 0 [(0, .ref 0), (1, .int a1), (2, .int a2)] [] g (am_rv r) := by
  unfold fX12_reckonAll at h
  refine ev_aload_n 0 dX12_reckonAll_0 rfl ?_
  refine ev_iconst dX12_reckonAll_1 rfl ?_
  refine ev_pfi dX12_reckonAll_2 (fun h9 => (h9.2.1 0 _ rfl).2) 38 (by decide) (by decide) kF_X12_387 rfl rfl rfl (fun _ => rfl) ?_
  refine am_let_elim (P := fun g1 => am_Ev zr MX12_reckonAll 2 5 [(0, .ref 0), (1, .int a1), (2, .int a2)] [] g1 (am_rv r)) h fun g1 h => ?_
  refine ev_iconst dX12_reckonAll_5 rfl ?_
  refine ev_istore_n (ls' := [(3, .int (0 : Int32)), (0, .ref 0), (1, .int a1), (2, .int a2)]) dX12_reckonAll_6 rfl (by decide) rfl ?_
  refine ev_iload_n 2 dX12_reckonAll_7 rfl ?_
  refine ev_istore (ls' := [(4, .int a1), (3, .int (0 : Int32)), (0, .ref 0), (1, .int a1), (2, .int a2)]) dX12_reckonAll_8 (by decide) rfl ?_
  refine ev_sub [2, 4, 1, 0] rfl ?_
  refine tfX12_reckonAll_L10 a2 ?_ _ _ _ _ _ h
  intro x78 g79 r h
  try dsimp only at h
  refine ev_aload_n 0 dX12_reckonAll_326 rfl ?_
  refine ev_iload_n 1 dX12_reckonAll_327 rfl ?_
  refine ev_if_le 340 dX12_reckonAll_328 (by decide) (fun c80 => ?_) (fun c80 => ?_)
  · replace h := am_ifp c80 h
    refine ev_lconst dX12_reckonAll_340 rfl ?_
    refine ev_pfl dX12_reckonAll_341 (fun h9 => (h9.2.1 0 _ rfl).2) 39 (by decide) (by decide) kF_X12_401 rfl rfl ?_
    refine am_let_elim (P := fun g81 => am_Ev zr MX12_reckonAll 2 344 [(0, .ref 0), (3, .int x78)] [] g81 (am_rv r)) h fun g81 h => ?_
    cases h
    exact ev_ret dX12_reckonAll_344 rfl
  · replace h := am_ifn c80 h
    refine ev_aload_n 0 dX12_reckonAll_331 rfl ?_
    refine ev_gf (v := .ref 20) dX12_reckonAll_332 (fun h9 => (h9.2.1 0 _ rfl).2) 37 (by decide) (by decide) kF_X12_111 (fun h9 => congrArg va_rf (h9.2.2 0 37 20 rfl)) ?_
    refine ev_iconst dX12_reckonAll_335 rfl ?_
    obtain ⟨c82, h⟩ := am_gd_elim h
    refine ev_lald dX12_reckonAll_336 (fun h9 => (h9.2.1 20 _ rfl).2) (am_in_vp c82) ?_
    refine ev_goto 341 dX12_reckonAll_337 (by decide) ?_
    refine ev_pfl dX12_reckonAll_341 (fun h9 => (h9.2.1 0 _ rfl).2) 39 (by decide) (by decide) kF_X12_401 rfl rfl ?_
    refine am_let_elim (P := fun g83 => am_Ev zr MX12_reckonAll 2 344 [(0, .ref 0), (3, .int x78)] [] g83 (am_rv r)) h fun g83 h => ?_
    cases h
    exact ev_ret dX12_reckonAll_344 rfl
theorem tX12_reckonAll {a1 : Int32} {a2 : Int32} {g : am_G} {r : Unit × am_G} (h : fX12_reckonAll a1 a2 g = some r) : am_Mt zr MX12_reckonAll 2 [.ref 0, .int a1, .int a2] g (am_rv r) := am_Mt.of rfl (Nat.le_of_ble_eq_true rfl) (eX12_reckonAll _ _ _ _ h)
def fX12_isSo (a1 : Int32) (g : am_G) : Option (Int32 × am_G) :=
  am_gd (am_in (a1 + (5 : Int32)) 5660) <|
  am_gd (am_in (a1 + (6 : Int32)) 5660) <|
  am_jn (fun  (g4 : am_G) =>
    am_gd (am_in a1 5660) <|
    if (am_I g4 2 a1.toNatClampNeg) = (3 : Int32) then (
      some ((1 : Int32), g4))
    else (
      am_gd (am_in (a1 + (3 : Int32)) 5660) <|
      am_gd (am_in (a1 + (4 : Int32)) 5660) <|
      am_bd (fX12_reckonAll (am_I g4 2 (a1 + (3 : Int32)).toNatClampNeg) (am_I g4 2 (a1 + (4 : Int32)).toNatClampNeg) g4) fun u10 g11 =>
      am_let (am_sl g11 0 40 (am_L g11 0 39)) fun g13 =>
      if (am_I g13 0 38) = 0 then (
        some ((1 : Int32), g13))
      else (
        some ((0 : Int32), g13)))) fun j5 =>
  if (am_I g 2 (a1 + (6 : Int32)).toNatClampNeg) ≤ (am_I g 2 (a1 + (5 : Int32)).toNatClampNeg) then (
    j5 g)
  else (
    am_gd (am_in (a1 + (5 : Int32)) 5660) <|
    am_gd (am_in (a1 + (6 : Int32)) 5660) <|
    am_bd (fX12_reckonAll (am_I g 2 (a1 + (5 : Int32)).toNatClampNeg) (am_I g 2 (a1 + (6 : Int32)).toNatClampNeg) g) fun u17 g18 =>
    if (am_I g18 0 38) = 0 then (
      if (lg_cmp (am_L g18 0 39) (0 : Int64)) = 0 then (
        some ((0 : Int32), g18))
      else (
        j5 g18))
    else (
      some ((0 : Int32), g18)))
set_option maxRecDepth 100000 in
set_option maxHeartbeats 4000000 in
theorem eX12_isSo (a1 : Int32) (g : am_G) (r : Int32 × am_G) (h : fX12_isSo a1 g = some r) : am_Ev zr MX12_isSo 3 0 [(0, .ref 0), (1, .int a1)] [] g (am_ri r) := by
  unfold fX12_isSo at h
  refine ev_aload_n 0 dX12_isSo_0 rfl ?_
  refine ev_gf (v := .ref 2) dX12_isSo_1 (fun h9 => (h9.2.1 0 _ rfl).2) 3 (by decide) (by decide) kF_X12_13 (fun h9 => congrArg va_rf (h9.2.2 0 3 2 rfl)) ?_
  refine ev_iload_n 1 dX12_isSo_4 rfl ?_
  refine ev_iconst dX12_isSo_5 rfl ?_
  refine ev_iadd dX12_isSo_6 ?_
  obtain ⟨c1, h⟩ := am_gd_elim h
  refine ev_iald dX12_isSo_7 (fun h9 => (h9.2.1 2 _ rfl).2) (am_in_vp c1) ?_
  refine ev_aload_n 0 dX12_isSo_8 rfl ?_
  refine ev_gf (v := .ref 2) dX12_isSo_9 (fun h9 => (h9.2.1 0 _ rfl).2) 3 (by decide) (by decide) kF_X12_13 (fun h9 => congrArg va_rf (h9.2.2 0 3 2 rfl)) ?_
  refine ev_iload_n 1 dX12_isSo_12 rfl ?_
  refine ev_bipush dX12_isSo_13 rfl ?_
  refine ev_iadd dX12_isSo_15 ?_
  obtain ⟨c2, h⟩ := am_gd_elim h
  refine ev_iald dX12_isSo_16 (fun h9 => (h9.2.1 2 _ rfl).2) (am_in_vp c2) ?_
  refine am_jn_elim (fun q9 => ∀  (g4 : am_G) (r : Int32 × am_G), q9  g4 = some r → am_Ev zr MX12_isSo 3 59 [(0, .ref 0), (1, .int a1)] [] g4 (am_ri r)) h ?_ (fun j5 hj5 h => ?_)
  · intro  g4 r h
    try dsimp only at h
    refine ev_aload_n 0 dX12_isSo_59 rfl ?_
    refine ev_gf (v := .ref 2) dX12_isSo_60 (fun h9 => (h9.2.1 0 _ rfl).2) 3 (by decide) (by decide) kF_X12_13 (fun h9 => congrArg va_rf (h9.2.2 0 3 2 rfl)) ?_
    refine ev_iload_n 1 dX12_isSo_63 rfl ?_
    obtain ⟨c6, h⟩ := am_gd_elim h
    refine ev_iald dX12_isSo_64 (fun h9 => (h9.2.1 2 _ rfl).2) (am_in_vp c6) ?_
    refine ev_iconst dX12_isSo_65 rfl ?_
    refine ev_icmp_eq 110 dX12_isSo_66 (by decide) (fun c7 => ?_) (fun c7 => ?_)
    · replace h := am_ifp c7 h
      refine ev_iconst dX12_isSo_110 rfl ?_
      cases h
      exact ev_zret dX12_isSo_111 rfl rfl
    · replace h := am_ifn c7 h
      refine ev_aload_n 0 dX12_isSo_69 rfl ?_
      refine ev_aload_n 0 dX12_isSo_70 rfl ?_
      refine ev_gf (v := .ref 2) dX12_isSo_71 (fun h9 => (h9.2.1 0 _ rfl).2) 3 (by decide) (by decide) kF_X12_13 (fun h9 => congrArg va_rf (h9.2.2 0 3 2 rfl)) ?_
      refine ev_iload_n 1 dX12_isSo_74 rfl ?_
      refine ev_iconst dX12_isSo_75 rfl ?_
      refine ev_iadd dX12_isSo_76 ?_
      obtain ⟨c8, h⟩ := am_gd_elim h
      refine ev_iald dX12_isSo_77 (fun h9 => (h9.2.1 2 _ rfl).2) (am_in_vp c8) ?_
      refine ev_aload_n 0 dX12_isSo_78 rfl ?_
      refine ev_gf (v := .ref 2) dX12_isSo_79 (fun h9 => (h9.2.1 0 _ rfl).2) 3 (by decide) (by decide) kF_X12_13 (fun h9 => congrArg va_rf (h9.2.2 0 3 2 rfl)) ?_
      refine ev_iload_n 1 dX12_isSo_82 rfl ?_
      refine ev_iconst dX12_isSo_83 rfl ?_
      refine ev_iadd dX12_isSo_84 ?_
      obtain ⟨c9, h⟩ := am_gd_elim h
      refine ev_iald dX12_isSo_85 (fun h9 => (h9.2.1 2 _ rfl).2) (am_in_vp c9) ?_
      obtain ⟨u10, g11, e12, h⟩ := am_bd_elim h
      refine ev_callVv [.int (am_I g4 2 (a1 + (3 : Int32)).toNatClampNeg), .int (am_I g4 2 (a1 + (4 : Int32)).toNatClampNeg)] [] dX12_isSo_86 (tX12_reckonAll e12) (by decide) mo_X12_reckonAll kM_X12_404 ki_X12_reckonAll kv_X12_reckonAll (fun h9 => (h9.2.1 0 _ rfl).2) (by decide) rfl (Nat.le_of_ble_eq_true rfl) ?_
      refine ev_aload_n 0 dX12_isSo_89 rfl ?_
      refine ev_aload_n 0 dX12_isSo_90 rfl ?_
      refine ev_gf (v := .long (am_L g11 0 39)) dX12_isSo_91 (fun h9 => (h9.2.1 0 _ rfl).2) 39 (by decide) (by decide) kF_X12_401 (fun _ => rfl) ?_
      refine ev_pfl dX12_isSo_94 (fun h9 => (h9.2.1 0 _ rfl).2) 40 (by decide) (by decide) kF_X12_407 rfl rfl ?_
      refine am_let_elim (P := fun g13 => am_Ev zr MX12_isSo 3 97 [(0, .ref 0), (1, .int a1)] [] g13 (am_ri r)) h fun g13 h => ?_
      refine ev_aload_n 0 dX12_isSo_97 rfl ?_
      refine ev_gf (v := .int (am_I g13 0 38)) dX12_isSo_98 (fun h9 => (h9.2.1 0 _ rfl).2) 38 (by decide) (by decide) kF_X12_387 (fun _ => rfl) ?_
      refine ev_if_ne 108 dX12_isSo_101 (by decide) (fun c14 => ?_) (fun c14 => ?_)
      · replace h := am_ifn c14 h
        refine ev_iconst dX12_isSo_108 rfl ?_
        cases h
        exact ev_zret dX12_isSo_109 rfl rfl
      · replace h := am_ifp c14 h
        refine ev_iconst dX12_isSo_104 rfl ?_
        refine ev_goto 109 dX12_isSo_105 (by decide) ?_
        cases h
        exact ev_zret dX12_isSo_109 rfl rfl
  · refine ev_icmp_ge 59 dX12_isSo_17 (by decide) (fun c3 => ?_) (fun c3 => ?_)
    · replace h := am_ifp c3 h
      refine ev_sub [0, 1] rfl ?_
      exact hj5  _ _ h
    · replace h := am_ifn c3 h
      refine ev_aload_n 0 dX12_isSo_20 rfl ?_
      refine ev_aload_n 0 dX12_isSo_21 rfl ?_
      refine ev_gf (v := .ref 2) dX12_isSo_22 (fun h9 => (h9.2.1 0 _ rfl).2) 3 (by decide) (by decide) kF_X12_13 (fun h9 => congrArg va_rf (h9.2.2 0 3 2 rfl)) ?_
      refine ev_iload_n 1 dX12_isSo_25 rfl ?_
      refine ev_iconst dX12_isSo_26 rfl ?_
      refine ev_iadd dX12_isSo_27 ?_
      obtain ⟨c15, h⟩ := am_gd_elim h
      refine ev_iald dX12_isSo_28 (fun h9 => (h9.2.1 2 _ rfl).2) (am_in_vp c15) ?_
      refine ev_aload_n 0 dX12_isSo_29 rfl ?_
      refine ev_gf (v := .ref 2) dX12_isSo_30 (fun h9 => (h9.2.1 0 _ rfl).2) 3 (by decide) (by decide) kF_X12_13 (fun h9 => congrArg va_rf (h9.2.2 0 3 2 rfl)) ?_
      refine ev_iload_n 1 dX12_isSo_33 rfl ?_
      refine ev_bipush dX12_isSo_34 rfl ?_
      refine ev_iadd dX12_isSo_36 ?_
      obtain ⟨c16, h⟩ := am_gd_elim h
      refine ev_iald dX12_isSo_37 (fun h9 => (h9.2.1 2 _ rfl).2) (am_in_vp c16) ?_
      obtain ⟨u17, g18, e19, h⟩ := am_bd_elim h
      refine ev_callVv [.int (am_I g 2 (a1 + (5 : Int32)).toNatClampNeg), .int (am_I g 2 (a1 + (6 : Int32)).toNatClampNeg)] [] dX12_isSo_38 (tX12_reckonAll e19) (by decide) mo_X12_reckonAll kM_X12_404 ki_X12_reckonAll kv_X12_reckonAll (fun h9 => (h9.2.1 0 _ rfl).2) (by decide) rfl (Nat.le_of_ble_eq_true rfl) ?_
      refine ev_aload_n 0 dX12_isSo_41 rfl ?_
      refine ev_gf (v := .int (am_I g18 0 38)) dX12_isSo_42 (fun h9 => (h9.2.1 0 _ rfl).2) 38 (by decide) (by decide) kF_X12_387 (fun _ => rfl) ?_
      refine ev_if_ne 57 dX12_isSo_45 (by decide) (fun c20 => ?_) (fun c20 => ?_)
      · replace h := am_ifn c20 h
        refine ev_iconst dX12_isSo_57 rfl ?_
        cases h
        exact ev_zret dX12_isSo_58 rfl rfl
      · replace h := am_ifp c20 h
        refine ev_aload_n 0 dX12_isSo_48 rfl ?_
        refine ev_gf (v := .long (am_L g18 0 39)) dX12_isSo_49 (fun h9 => (h9.2.1 0 _ rfl).2) 39 (by decide) (by decide) kF_X12_401 (fun _ => rfl) ?_
        refine ev_lconst dX12_isSo_52 rfl ?_
        refine ev_lcmp dX12_isSo_53 ?_
        refine ev_if_ne 59 dX12_isSo_54 (by decide) (fun c21 => ?_) (fun c21 => ?_)
        · replace h := am_ifn c21 h
          refine ev_sub [0, 1] rfl ?_
          exact hj5  _ _ h
        · replace h := am_ifp c21 h
          refine ev_iconst dX12_isSo_57 rfl ?_
          cases h
          exact ev_zret dX12_isSo_58 rfl rfl
theorem tX12_isSo {a1 : Int32} {g : am_G} {r : Int32 × am_G} (h : fX12_isSo a1 g = some r) : am_Mt zr MX12_isSo 3 [.ref 0, .int a1] g (am_ri r) := am_Mt.of rfl (Nat.le_of_ble_eq_true rfl) (eX12_isSo _ _ _ h)
def fX12_tells_L36 (a1 : Int32) : Nat → Int64 → Int32 → am_G → Option (Int64 × am_G)
  | 0, _, _, _ => none
  | n + 1, y5, x6, g7 =>
    am_gd (am_in ((am_I g7 0 34) + (1 : Int32)) 5660) <|
    if (am_I g7 2 ((am_I g7 0 34) + (1 : Int32)).toNatClampNeg) ≤ x6 then (
      some (y5, g7))
    else (
      am_let (((am_I g7 0 34) + (2 : Int32)) + ((8 : Int32) * x6)) fun x10 =>
      am_gd (am_in x10 5660) <|
      am_jn (fun (y13 : Int64) (g14 : am_G) =>
        am_let (x6 + (1 : Int32)) fun x16 =>
        fX12_tells_L36 a1 n y13 x16 g14) fun j15 =>
      if (am_I g7 2 x10.toNatClampNeg) = a1 then (
        am_bd (fX12_isSo x10 g7) fun v17 g18 =>
        if v17 = 0 then (
          j15 y5 g18)
        else (
          am_jn (fun (y22 : Int64) (g23 : am_G) =>
            j15 y22 g23) fun j24 =>
          if a1 = (3 : Int32) then (
            j24 (1 : Int64) g18)
          else (
            j24 (am_L g18 0 40) g18)))
      else (
        j15 y5 g7))
def fX12_tells (a1 : Int32) (a2 : Int64) (g : am_G) : Option (Int64 × am_G) :=
  am_gd (am_in (5 : Int32) 5660) <|
  if (am_I g 2 (5 : Int32).toNatClampNeg) = (-1 : Int32) then (
    some (a2, g))
  else (
    am_gd (am_in (5 : Int32) 5660) <|
    am_let (am_si g 0 34 ((260 : Int32) + ((900 : Int32) * (am_I g 2 (5 : Int32).toNatClampNeg)))) fun g4 =>
    fX12_tells_L36 a1 am_fu a2 (0 : Int32) g4)
set_option maxRecDepth 100000 in
set_option maxHeartbeats 4000000 in
theorem tfX12_tells_L36  (a1 : Int32) : ∀ (n : Nat) (y5 : Int64) (x6 : Int32) (g7 : am_G) (r : Int64 × am_G), fX12_tells_L36 a1 n y5 x6 g7 = some r → am_Ev zr MX12_tells 4 36 [(0, .ref 0), (1, .int a1), (4, .long y5), (6, .int x6)] [] g7 (am_rl r) := by
  intro n
  induction n with
  | zero => intro y5 x6 g7 r h; exact nomatch (show (none : Option (Int64 × am_G)) = some r from h)
  | succ n ih =>
    intro y5 x6 g7 r h
    rw [fX12_tells_L36] at h
    refine ev_iload 3 dX12_tells_36 rfl ?_
    refine ev_aload_n 0 dX12_tells_38 rfl ?_
    refine ev_gf (v := .ref 2) dX12_tells_39 (fun h9 => (h9.2.1 0 _ rfl).2) 3 (by decide) (by decide) kF_X12_13 (fun h9 => congrArg va_rf (h9.2.2 0 3 2 rfl)) ?_
    refine ev_aload_n 0 dX12_tells_42 rfl ?_
    refine ev_gf (v := .int (am_I g7 0 34)) dX12_tells_43 (fun h9 => (h9.2.1 0 _ rfl).2) 34 (by decide) (by decide) kF_X12_390 (fun _ => rfl) ?_
    refine ev_iconst dX12_tells_46 rfl ?_
    refine ev_iadd dX12_tells_47 ?_
    obtain ⟨c8, h⟩ := am_gd_elim h
    refine ev_iald dX12_tells_48 (fun h9 => (h9.2.1 2 _ rfl).2) (am_in_vp c8) ?_
    refine ev_icmp_ge 107 dX12_tells_49 (by decide) (fun c9 => ?_) (fun c9 => ?_)
    · replace h := am_ifp c9 h
      refine ev_lload 2 dX12_tells_107 rfl ?_
      cases h
      exact ev_lret dX12_tells_109 rfl
    · replace h := am_ifn c9 h
      refine ev_aload_n 0 dX12_tells_52 rfl ?_
      refine ev_gf (v := .int (am_I g7 0 34)) dX12_tells_53 (fun h9 => (h9.2.1 0 _ rfl).2) 34 (by decide) (by decide) kF_X12_390 (fun _ => rfl) ?_
      refine ev_iconst dX12_tells_56 rfl ?_
      refine ev_iadd dX12_tells_57 ?_
      refine ev_bipush dX12_tells_58 rfl ?_
      refine ev_iload 3 dX12_tells_60 rfl ?_
      refine ev_imul dX12_tells_62 ?_
      refine ev_iadd dX12_tells_63 ?_
      refine am_let_elim (P := fun x10 => am_Ev zr MX12_tells 4 64 [(0, .ref 0), (1, .int a1), (4, .long y5), (6, .int x6)] [.int x10] g7 (am_rl r)) h fun x10 h => ?_
      refine ev_istore (ls' := [(7, .int x10), (0, .ref 0), (1, .int a1), (4, .long y5), (6, .int x6)]) dX12_tells_64 (by decide) rfl ?_
      refine ev_aload_n 1 dX12_tells_66 rfl ?_
      refine ev_gf (v := .ref 2) dX12_tells_67 (fun h9 => (h9.2.1 0 _ rfl).2) 3 (by decide) (by decide) kF_X12_13 (fun h9 => congrArg va_rf (h9.2.2 0 3 2 rfl)) ?_
      refine ev_iload 0 dX12_tells_70 rfl ?_
      obtain ⟨c11, h⟩ := am_gd_elim h
      refine ev_iald dX12_tells_72 (fun h9 => (h9.2.1 2 _ rfl).2) (am_in_vp c11) ?_
      refine ev_iload_n 2 dX12_tells_73 rfl ?_
      refine am_jn_elim (fun q9 => ∀ (y13 : Int64) (g14 : am_G) (r : Int64 × am_G), q9 y13 g14 = some r → am_Ev zr MX12_tells 4 101 [(0, .ref 0), (1, .int a1), (4, .long y13), (6, .int x6)] [] g14 (am_rl r)) h ?_ (fun j15 hj15 h => ?_)
      · intro y13 g14 r h
        try dsimp only at h
        obtain ⟨x16, ex16, h⟩ := am_let_ex h
        refine ev_iinc (ls' := [(6, .int x16), (0, .ref 0), (1, .int a1), (4, .long y13)]) 3 dX12_tells_101 rfl ex16 (by decide) rfl ?_
        refine ev_goto 36 dX12_tells_104 (by decide) ?_
        refine ev_sub [1, 2, 3, 0] rfl ?_
        exact ih _ _ _ _ h
      · refine ev_icmp_ne 101 dX12_tells_74 (by decide) (fun c12 => ?_) (fun c12 => ?_)
        · replace h := am_ifn c12 h
          refine ev_sub [1, 2, 3, 4] rfl ?_
          exact hj15 _ _ _ h
        · replace h := am_ifp c12 h
          refine ev_aload_n 1 dX12_tells_77 rfl ?_
          refine ev_iload 0 dX12_tells_78 rfl ?_
          obtain ⟨v17, g18, e19, h⟩ := am_bd_elim h
          refine ev_callVi (v := v17) [.int x10] [] dX12_tells_80 (tX12_isSo e19) (by decide) mo_X12_isSo kM_X12_410 ki_X12_isSo kv_X12_isSo (fun h9 => (h9.2.1 0 _ rfl).2) (by decide) rfl (Nat.le_of_ble_eq_true rfl) ?_
          refine ev_if_eq 101 dX12_tells_83 (by decide) (fun c20 => ?_) (fun c20 => ?_)
          · replace h := am_ifp c20 h
            refine ev_sub [1, 2, 3, 4] rfl ?_
            exact hj15 _ _ _ h
          · replace h := am_ifn c20 h
            refine ev_iload_n 2 dX12_tells_86 rfl ?_
            refine ev_iconst dX12_tells_87 rfl ?_
            refine am_jn_elim (fun q9 => ∀ (y22 : Int64) (g23 : am_G) (r : Int64 × am_G), q9 y22 g23 = some r → am_Ev zr MX12_tells 4 99 [(0, .ref 0), (1, .int a1), (6, .int x6)] [.long y22] g23 (am_rl r)) h ?_ (fun j24 hj24 h => ?_)
            · intro y22 g23 r h
              try dsimp only at h
              refine ev_lstore (ls' := [(4, .long y22), (0, .ref 0), (1, .int a1), (6, .int x6)]) dX12_tells_99 (by decide) rfl ?_
              refine ev_sub [1, 2, 0, 3] rfl ?_
              exact hj15 _ _ _ h
            · refine ev_icmp_ne 95 dX12_tells_88 (by decide) (fun c21 => ?_) (fun c21 => ?_)
              · replace h := am_ifn c21 h
                refine ev_aload_n 1 dX12_tells_95 rfl ?_
                refine ev_gf (v := .long (am_L g18 0 40)) dX12_tells_96 (fun h9 => (h9.2.1 0 _ rfl).2) 40 (by decide) (by decide) kF_X12_407 (fun _ => rfl) ?_
                refine ev_sub [1, 2, 4] rfl ?_
                exact hj24 _ _ _ h
              · replace h := am_ifp c21 h
                refine ev_lconst dX12_tells_91 rfl ?_
                refine ev_goto 99 dX12_tells_92 (by decide) ?_
                refine ev_sub [1, 2, 4] rfl ?_
                exact hj24 _ _ _ h
set_option maxRecDepth 100000 in
set_option maxHeartbeats 4000000 in
theorem eX12_tells (a1 : Int32) (a2 : Int64) (g : am_G) (r : Int64 × am_G) (h : fX12_tells a1 a2 g = some r) : am_Ev zr MX12_tells 4 0 [(0, .ref 0), (1, .int a1), (2, .long a2)] [] g (am_rl r) := by
  unfold fX12_tells at h
  refine ev_aload_n 0 dX12_tells_0 rfl ?_
  refine ev_gf (v := .ref 2) dX12_tells_1 (fun h9 => (h9.2.1 0 _ rfl).2) 3 (by decide) (by decide) kF_X12_13 (fun h9 => congrArg va_rf (h9.2.2 0 3 2 rfl)) ?_
  refine ev_iconst dX12_tells_4 rfl ?_
  obtain ⟨c1, h⟩ := am_gd_elim h
  refine ev_iald dX12_tells_5 (fun h9 => (h9.2.1 2 _ rfl).2) (am_in_vp c1) ?_
  refine ev_iconst dX12_tells_6 rfl ?_
  refine ev_icmp_ne 12 dX12_tells_7 (by decide) (fun c2 => ?_) (fun c2 => ?_)
  · replace h := am_ifn c2 h
    refine ev_aload_n 0 dX12_tells_12 rfl ?_
    refine ev_sipush dX12_tells_13 rfl ?_
    refine ev_sipush dX12_tells_16 rfl ?_
    refine ev_aload_n 0 dX12_tells_19 rfl ?_
    refine ev_gf (v := .ref 2) dX12_tells_20 (fun h9 => (h9.2.1 0 _ rfl).2) 3 (by decide) (by decide) kF_X12_13 (fun h9 => congrArg va_rf (h9.2.2 0 3 2 rfl)) ?_
    refine ev_iconst dX12_tells_23 rfl ?_
    obtain ⟨c3, h⟩ := am_gd_elim h
    refine ev_iald dX12_tells_24 (fun h9 => (h9.2.1 2 _ rfl).2) (am_in_vp c3) ?_
    refine ev_imul dX12_tells_25 ?_
    refine ev_iadd dX12_tells_26 ?_
    refine ev_pfi dX12_tells_27 (fun h9 => (h9.2.1 0 _ rfl).2) 34 (by decide) (by decide) kF_X12_390 rfl rfl rfl (fun _ => rfl) ?_
    refine am_let_elim (P := fun g4 => am_Ev zr MX12_tells 4 30 [(0, .ref 0), (1, .int a1), (2, .long a2)] [] g4 (am_rl r)) h fun g4 h => ?_
    refine ev_lload_n 2 dX12_tells_30 rfl ?_
    refine ev_lstore (ls' := [(4, .long a2), (0, .ref 0), (1, .int a1), (2, .long a2)]) dX12_tells_31 (by decide) rfl ?_
    refine ev_iconst dX12_tells_33 rfl ?_
    refine ev_istore (ls' := [(6, .int (0 : Int32)), (4, .long a2), (0, .ref 0), (1, .int a1), (2, .long a2)]) dX12_tells_34 (by decide) rfl ?_
    refine ev_sub [2, 3, 1, 0] rfl ?_
    exact tfX12_tells_L36 a1 _ _ _ _ _ h
  · replace h := am_ifp c2 h
    refine ev_lload_n 2 dX12_tells_10 rfl ?_
    cases h
    exact ev_lret dX12_tells_11 rfl
theorem tX12_tells {a1 : Int32} {a2 : Int64} {g : am_G} {r : Int64 × am_G} (h : fX12_tells a1 a2 g = some r) : am_Mt zr MX12_tells 4 [.ref 0, .int a1, .long a2] g (am_rl r) := am_Mt.of rfl (Nat.le_of_ble_eq_true rfl) (eX12_tells _ _ _ _ h)
def fX12_setWord (a1 : Int32) (a2 : Int32) (a3 : Int32) (g : am_G) : Option (Unit × am_G) :=
  am_gd (am_in (1 : Int32) 13) <|
  am_let (am_sl g 18 (1 : Int32).toNatClampNeg a1.toInt64) fun g2 =>
  am_jn (fun (y4 : Int64) (g5 : am_G) =>
    am_gd (am_in (2 : Int32) 13) <|
    am_let (am_sl g5 18 (2 : Int32).toNatClampNeg y4) fun g8 =>
    am_jn (fun (y10 : Int64) (g11 : am_G) =>
      am_gd (am_in (3 : Int32) 13) <|
      am_let (am_sl g11 18 (3 : Int32).toNatClampNeg y10) fun g14 =>
      am_gd (am_in (4 : Int32) 13) <|
      am_let (am_sl g14 18 (4 : Int32).toNatClampNeg a3.toInt64) fun g16 =>
      am_gd (am_in (5 : Int32) 13) <|
      am_let (am_sl g16 18 (5 : Int32).toNatClampNeg a2.toInt64) fun g18 =>
      am_gd (am_in (6 : Int32) 13) <|
      am_let (am_sl g18 18 (6 : Int32).toNatClampNeg (-1 : Int64)) fun g20 =>
      am_gd (am_in (7 : Int32) 13) <|
      am_let (am_sl g20 18 (7 : Int32).toNatClampNeg (-1 : Int64)) fun g22 =>
      am_gd (am_in (8 : Int32) 13) <|
      am_let (am_sl g22 18 (8 : Int32).toNatClampNeg (-1 : Int64)) fun g24 =>
      am_bd (fX12_day g24) fun v25 g26 =>
      am_gd (am_in (9 : Int32) 13) <|
      am_let (am_sl g26 18 (9 : Int32).toNatClampNeg v25.toInt64) fun g29 =>
      am_gd (am_in (7 : Int32) 5660) <|
      am_gd (am_in (10 : Int32) 13) <|
      am_let (am_sl g29 18 (10 : Int32).toNatClampNeg ((am_I g29 2 (7 : Int32).toNatClampNeg).toInt64)) fun g32 =>
      some ((), g32)) fun j12 =>
    if a1 = (-1 : Int32) then (
      j12 (-1 : Int64) g8)
    else (
      am_bd (fX12_ofWord a1 (1 : Int32) g8) fun v33 g34 =>
      j12 v33.toInt64 g34)) fun j6 =>
  if a1 = (-1 : Int32) then (
    j6 (-1 : Int64) g2)
  else (
    am_bd (fX12_ofWord a1 (0 : Int32) g2) fun v36 g37 =>
    j6 v36.toInt64 g37)
set_option maxRecDepth 100000 in
set_option maxHeartbeats 4000000 in
theorem eX12_setWord (a1 : Int32) (a2 : Int32) (a3 : Int32) (g : am_G) (r : Unit × am_G) (h : fX12_setWord a1 a2 a3 g = some r) : am_Ev zr MX12_setWord 1 0 [(0, .ref 0), (1, .int a1), (2, .int a2), (3, .int a3)] [] g (am_rv r) := by
  unfold fX12_setWord at h
  refine ev_aload_n 0 dX12_setWord_0 rfl ?_
  refine ev_gf (v := .ref 18) dX12_setWord_1 (fun h9 => (h9.2.1 0 _ rfl).2) 35 (by decide) (by decide) kF_X12_105 (fun h9 => congrArg va_rf (h9.2.2 0 35 18 rfl)) ?_
  refine ev_iconst dX12_setWord_4 rfl ?_
  refine ev_iload_n 1 dX12_setWord_5 rfl ?_
  refine ev_i2l dX12_setWord_6 ?_
  obtain ⟨c1, h⟩ := am_gd_elim h
  refine ev_last dX12_setWord_7 (fun h9 => (h9.2.1 18 _ rfl).2) (am_in_vp c1) ?_
  refine am_let_elim (P := fun g2 => am_Ev zr MX12_setWord 1 8 [(0, .ref 0), (1, .int a1), (2, .int a2), (3, .int a3)] [] g2 (am_rv r)) h fun g2 h => ?_
  refine ev_aload_n 0 dX12_setWord_8 rfl ?_
  refine ev_gf (v := .ref 18) dX12_setWord_9 (fun h9 => (h9.2.1 0 _ rfl).2) 35 (by decide) (by decide) kF_X12_105 (fun h9 => congrArg va_rf (h9.2.2 0 35 18 rfl)) ?_
  refine ev_iconst dX12_setWord_12 rfl ?_
  refine ev_iload_n 1 dX12_setWord_13 rfl ?_
  refine ev_iconst dX12_setWord_14 rfl ?_
  refine am_jn_elim (fun q9 => ∀ (y4 : Int64) (g5 : am_G) (r : Unit × am_G), q9 y4 g5 = some r → am_Ev zr MX12_setWord 1 31 [(0, .ref 0), (1, .int a1), (2, .int a2), (3, .int a3)] [.long y4, .int (2 : Int32), .ref 18] g5 (am_rv r)) h ?_ (fun j6 hj6 h => ?_)
  · intro y4 g5 r h
    try dsimp only at h
    obtain ⟨c7, h⟩ := am_gd_elim h
    refine ev_last dX12_setWord_31 (fun h9 => (h9.2.1 18 _ rfl).2) (am_in_vp c7) ?_
    refine am_let_elim (P := fun g8 => am_Ev zr MX12_setWord 1 32 [(0, .ref 0), (1, .int a1), (2, .int a2), (3, .int a3)] [] g8 (am_rv r)) h fun g8 h => ?_
    refine ev_aload_n 0 dX12_setWord_32 rfl ?_
    refine ev_gf (v := .ref 18) dX12_setWord_33 (fun h9 => (h9.2.1 0 _ rfl).2) 35 (by decide) (by decide) kF_X12_105 (fun h9 => congrArg va_rf (h9.2.2 0 35 18 rfl)) ?_
    refine ev_iconst dX12_setWord_36 rfl ?_
    refine ev_iload_n 1 dX12_setWord_37 rfl ?_
    refine ev_iconst dX12_setWord_38 rfl ?_
    refine am_jn_elim (fun q9 => ∀ (y10 : Int64) (g11 : am_G) (r : Unit × am_G), q9 y10 g11 = some r → am_Ev zr MX12_setWord 1 55 [(0, .ref 0), (2, .int a2), (3, .int a3)] [.long y10, .int (3 : Int32), .ref 18] g11 (am_rv r)) h ?_ (fun j12 hj12 h => ?_)
    · intro y10 g11 r h
      try dsimp only at h
      obtain ⟨c13, h⟩ := am_gd_elim h
      refine ev_last dX12_setWord_55 (fun h9 => (h9.2.1 18 _ rfl).2) (am_in_vp c13) ?_
      refine am_let_elim (P := fun g14 => am_Ev zr MX12_setWord 1 56 [(0, .ref 0), (2, .int a2), (3, .int a3)] [] g14 (am_rv r)) h fun g14 h => ?_
      refine ev_aload_n 0 dX12_setWord_56 rfl ?_
      refine ev_gf (v := .ref 18) dX12_setWord_57 (fun h9 => (h9.2.1 0 _ rfl).2) 35 (by decide) (by decide) kF_X12_105 (fun h9 => congrArg va_rf (h9.2.2 0 35 18 rfl)) ?_
      refine ev_iconst dX12_setWord_60 rfl ?_
      refine ev_iload_n 2 dX12_setWord_61 rfl ?_
      refine ev_i2l dX12_setWord_62 ?_
      obtain ⟨c15, h⟩ := am_gd_elim h
      refine ev_last dX12_setWord_63 (fun h9 => (h9.2.1 18 _ rfl).2) (am_in_vp c15) ?_
      refine am_let_elim (P := fun g16 => am_Ev zr MX12_setWord 1 64 [(0, .ref 0), (2, .int a2), (3, .int a3)] [] g16 (am_rv r)) h fun g16 h => ?_
      refine ev_aload_n 0 dX12_setWord_64 rfl ?_
      refine ev_gf (v := .ref 18) dX12_setWord_65 (fun h9 => (h9.2.1 0 _ rfl).2) 35 (by decide) (by decide) kF_X12_105 (fun h9 => congrArg va_rf (h9.2.2 0 35 18 rfl)) ?_
      refine ev_iconst dX12_setWord_68 rfl ?_
      refine ev_iload_n 1 dX12_setWord_69 rfl ?_
      refine ev_i2l dX12_setWord_70 ?_
      obtain ⟨c17, h⟩ := am_gd_elim h
      refine ev_last dX12_setWord_71 (fun h9 => (h9.2.1 18 _ rfl).2) (am_in_vp c17) ?_
      refine am_let_elim (P := fun g18 => am_Ev zr MX12_setWord 1 72 [(0, .ref 0), (2, .int a2), (3, .int a3)] [] g18 (am_rv r)) h fun g18 h => ?_
      refine ev_aload_n 0 dX12_setWord_72 rfl ?_
      refine ev_gf (v := .ref 18) dX12_setWord_73 (fun h9 => (h9.2.1 0 _ rfl).2) 35 (by decide) (by decide) kF_X12_105 (fun h9 => congrArg va_rf (h9.2.2 0 35 18 rfl)) ?_
      refine ev_bipush dX12_setWord_76 rfl ?_
      refine ev_ldc2 dX12_setWord_78 kL_X12_266 ?_
      obtain ⟨c19, h⟩ := am_gd_elim h
      refine ev_last dX12_setWord_81 (fun h9 => (h9.2.1 18 _ rfl).2) (am_in_vp c19) ?_
      refine am_let_elim (P := fun g20 => am_Ev zr MX12_setWord 1 82 [(0, .ref 0), (2, .int a2), (3, .int a3)] [] g20 (am_rv r)) h fun g20 h => ?_
      refine ev_aload_n 0 dX12_setWord_82 rfl ?_
      refine ev_gf (v := .ref 18) dX12_setWord_83 (fun h9 => (h9.2.1 0 _ rfl).2) 35 (by decide) (by decide) kF_X12_105 (fun h9 => congrArg va_rf (h9.2.2 0 35 18 rfl)) ?_
      refine ev_bipush dX12_setWord_86 rfl ?_
      refine ev_ldc2 dX12_setWord_88 kL_X12_266 ?_
      obtain ⟨c21, h⟩ := am_gd_elim h
      refine ev_last dX12_setWord_91 (fun h9 => (h9.2.1 18 _ rfl).2) (am_in_vp c21) ?_
      refine am_let_elim (P := fun g22 => am_Ev zr MX12_setWord 1 92 [(0, .ref 0), (2, .int a2), (3, .int a3)] [] g22 (am_rv r)) h fun g22 h => ?_
      refine ev_aload_n 0 dX12_setWord_92 rfl ?_
      refine ev_gf (v := .ref 18) dX12_setWord_93 (fun h9 => (h9.2.1 0 _ rfl).2) 35 (by decide) (by decide) kF_X12_105 (fun h9 => congrArg va_rf (h9.2.2 0 35 18 rfl)) ?_
      refine ev_bipush dX12_setWord_96 rfl ?_
      refine ev_ldc2 dX12_setWord_98 kL_X12_266 ?_
      obtain ⟨c23, h⟩ := am_gd_elim h
      refine ev_last dX12_setWord_101 (fun h9 => (h9.2.1 18 _ rfl).2) (am_in_vp c23) ?_
      refine am_let_elim (P := fun g24 => am_Ev zr MX12_setWord 1 102 [(0, .ref 0), (2, .int a2), (3, .int a3)] [] g24 (am_rv r)) h fun g24 h => ?_
      refine ev_aload_n 0 dX12_setWord_102 rfl ?_
      refine ev_gf (v := .ref 18) dX12_setWord_103 (fun h9 => (h9.2.1 0 _ rfl).2) 35 (by decide) (by decide) kF_X12_105 (fun h9 => congrArg va_rf (h9.2.2 0 35 18 rfl)) ?_
      refine ev_bipush dX12_setWord_106 rfl ?_
      refine ev_aload_n 0 dX12_setWord_108 rfl ?_
      obtain ⟨v25, g26, e27, h⟩ := am_bd_elim h
      refine ev_callVi (v := v25) [] [.int (9 : Int32), .ref 18] dX12_setWord_109 (tX12_day e27) (by decide) mo_X12_day kM_X12_413 ki_X12_day kv_X12_day (fun h9 => (h9.2.1 0 _ rfl).2) (by decide) rfl (Nat.le_of_ble_eq_true rfl) ?_
      refine ev_i2l dX12_setWord_112 ?_
      obtain ⟨c28, h⟩ := am_gd_elim h
      refine ev_last dX12_setWord_113 (fun h9 => (h9.2.1 18 _ rfl).2) (am_in_vp c28) ?_
      refine am_let_elim (P := fun g29 => am_Ev zr MX12_setWord 1 114 [(0, .ref 0), (2, .int a2), (3, .int a3)] [] g29 (am_rv r)) h fun g29 h => ?_
      refine ev_aload_n 0 dX12_setWord_114 rfl ?_
      refine ev_gf (v := .ref 18) dX12_setWord_115 (fun h9 => (h9.2.1 0 _ rfl).2) 35 (by decide) (by decide) kF_X12_105 (fun h9 => congrArg va_rf (h9.2.2 0 35 18 rfl)) ?_
      refine ev_bipush dX12_setWord_118 rfl ?_
      refine ev_aload_n 0 dX12_setWord_120 rfl ?_
      refine ev_gf (v := .ref 2) dX12_setWord_121 (fun h9 => (h9.2.1 0 _ rfl).2) 3 (by decide) (by decide) kF_X12_13 (fun h9 => congrArg va_rf (h9.2.2 0 3 2 rfl)) ?_
      refine ev_bipush dX12_setWord_124 rfl ?_
      obtain ⟨c30, h⟩ := am_gd_elim h
      refine ev_iald dX12_setWord_126 (fun h9 => (h9.2.1 2 _ rfl).2) (am_in_vp c30) ?_
      refine ev_i2l dX12_setWord_127 ?_
      obtain ⟨c31, h⟩ := am_gd_elim h
      refine ev_last dX12_setWord_128 (fun h9 => (h9.2.1 18 _ rfl).2) (am_in_vp c31) ?_
      refine am_let_elim (P := fun g32 => am_Ev zr MX12_setWord 1 129 [(0, .ref 0), (2, .int a2), (3, .int a3)] [] g32 (am_rv r)) h fun g32 h => ?_
      cases h
      exact ev_ret dX12_setWord_129 rfl
    · refine ev_icmp_ne 48 dX12_setWord_39 (by decide) (fun c9 => ?_) (fun c9 => ?_)
      · replace h := am_ifn c9 h
        refine ev_aload_n 0 dX12_setWord_48 rfl ?_
        refine ev_iload_n 1 dX12_setWord_49 rfl ?_
        refine ev_iconst dX12_setWord_50 rfl ?_
        obtain ⟨v33, g34, e35, h⟩ := am_bd_elim h
        refine ev_callVi (v := v33) [.int a1, .int (1 : Int32)] [.int (3 : Int32), .ref 18] dX12_setWord_51 (tX12_ofWord e35) (by decide) mo_X12_ofWord kM_X12_220 ki_X12_ofWord kv_X12_ofWord (fun h9 => (h9.2.1 0 _ rfl).2) (by decide) rfl (Nat.le_of_ble_eq_true rfl) ?_
        refine ev_i2l dX12_setWord_54 ?_
        refine ev_sub [0, 2, 3] rfl ?_
        exact hj12 _ _ _ h
      · replace h := am_ifp c9 h
        refine ev_ldc2 dX12_setWord_42 kL_X12_266 ?_
        refine ev_goto 55 dX12_setWord_45 (by decide) ?_
        refine ev_sub [0, 2, 3] rfl ?_
        exact hj12 _ _ _ h
  · refine ev_icmp_ne 24 dX12_setWord_15 (by decide) (fun c3 => ?_) (fun c3 => ?_)
    · replace h := am_ifn c3 h
      refine ev_aload_n 0 dX12_setWord_24 rfl ?_
      refine ev_iload_n 1 dX12_setWord_25 rfl ?_
      refine ev_iconst dX12_setWord_26 rfl ?_
      obtain ⟨v36, g37, e38, h⟩ := am_bd_elim h
      refine ev_callVi (v := v36) [.int a1, .int (0 : Int32)] [.int (2 : Int32), .ref 18] dX12_setWord_27 (tX12_ofWord e38) (by decide) mo_X12_ofWord kM_X12_220 ki_X12_ofWord kv_X12_ofWord (fun h9 => (h9.2.1 0 _ rfl).2) (by decide) rfl (Nat.le_of_ble_eq_true rfl) ?_
      refine ev_i2l dX12_setWord_30 ?_
      refine ev_sub [0, 1, 2, 3] rfl ?_
      exact hj6 _ _ _ h
    · replace h := am_ifp c3 h
      refine ev_ldc2 dX12_setWord_18 kL_X12_266 ?_
      refine ev_goto 31 dX12_setWord_21 (by decide) ?_
      refine ev_sub [0, 1, 2, 3] rfl ?_
      exact hj6 _ _ _ h
theorem tX12_setWord {a1 : Int32} {a2 : Int32} {a3 : Int32} {g : am_G} {r : Unit × am_G} (h : fX12_setWord a1 a2 a3 g = some r) : am_Mt zr MX12_setWord 1 [.ref 0, .int a1, .int a2, .int a3] g (am_rv r) := am_Mt.of rfl (Nat.le_of_ble_eq_true rfl) (eX12_setWord _ _ _ _ _ h)
def fX12_shakesOf (a1 : Int32) (a2 : Int32) (a3 : Int32) (a4 : Int32) (g : am_G) : Option (Int32 × am_G) :=
  am_bd (fX12_setWord a1 a2 a3 g) fun u1 g2 =>
  am_bd (fX12_ofSlope a4 ((4 : Int32) + a2) g2) fun v4 g5 =>
  am_gd (am_in (6 : Int32) 13) <|
  am_let (am_sl g5 18 (6 : Int32).toNatClampNeg v4.toInt64) fun g8 =>
  am_gd (am_in (7 : Int32) 13) <|
  am_let (am_sl g8 18 (7 : Int32).toNatClampNeg a4.toInt64) fun g10 =>
  am_bd (fX12_ofSlope a4 (0 : Int32) g10) fun v11 g12 =>
  am_gd (am_in (8 : Int32) 13) <|
  am_let (am_sl g12 18 (8 : Int32).toNatClampNeg v11.toInt64) fun g15 =>
  am_bd (fX12_ofWord a1 (0 : Int32) g15) fun v16 g17 =>
  am_let ((v16 * a3) - v4) fun x19 =>
  if 0 ≤ x19 then (
    am_bd (fX12_tells (0 : Int32) x19.toInt64 g17) fun w21 g22 =>
    am_bd (fX12_within w21 (0 : Int32) (999 : Int32) g22) fun v24 g25 =>
    some (v24, g25))
  else (
    am_bd (fX12_tells (0 : Int32) (0 : Int64) g17) fun w27 g28 =>
    am_bd (fX12_within w27 (0 : Int32) (999 : Int32) g28) fun v30 g31 =>
    some (v30, g31))
set_option maxRecDepth 100000 in
set_option maxHeartbeats 4000000 in
theorem eX12_shakesOf (a1 : Int32) (a2 : Int32) (a3 : Int32) (a4 : Int32) (g : am_G) (r : Int32 × am_G) (h : fX12_shakesOf a1 a2 a3 a4 g = some r) : am_Ev zr MX12_shakesOf 5 0 [(0, .ref 0), (1, .int a1), (2, .int a2), (3, .int a3), (4, .int a4)] [] g (am_ri r) := by
  unfold fX12_shakesOf at h
  refine ev_aload_n 0 dX12_shakesOf_0 rfl ?_
  refine ev_iload_n 1 dX12_shakesOf_1 rfl ?_
  refine ev_iload_n 2 dX12_shakesOf_2 rfl ?_
  refine ev_iload_n 3 dX12_shakesOf_3 rfl ?_
  obtain ⟨u1, g2, e3, h⟩ := am_bd_elim h
  refine ev_callVv [.int a1, .int a2, .int a3] [] dX12_shakesOf_4 (tX12_setWord e3) (by decide) mo_X12_setWord kM_X12_416 ki_X12_setWord kv_X12_setWord (fun h9 => (h9.2.1 0 _ rfl).2) (by decide) rfl (Nat.le_of_ble_eq_true rfl) ?_
  refine ev_aload_n 0 dX12_shakesOf_7 rfl ?_
  refine ev_iload 4 dX12_shakesOf_8 rfl ?_
  refine ev_iconst dX12_shakesOf_10 rfl ?_
  refine ev_iload_n 2 dX12_shakesOf_11 rfl ?_
  refine ev_iadd dX12_shakesOf_12 ?_
  obtain ⟨v4, g5, e6, h⟩ := am_bd_elim h
  refine ev_callVi (v := v4) [.int a4, .int ((4 : Int32) + a2)] [] dX12_shakesOf_13 (tX12_ofSlope e6) (by decide) mo_X12_ofSlope kM_X12_210 ki_X12_ofSlope kv_X12_ofSlope (fun h9 => (h9.2.1 0 _ rfl).2) (by decide) rfl (Nat.le_of_ble_eq_true rfl) ?_
  refine ev_istore (ls' := [(5, .int v4), (0, .ref 0), (1, .int a1), (2, .int a2), (3, .int a3), (4, .int a4)]) dX12_shakesOf_16 (by decide) rfl ?_
  refine ev_aload_n 1 dX12_shakesOf_18 rfl ?_
  refine ev_gf (v := .ref 18) dX12_shakesOf_19 (fun h9 => (h9.2.1 0 _ rfl).2) 35 (by decide) (by decide) kF_X12_105 (fun h9 => congrArg va_rf (h9.2.2 0 35 18 rfl)) ?_
  refine ev_bipush dX12_shakesOf_22 rfl ?_
  refine ev_iload 0 dX12_shakesOf_24 rfl ?_
  refine ev_i2l dX12_shakesOf_26 ?_
  obtain ⟨c7, h⟩ := am_gd_elim h
  refine ev_last dX12_shakesOf_27 (fun h9 => (h9.2.1 18 _ rfl).2) (am_in_vp c7) ?_
  refine am_let_elim (P := fun g8 => am_Ev zr MX12_shakesOf 5 28 [(5, .int v4), (0, .ref 0), (1, .int a1), (2, .int a2), (3, .int a3), (4, .int a4)] [] g8 (am_ri r)) h fun g8 h => ?_
  refine ev_aload_n 1 dX12_shakesOf_28 rfl ?_
  refine ev_gf (v := .ref 18) dX12_shakesOf_29 (fun h9 => (h9.2.1 0 _ rfl).2) 35 (by decide) (by decide) kF_X12_105 (fun h9 => congrArg va_rf (h9.2.2 0 35 18 rfl)) ?_
  refine ev_bipush dX12_shakesOf_32 rfl ?_
  refine ev_iload 5 dX12_shakesOf_34 rfl ?_
  refine ev_i2l dX12_shakesOf_36 ?_
  obtain ⟨c9, h⟩ := am_gd_elim h
  refine ev_last dX12_shakesOf_37 (fun h9 => (h9.2.1 18 _ rfl).2) (am_in_vp c9) ?_
  refine am_let_elim (P := fun g10 => am_Ev zr MX12_shakesOf 5 38 [(5, .int v4), (0, .ref 0), (1, .int a1), (2, .int a2), (3, .int a3), (4, .int a4)] [] g10 (am_ri r)) h fun g10 h => ?_
  refine ev_aload_n 1 dX12_shakesOf_38 rfl ?_
  refine ev_gf (v := .ref 18) dX12_shakesOf_39 (fun h9 => (h9.2.1 0 _ rfl).2) 35 (by decide) (by decide) kF_X12_105 (fun h9 => congrArg va_rf (h9.2.2 0 35 18 rfl)) ?_
  refine ev_bipush dX12_shakesOf_42 rfl ?_
  refine ev_aload_n 1 dX12_shakesOf_44 rfl ?_
  refine ev_iload 5 dX12_shakesOf_45 rfl ?_
  refine ev_iconst dX12_shakesOf_47 rfl ?_
  obtain ⟨v11, g12, e13, h⟩ := am_bd_elim h
  refine ev_callVi (v := v11) [.int a4, .int (0 : Int32)] [.int (8 : Int32), .ref 18] dX12_shakesOf_48 (tX12_ofSlope e13) (by decide) mo_X12_ofSlope kM_X12_210 ki_X12_ofSlope kv_X12_ofSlope (fun h9 => (h9.2.1 0 _ rfl).2) (by decide) rfl (Nat.le_of_ble_eq_true rfl) ?_
  refine ev_i2l dX12_shakesOf_51 ?_
  obtain ⟨c14, h⟩ := am_gd_elim h
  refine ev_last dX12_shakesOf_52 (fun h9 => (h9.2.1 18 _ rfl).2) (am_in_vp c14) ?_
  refine am_let_elim (P := fun g15 => am_Ev zr MX12_shakesOf 5 53 [(5, .int v4), (0, .ref 0), (1, .int a1), (2, .int a2), (3, .int a3), (4, .int a4)] [] g15 (am_ri r)) h fun g15 h => ?_
  refine ev_aload_n 1 dX12_shakesOf_53 rfl ?_
  refine ev_iload_n 2 dX12_shakesOf_54 rfl ?_
  refine ev_iconst dX12_shakesOf_55 rfl ?_
  obtain ⟨v16, g17, e18, h⟩ := am_bd_elim h
  refine ev_callVi (v := v16) [.int a1, .int (0 : Int32)] [] dX12_shakesOf_56 (tX12_ofWord e18) (by decide) mo_X12_ofWord kM_X12_220 ki_X12_ofWord kv_X12_ofWord (fun h9 => (h9.2.1 0 _ rfl).2) (by decide) rfl (Nat.le_of_ble_eq_true rfl) ?_
  refine ev_iload_n 4 dX12_shakesOf_59 rfl ?_
  refine ev_imul dX12_shakesOf_60 ?_
  refine ev_iload 0 dX12_shakesOf_61 rfl ?_
  refine ev_isub dX12_shakesOf_63 ?_
  refine am_let_elim (P := fun x19 => am_Ev zr MX12_shakesOf 5 64 [(5, .int v4), (0, .ref 0), (1, .int a1), (2, .int a2), (3, .int a3), (4, .int a4)] [.int x19] g17 (am_ri r)) h fun x19 h => ?_
  refine ev_istore (ls' := [(6, .int x19), (5, .int v4), (0, .ref 0), (1, .int a1), (2, .int a2), (3, .int a3), (4, .int a4)]) dX12_shakesOf_64 (by decide) rfl ?_
  refine ev_aload_n 2 dX12_shakesOf_66 rfl ?_
  refine ev_iconst dX12_shakesOf_67 rfl ?_
  refine ev_iload 0 dX12_shakesOf_68 rfl ?_
  refine ev_if_ge 77 dX12_shakesOf_70 (by decide) (fun c20 => ?_) (fun c20 => ?_)
  · replace h := am_ifp c20 h
    refine ev_iload 0 dX12_shakesOf_77 rfl ?_
    refine ev_i2l dX12_shakesOf_79 ?_
    obtain ⟨w21, g22, e23, h⟩ := am_bd_elim h
    refine ev_callVl (v := w21) [.int (0 : Int32), .long x19.toInt64] [] dX12_shakesOf_80 (tX12_tells e23) (by decide) mo_X12_tells kM_X12_420 ki_X12_tells kv_X12_tells (fun h9 => (h9.2.1 0 _ rfl).2) (by decide) rfl (Nat.le_of_ble_eq_true rfl) ?_
    refine ev_iconst dX12_shakesOf_83 rfl ?_
    refine ev_sipush dX12_shakesOf_84 rfl ?_
    obtain ⟨v24, g25, e26, h⟩ := am_bd_elim h
    refine ev_callSi (v := v24) [.long w21, .int (0 : Int32), .int (999 : Int32)] [] dX12_shakesOf_87 (tX12_within e26) (by decide) mo_X12_within kM_X12_424 ks_X12_within (Nat.le_of_ble_eq_true rfl) ?_
    cases h
    exact ev_iret dX12_shakesOf_90 rfl
  · replace h := am_ifn c20 h
    refine ev_lconst dX12_shakesOf_73 rfl ?_
    refine ev_goto 80 dX12_shakesOf_74 (by decide) ?_
    obtain ⟨w27, g28, e29, h⟩ := am_bd_elim h
    refine ev_callVl (v := w27) [.int (0 : Int32), .long (0 : Int64)] [] dX12_shakesOf_80 (tX12_tells e29) (by decide) mo_X12_tells kM_X12_420 ki_X12_tells kv_X12_tells (fun h9 => (h9.2.1 0 _ rfl).2) (by decide) rfl (Nat.le_of_ble_eq_true rfl) ?_
    refine ev_iconst dX12_shakesOf_83 rfl ?_
    refine ev_sipush dX12_shakesOf_84 rfl ?_
    obtain ⟨v30, g31, e32, h⟩ := am_bd_elim h
    refine ev_callSi (v := v30) [.long w27, .int (0 : Int32), .int (999 : Int32)] [] dX12_shakesOf_87 (tX12_within e32) (by decide) mo_X12_within kM_X12_424 ks_X12_within (Nat.le_of_ble_eq_true rfl) ?_
    cases h
    exact ev_iret dX12_shakesOf_90 rfl
theorem tX12_shakesOf {a1 : Int32} {a2 : Int32} {a3 : Int32} {a4 : Int32} {g : am_G} {r : Int32 × am_G} (h : fX12_shakesOf a1 a2 a3 a4 g = some r) : am_Mt zr MX12_shakesOf 5 [.ref 0, .int a1, .int a2, .int a3, .int a4] g (am_ri r) := am_Mt.of rfl (Nat.le_of_ble_eq_true rfl) (eX12_shakesOf _ _ _ _ _ _ h)
def fX12_isBarred (a1 : Int32) (a2 : Int32) (a3 : Int32) (g : am_G) : Option (Int32 × am_G) :=
  am_bd (fX12_setWord a1 a2 a3 g) fun u1 g2 =>
  am_bd (fX12_tells (3 : Int32) (0 : Int64) g2) fun w4 g5 =>
  if (lg_cmp w4 (1 : Int64)) = 0 then (
    some ((1 : Int32), g5))
  else (
    some ((0 : Int32), g5))
set_option maxRecDepth 100000 in
set_option maxHeartbeats 4000000 in
theorem eX12_isBarred (a1 : Int32) (a2 : Int32) (a3 : Int32) (g : am_G) (r : Int32 × am_G) (h : fX12_isBarred a1 a2 a3 g = some r) : am_Ev zr MX12_isBarred 5 0 [(0, .ref 0), (1, .int a1), (2, .int a2), (3, .int a3)] [] g (am_ri r) := by
  unfold fX12_isBarred at h
  refine ev_aload_n 0 dX12_isBarred_0 rfl ?_
  refine ev_iload_n 1 dX12_isBarred_1 rfl ?_
  refine ev_iload_n 2 dX12_isBarred_2 rfl ?_
  refine ev_iload_n 3 dX12_isBarred_3 rfl ?_
  obtain ⟨u1, g2, e3, h⟩ := am_bd_elim h
  refine ev_callVv [.int a1, .int a2, .int a3] [] dX12_isBarred_4 (tX12_setWord e3) (by decide) mo_X12_setWord kM_X12_416 ki_X12_setWord kv_X12_setWord (fun h9 => (h9.2.1 0 _ rfl).2) (by decide) rfl (Nat.le_of_ble_eq_true rfl) ?_
  refine ev_aload_n 0 dX12_isBarred_7 rfl ?_
  refine ev_iconst dX12_isBarred_8 rfl ?_
  refine ev_lconst dX12_isBarred_9 rfl ?_
  obtain ⟨w4, g5, e6, h⟩ := am_bd_elim h
  refine ev_callVl (v := w4) [.int (3 : Int32), .long (0 : Int64)] [] dX12_isBarred_10 (tX12_tells e6) (by decide) mo_X12_tells kM_X12_420 ki_X12_tells kv_X12_tells (fun h9 => (h9.2.1 0 _ rfl).2) (by decide) rfl (Nat.le_of_ble_eq_true rfl) ?_
  refine ev_lconst dX12_isBarred_13 rfl ?_
  refine ev_lcmp dX12_isBarred_14 ?_
  refine ev_if_ne 22 dX12_isBarred_15 (by decide) (fun c7 => ?_) (fun c7 => ?_)
  · replace h := am_ifn c7 h
    refine ev_iconst dX12_isBarred_22 rfl ?_
    cases h
    exact ev_zret dX12_isBarred_23 rfl rfl
  · replace h := am_ifp c7 h
    refine ev_iconst dX12_isBarred_18 rfl ?_
    refine ev_goto 23 dX12_isBarred_19 (by decide) ?_
    cases h
    exact ev_zret dX12_isBarred_23 rfl rfl
theorem tX12_isBarred {a1 : Int32} {a2 : Int32} {a3 : Int32} {g : am_G} {r : Int32 × am_G} (h : fX12_isBarred a1 a2 a3 g = some r) : am_Mt zr MX12_isBarred 5 [.ref 0, .int a1, .int a2, .int a3] g (am_ri r) := am_Mt.of rfl (Nat.le_of_ble_eq_true rfl) (eX12_isBarred _ _ _ _ _ h)
def fX12_skyTells (a1 : Int32) (a2 : Int32) (a3 : Int64) (g : am_G) : Option (Int32 × am_G) :=
  am_bd (fX12_setWord (-1 : Int32) (-1 : Int32) (-1 : Int32) g) fun u1 g2 =>
  am_gd (am_in (7 : Int32) 13) <|
  am_let (am_sl g2 18 (7 : Int32).toNatClampNeg a2.toInt64) fun g5 =>
  am_bd (fX12_ofSlope a2 (0 : Int32) g5) fun v6 g7 =>
  am_gd (am_in (8 : Int32) 13) <|
  am_let (am_sl g7 18 (8 : Int32).toNatClampNeg v6.toInt64) fun g10 =>
  am_bd (fX12_tells a1 a3 g10) fun w11 g12 =>
  am_bd (fX12_within w11 (0 : Int32) (99 : Int32) g12) fun v14 g15 =>
  some (v14, g15)
set_option maxRecDepth 100000 in
set_option maxHeartbeats 4000000 in
theorem eX12_skyTells (a1 : Int32) (a2 : Int32) (a3 : Int64) (g : am_G) (r : Int32 × am_G) (h : fX12_skyTells a1 a2 a3 g = some r) : am_Ev zr MX12_skyTells 5 0 [(0, .ref 0), (1, .int a1), (2, .int a2), (3, .long a3)] [] g (am_ri r) := by
  unfold fX12_skyTells at h
  refine ev_aload_n 0 dX12_skyTells_0 rfl ?_
  refine ev_iconst dX12_skyTells_1 rfl ?_
  refine ev_iconst dX12_skyTells_2 rfl ?_
  refine ev_iconst dX12_skyTells_3 rfl ?_
  obtain ⟨u1, g2, e3, h⟩ := am_bd_elim h
  refine ev_callVv [.int (-1 : Int32), .int (-1 : Int32), .int (-1 : Int32)] [] dX12_skyTells_4 (tX12_setWord e3) (by decide) mo_X12_setWord kM_X12_416 ki_X12_setWord kv_X12_setWord (fun h9 => (h9.2.1 0 _ rfl).2) (by decide) rfl (Nat.le_of_ble_eq_true rfl) ?_
  refine ev_aload_n 0 dX12_skyTells_7 rfl ?_
  refine ev_gf (v := .ref 18) dX12_skyTells_8 (fun h9 => (h9.2.1 0 _ rfl).2) 35 (by decide) (by decide) kF_X12_105 (fun h9 => congrArg va_rf (h9.2.2 0 35 18 rfl)) ?_
  refine ev_bipush dX12_skyTells_11 rfl ?_
  refine ev_iload_n 2 dX12_skyTells_13 rfl ?_
  refine ev_i2l dX12_skyTells_14 ?_
  obtain ⟨c4, h⟩ := am_gd_elim h
  refine ev_last dX12_skyTells_15 (fun h9 => (h9.2.1 18 _ rfl).2) (am_in_vp c4) ?_
  refine am_let_elim (P := fun g5 => am_Ev zr MX12_skyTells 5 16 [(0, .ref 0), (1, .int a1), (2, .int a2), (3, .long a3)] [] g5 (am_ri r)) h fun g5 h => ?_
  refine ev_aload_n 0 dX12_skyTells_16 rfl ?_
  refine ev_gf (v := .ref 18) dX12_skyTells_17 (fun h9 => (h9.2.1 0 _ rfl).2) 35 (by decide) (by decide) kF_X12_105 (fun h9 => congrArg va_rf (h9.2.2 0 35 18 rfl)) ?_
  refine ev_bipush dX12_skyTells_20 rfl ?_
  refine ev_aload_n 0 dX12_skyTells_22 rfl ?_
  refine ev_iload_n 2 dX12_skyTells_23 rfl ?_
  refine ev_iconst dX12_skyTells_24 rfl ?_
  obtain ⟨v6, g7, e8, h⟩ := am_bd_elim h
  refine ev_callVi (v := v6) [.int a2, .int (0 : Int32)] [.int (8 : Int32), .ref 18] dX12_skyTells_25 (tX12_ofSlope e8) (by decide) mo_X12_ofSlope kM_X12_210 ki_X12_ofSlope kv_X12_ofSlope (fun h9 => (h9.2.1 0 _ rfl).2) (by decide) rfl (Nat.le_of_ble_eq_true rfl) ?_
  refine ev_i2l dX12_skyTells_28 ?_
  obtain ⟨c9, h⟩ := am_gd_elim h
  refine ev_last dX12_skyTells_29 (fun h9 => (h9.2.1 18 _ rfl).2) (am_in_vp c9) ?_
  refine am_let_elim (P := fun g10 => am_Ev zr MX12_skyTells 5 30 [(0, .ref 0), (1, .int a1), (2, .int a2), (3, .long a3)] [] g10 (am_ri r)) h fun g10 h => ?_
  refine ev_aload_n 0 dX12_skyTells_30 rfl ?_
  refine ev_iload_n 1 dX12_skyTells_31 rfl ?_
  refine ev_lload_n 3 dX12_skyTells_32 rfl ?_
  obtain ⟨w11, g12, e13, h⟩ := am_bd_elim h
  refine ev_callVl (v := w11) [.int a1, .long a3] [] dX12_skyTells_33 (tX12_tells e13) (by decide) mo_X12_tells kM_X12_420 ki_X12_tells kv_X12_tells (fun h9 => (h9.2.1 0 _ rfl).2) (by decide) rfl (Nat.le_of_ble_eq_true rfl) ?_
  refine ev_iconst dX12_skyTells_36 rfl ?_
  refine ev_bipush dX12_skyTells_37 rfl ?_
  obtain ⟨v14, g15, e16, h⟩ := am_bd_elim h
  refine ev_callSi (v := v14) [.long w11, .int (0 : Int32), .int (99 : Int32)] [] dX12_skyTells_39 (tX12_within e16) (by decide) mo_X12_within kM_X12_424 ks_X12_within (Nat.le_of_ble_eq_true rfl) ?_
  cases h
  exact ev_iret dX12_skyTells_42 rfl
theorem tX12_skyTells {a1 : Int32} {a2 : Int32} {a3 : Int64} {g : am_G} {r : Int32 × am_G} (h : fX12_skyTells a1 a2 a3 g = some r) : am_Mt zr MX12_skyTells 5 [.ref 0, .int a1, .int a2, .long a3] g (am_ri r) := am_Mt.of rfl (Nat.le_of_ble_eq_true rfl) (eX12_skyTells _ _ _ _ _ h)
def fX12_asks (a1 : Int32) (a2 : Int32) (a3 : Int32) (a4 : Int32) (a5 : Int32) (g : am_G) : Option (Int32 × am_G) :=
  am_let (am_si g 0 0 (0 : Int32)) fun g1 =>
  am_bd (fX12_isWord1 a1 g1) fun v2 g3 =>
  if v2 = 0 then (
    some ((-1 : Int32), g3))
  else (
    am_bd (fX12_isPlace a2 g3) fun v6 g7 =>
    if v6 = 0 then (
      some ((-1 : Int32), g7))
    else (
      am_bd (fX12_isLoud a3 g7) fun v10 g11 =>
      if v10 = 0 then (
        some ((-1 : Int32), g11))
      else (
        am_bd (fX12_in a5.toInt64 (0 : Int64) (1 : Int64) g11) fun v14 g15 =>
        if v14 = 0 then (
          some ((-1 : Int32), g15))
        else (
          am_jn (fun  (g19 : am_G) =>
            if a5 = 0 then (
              am_bd (fX12_shakesOf a1 a2 a3 a4 g19) fun v26 g27 =>
              some (v26, g27))
            else (
              am_bd (fX12_isBarred a1 a2 a3 g19) fun v22 g23 =>
              if v22 = 0 then (
                some ((0 : Int32), g23))
              else (
                some ((1 : Int32), g23)))) fun j20 =>
          if a5 = 0 then (
            am_bd (fX12_isSlope a4 g15) fun v29 g30 =>
            if v29 = 0 then (
              some ((-1 : Int32), g30))
            else (
              j20 g30))
          else (
            j20 g15)))))
set_option maxRecDepth 100000 in
set_option maxHeartbeats 4000000 in
theorem eX12_asks (a1 : Int32) (a2 : Int32) (a3 : Int32) (a4 : Int32) (a5 : Int32) (g : am_G) (r : Int32 × am_G) (h : fX12_asks a1 a2 a3 a4 a5 g = some r) : am_Ev zr MX12_asks 6 0 [(0, .ref 0), (1, .int a1), (2, .int a2), (3, .int a3), (4, .int a4), (5, .int a5)] [] g (am_ri r) := by
  unfold fX12_asks at h
  refine ev_aload_n 0 dX12_asks_0 rfl ?_
  refine ev_iconst dX12_asks_1 rfl ?_
  refine ev_pfi dX12_asks_2 (fun h9 => (h9.2.1 0 _ rfl).2) 0 (by decide) (by decide) kF_X12_163 rfl rfl rfl (fun _ => rfl) ?_
  refine am_let_elim (P := fun g1 => am_Ev zr MX12_asks 6 5 [(0, .ref 0), (1, .int a1), (2, .int a2), (3, .int a3), (4, .int a4), (5, .int a5)] [] g1 (am_ri r)) h fun g1 h => ?_
  refine ev_aload_n 0 dX12_asks_5 rfl ?_
  refine ev_iload_n 1 dX12_asks_6 rfl ?_
  obtain ⟨v2, g3, e4, h⟩ := am_bd_elim h
  refine ev_callVi (v := v2) [.int a1] [] dX12_asks_7 (tX12_isWord1 e4) (by decide) mo_X12_isWord1 kM_X12_217 ki_X12_isWord1 kv_X12_isWord1 (fun h9 => (h9.2.1 0 _ rfl).2) (by decide) rfl (Nat.le_of_ble_eq_true rfl) ?_
  refine ev_if_eq 51 dX12_asks_10 (by decide) (fun c5 => ?_) (fun c5 => ?_)
  · replace h := am_ifp c5 h
    refine ev_iconst dX12_asks_51 rfl ?_
    cases h
    exact ev_iret dX12_asks_52 rfl
  · replace h := am_ifn c5 h
    refine ev_iload_n 2 dX12_asks_13 rfl ?_
    obtain ⟨v6, g7, e8, h⟩ := am_bd_elim h
    refine ev_callSi (v := v6) [.int a2] [] dX12_asks_14 (tX12_isPlace e8) (by decide) mo_X12_isPlace kM_X12_428 ks_X12_isPlace (Nat.le_of_ble_eq_true rfl) ?_
    refine ev_if_eq 51 dX12_asks_17 (by decide) (fun c9 => ?_) (fun c9 => ?_)
    · replace h := am_ifp c9 h
      refine ev_iconst dX12_asks_51 rfl ?_
      cases h
      exact ev_iret dX12_asks_52 rfl
    · replace h := am_ifn c9 h
      refine ev_iload_n 3 dX12_asks_20 rfl ?_
      obtain ⟨v10, g11, e12, h⟩ := am_bd_elim h
      refine ev_callSi (v := v10) [.int a3] [] dX12_asks_21 (tX12_isLoud e12) (by decide) mo_X12_isLoud kM_X12_431 ks_X12_isLoud (Nat.le_of_ble_eq_true rfl) ?_
      refine ev_if_eq 51 dX12_asks_24 (by decide) (fun c13 => ?_) (fun c13 => ?_)
      · replace h := am_ifp c13 h
        refine ev_iconst dX12_asks_51 rfl ?_
        cases h
        exact ev_iret dX12_asks_52 rfl
      · replace h := am_ifn c13 h
        refine ev_iload 5 dX12_asks_27 rfl ?_
        refine ev_i2l dX12_asks_29 ?_
        refine ev_lconst dX12_asks_30 rfl ?_
        refine ev_lconst dX12_asks_31 rfl ?_
        obtain ⟨v14, g15, e16, h⟩ := am_bd_elim h
        refine ev_callSi (v := v14) [.long a5.toInt64, .long (0 : Int64), .long (1 : Int64)] [] dX12_asks_32 (tX12_in e16) (by decide) mo_X12_in kM_X12_183 ks_X12_in (Nat.le_of_ble_eq_true rfl) ?_
        refine ev_if_eq 51 dX12_asks_35 (by decide) (fun c17 => ?_) (fun c17 => ?_)
        · replace h := am_ifp c17 h
          refine ev_iconst dX12_asks_51 rfl ?_
          cases h
          exact ev_iret dX12_asks_52 rfl
        · replace h := am_ifn c17 h
          refine ev_iload 5 dX12_asks_38 rfl ?_
          refine am_jn_elim (fun q9 => ∀  (g19 : am_G) (r : Int32 × am_G), q9  g19 = some r → am_Ev zr MX12_asks 6 53 [(0, .ref 0), (1, .int a1), (2, .int a2), (3, .int a3), (4, .int a4), (5, .int a5)] [] g19 (am_ri r)) h ?_ (fun j20 hj20 h => ?_)
          · intro  g19 r h
            try dsimp only at h
            refine ev_iload 5 dX12_asks_53 rfl ?_
            refine ev_if_ne 70 dX12_asks_55 (by decide) (fun c21 => ?_) (fun c21 => ?_)
            · replace h := am_ifn c21 h
              refine ev_aload_n 0 dX12_asks_70 rfl ?_
              refine ev_iload_n 1 dX12_asks_71 rfl ?_
              refine ev_iload_n 2 dX12_asks_72 rfl ?_
              refine ev_iload_n 3 dX12_asks_73 rfl ?_
              obtain ⟨v22, g23, e24, h⟩ := am_bd_elim h
              refine ev_callVi (v := v22) [.int a1, .int a2, .int a3] [] dX12_asks_74 (tX12_isBarred e24) (by decide) mo_X12_isBarred kM_X12_438 ki_X12_isBarred kv_X12_isBarred (fun h9 => (h9.2.1 0 _ rfl).2) (by decide) rfl (Nat.le_of_ble_eq_true rfl) ?_
              refine ev_if_eq 84 dX12_asks_77 (by decide) (fun c25 => ?_) (fun c25 => ?_)
              · replace h := am_ifp c25 h
                refine ev_iconst dX12_asks_84 rfl ?_
                cases h
                exact ev_iret dX12_asks_85 rfl
              · replace h := am_ifn c25 h
                refine ev_iconst dX12_asks_80 rfl ?_
                refine ev_goto 85 dX12_asks_81 (by decide) ?_
                cases h
                exact ev_iret dX12_asks_85 rfl
            · replace h := am_ifp c21 h
              refine ev_aload_n 0 dX12_asks_58 rfl ?_
              refine ev_iload_n 1 dX12_asks_59 rfl ?_
              refine ev_iload_n 2 dX12_asks_60 rfl ?_
              refine ev_iload_n 3 dX12_asks_61 rfl ?_
              refine ev_iload 4 dX12_asks_62 rfl ?_
              obtain ⟨v26, g27, e28, h⟩ := am_bd_elim h
              refine ev_callVi (v := v26) [.int a1, .int a2, .int a3, .int a4] [] dX12_asks_64 (tX12_shakesOf e28) (by decide) mo_X12_shakesOf kM_X12_434 ki_X12_shakesOf kv_X12_shakesOf (fun h9 => (h9.2.1 0 _ rfl).2) (by decide) rfl (Nat.le_of_ble_eq_true rfl) ?_
              refine ev_goto 85 dX12_asks_67 (by decide) ?_
              cases h
              exact ev_iret dX12_asks_85 rfl
          · refine ev_if_ne 53 dX12_asks_40 (by decide) (fun c18 => ?_) (fun c18 => ?_)
            · replace h := am_ifn c18 h
              refine ev_sub [0, 1, 2, 3, 4, 5] rfl ?_
              exact hj20  _ _ h
            · replace h := am_ifp c18 h
              refine ev_iload 4 dX12_asks_43 rfl ?_
              obtain ⟨v29, g30, e31, h⟩ := am_bd_elim h
              refine ev_callSi (v := v29) [.int a4] [] dX12_asks_45 (tX12_isSlope e31) (by decide) mo_X12_isSlope kM_X12_199 ks_X12_isSlope (Nat.le_of_ble_eq_true rfl) ?_
              refine ev_if_ne 53 dX12_asks_48 (by decide) (fun c32 => ?_) (fun c32 => ?_)
              · replace h := am_ifn c32 h
                refine ev_sub [0, 1, 2, 3, 4, 5] rfl ?_
                exact hj20  _ _ h
              · replace h := am_ifp c32 h
                refine ev_iconst dX12_asks_51 rfl ?_
                cases h
                exact ev_iret dX12_asks_52 rfl
theorem tX12_asks {a1 : Int32} {a2 : Int32} {a3 : Int32} {a4 : Int32} {a5 : Int32} {g : am_G} {r : Int32 × am_G} (h : fX12_asks a1 a2 a3 a4 a5 g = some r) : am_Mt zr MX12_asks 6 [.ref 0, .int a1, .int a2, .int a3, .int a4, .int a5] g (am_ri r) := am_Mt.of rfl (Nat.le_of_ble_eq_true rfl) (eX12_asks _ _ _ _ _ _ _ h)
def fX12_weather (a1 : Int32) (a2 : Int32) (g : am_G) : Option (Int32 × am_G) :=
  am_let (am_si g 0 0 (0 : Int32)) fun g1 =>
  am_bd (fX12_isSlope a1 g1) fun v2 g3 =>
  if v2 = 0 then (
    some ((-1 : Int32), g3))
  else (
    am_bd (fX12_in a2.toInt64 (0 : Int64) (1 : Int64) g3) fun v6 g7 =>
    if v6 = 0 then (
      some ((-1 : Int32), g7))
    else (
      if a2 = 0 then (
        am_bd (fX12_skyTells (1 : Int32) a1 (10 : Int64) g7) fun v14 g15 =>
        some (v14, g15))
      else (
        am_bd (fX12_skyTells (2 : Int32) a1 (0 : Int64) g7) fun v11 g12 =>
        some (v11, g12))))
set_option maxRecDepth 100000 in
set_option maxHeartbeats 4000000 in
theorem eX12_weather (a1 : Int32) (a2 : Int32) (g : am_G) (r : Int32 × am_G) (h : fX12_weather a1 a2 g = some r) : am_Ev zr MX12_weather 6 0 [(0, .ref 0), (1, .int a1), (2, .int a2)] [] g (am_ri r) := by
  unfold fX12_weather at h
  refine ev_aload_n 0 dX12_weather_0 rfl ?_
  refine ev_iconst dX12_weather_1 rfl ?_
  refine ev_pfi dX12_weather_2 (fun h9 => (h9.2.1 0 _ rfl).2) 0 (by decide) (by decide) kF_X12_163 rfl rfl rfl (fun _ => rfl) ?_
  refine am_let_elim (P := fun g1 => am_Ev zr MX12_weather 6 5 [(0, .ref 0), (1, .int a1), (2, .int a2)] [] g1 (am_ri r)) h fun g1 h => ?_
  refine ev_iload_n 1 dX12_weather_5 rfl ?_
  obtain ⟨v2, g3, e4, h⟩ := am_bd_elim h
  refine ev_callSi (v := v2) [.int a1] [] dX12_weather_6 (tX12_isSlope e4) (by decide) mo_X12_isSlope kM_X12_199 ks_X12_isSlope (Nat.le_of_ble_eq_true rfl) ?_
  refine ev_if_eq 22 dX12_weather_9 (by decide) (fun c5 => ?_) (fun c5 => ?_)
  · replace h := am_ifp c5 h
    refine ev_iconst dX12_weather_22 rfl ?_
    cases h
    exact ev_iret dX12_weather_23 rfl
  · replace h := am_ifn c5 h
    refine ev_iload_n 2 dX12_weather_12 rfl ?_
    refine ev_i2l dX12_weather_13 ?_
    refine ev_lconst dX12_weather_14 rfl ?_
    refine ev_lconst dX12_weather_15 rfl ?_
    obtain ⟨v6, g7, e8, h⟩ := am_bd_elim h
    refine ev_callSi (v := v6) [.long a2.toInt64, .long (0 : Int64), .long (1 : Int64)] [] dX12_weather_16 (tX12_in e8) (by decide) mo_X12_in kM_X12_183 ks_X12_in (Nat.le_of_ble_eq_true rfl) ?_
    refine ev_if_ne 24 dX12_weather_19 (by decide) (fun c9 => ?_) (fun c9 => ?_)
    · replace h := am_ifn c9 h
      refine ev_iload_n 2 dX12_weather_24 rfl ?_
      refine ev_if_ne 40 dX12_weather_25 (by decide) (fun c10 => ?_) (fun c10 => ?_)
      · replace h := am_ifn c10 h
        refine ev_aload_n 0 dX12_weather_40 rfl ?_
        refine ev_iconst dX12_weather_41 rfl ?_
        refine ev_iload_n 1 dX12_weather_42 rfl ?_
        refine ev_lconst dX12_weather_43 rfl ?_
        obtain ⟨v11, g12, e13, h⟩ := am_bd_elim h
        refine ev_callVi (v := v11) [.int (2 : Int32), .int a1, .long (0 : Int64)] [] dX12_weather_44 (tX12_skyTells e13) (by decide) mo_X12_skyTells kM_X12_441 ki_X12_skyTells kv_X12_skyTells (fun h9 => (h9.2.1 0 _ rfl).2) (by decide) rfl (Nat.le_of_ble_eq_true rfl) ?_
        cases h
        exact ev_iret dX12_weather_47 rfl
      · replace h := am_ifp c10 h
        refine ev_aload_n 0 dX12_weather_28 rfl ?_
        refine ev_iconst dX12_weather_29 rfl ?_
        refine ev_iload_n 1 dX12_weather_30 rfl ?_
        refine ev_ldc2 dX12_weather_31 kL_X12_270 ?_
        obtain ⟨v14, g15, e16, h⟩ := am_bd_elim h
        refine ev_callVi (v := v14) [.int (1 : Int32), .int a1, .long (10 : Int64)] [] dX12_weather_34 (tX12_skyTells e16) (by decide) mo_X12_skyTells kM_X12_441 ki_X12_skyTells kv_X12_skyTells (fun h9 => (h9.2.1 0 _ rfl).2) (by decide) rfl (Nat.le_of_ble_eq_true rfl) ?_
        refine ev_goto 47 dX12_weather_37 (by decide) ?_
        cases h
        exact ev_iret dX12_weather_47 rfl
    · replace h := am_ifp c9 h
      refine ev_iconst dX12_weather_22 rfl ?_
      cases h
      exact ev_iret dX12_weather_23 rfl
theorem tX12_weather {a1 : Int32} {a2 : Int32} {g : am_G} {r : Int32 × am_G} (h : fX12_weather a1 a2 g = some r) : am_Mt zr MX12_weather 6 [.ref 0, .int a1, .int a2] g (am_ri r) := am_Mt.of rfl (Nat.le_of_ble_eq_true rfl) (eX12_weather _ _ _ _ h)
def fX12_slide_L124 (a1 : Int32) : Nat → Int32 → am_G → Option (Unit × am_G)
  | 0, _, _ => none
  | n + 1, x26, g27 =>
    if (6 : Int32) ≤ x26 then (
      some ((), g27))
    else (
      am_gd (am_in (((70 : Int32) + ((6 : Int32) * a1)) + x26) 5660) <|
      am_gd (am_in (((106 : Int32) + ((6 : Int32) * a1)) + x26) 5660) <|
      am_let (am_si g27 2 (((106 : Int32) + ((6 : Int32) * a1)) + x26).toNatClampNeg (am_I g27 2 (((70 : Int32) + ((6 : Int32) * a1)) + x26).toNatClampNeg)) fun g31 =>
      am_gd (am_in (((70 : Int32) + ((6 : Int32) * a1)) + x26) 5660) <|
      am_let (am_si g31 2 (((70 : Int32) + ((6 : Int32) * a1)) + x26).toNatClampNeg (0 : Int32)) fun g33 =>
      am_let (x26 + (1 : Int32)) fun x34 =>
      fX12_slide_L124 a1 n x34 g33)
def fX12_slide (a1 : Int32) (g : am_G) : Option (Unit × am_G) :=
  am_bd (fX12_ofSlope a1 (0 : Int32) g) fun v1 g2 =>
  am_bd (fX12_ofSlope a1 (2 : Int32) g2) fun v4 g5 =>
  am_jn (fun  (g8 : am_G) =>
    am_bd (fX12_slopeAt a1 (0 : Int32) g8) fun v10 g11 =>
    am_gd (am_in v10 5660) <|
    am_let (am_si g11 2 v10.toNatClampNeg (0 : Int32)) fun g14 =>
    am_bd (fX12_slopeAt a1 (8 : Int32) g14) fun v15 g16 =>
    am_gd (am_in v15 5660) <|
    am_let (am_si g16 2 v15.toNatClampNeg (0 : Int32)) fun g19 =>
    am_bd (fX12_slopeAt a1 (9 : Int32) g19) fun v20 g21 =>
    am_gd (am_in v20 5660) <|
    am_gd (am_in v20 5660) <|
    am_let (am_si g21 2 v20.toNatClampNeg ((am_I g21 2 v20.toNatClampNeg) + (1 : Int32))) fun g25 =>
    fX12_slide_L124 a1 am_fu (0 : Int32) g25) fun j9 =>
  if v4 = (-1 : Int32) then (
    am_bd (fX12_ofSlope a1 (3 : Int32) g5) fun v35 g36 =>
    if v35 = (1 : Int32) then (
      am_gd (am_in (9 : Int32) 5660) <|
      am_gd (am_in (9 : Int32) 5660) <|
      am_let (am_si g36 2 (9 : Int32).toNatClampNeg ((am_I g36 2 (9 : Int32).toNatClampNeg) + v1)) fun g44 =>
      j9 g44)
    else (
      am_gd (am_in (8 : Int32) 5660) <|
      am_gd (am_in (8 : Int32) 5660) <|
      am_let (am_si g36 2 (8 : Int32).toNatClampNeg ((am_I g36 2 (8 : Int32).toNatClampNeg) + v1)) fun g41 =>
      j9 g41))
  else (
    am_bd (fX12_slopeAt v4 (0 : Int32) g5) fun v45 g46 =>
    am_bd (fX12_ofSlope v4 (0 : Int32) g46) fun v48 g49 =>
    am_bd (fX12_within ((v48 + v1).toInt64) (0 : Int32) (9999 : Int32) g49) fun v51 g52 =>
    am_gd (am_in v45 5660) <|
    am_let (am_si g52 2 v45.toNatClampNeg v51) fun g55 =>
    j9 g55)
set_option maxRecDepth 100000 in
set_option maxHeartbeats 4000000 in
theorem tfX12_slide_L124  (a1 : Int32) : ∀ (n : Nat) (x26 : Int32) (g27 : am_G) (r : Unit × am_G), fX12_slide_L124 a1 n x26 g27 = some r → am_Ev zr MX12_slide 2 124 [(0, .ref 0), (1, .int a1), (4, .int x26)] [] g27 (am_rv r) := by
  intro n
  induction n with
  | zero => intro x26 g27 r h; exact nomatch (show (none : Option (Unit × am_G)) = some r from h)
  | succ n ih =>
    intro x26 g27 r h
    rw [fX12_slide_L124] at h
    refine ev_iload 2 dX12_slide_124 rfl ?_
    refine ev_bipush dX12_slide_126 rfl ?_
    refine ev_icmp_ge 183 dX12_slide_128 (by decide) (fun c28 => ?_) (fun c28 => ?_)
    · replace h := am_ifp c28 h
      cases h
      exact ev_ret dX12_slide_183 rfl
    · replace h := am_ifn c28 h
      refine ev_aload_n 0 dX12_slide_131 rfl ?_
      refine ev_gf (v := .ref 2) dX12_slide_132 (fun h9 => (h9.2.1 0 _ rfl).2) 3 (by decide) (by decide) kF_X12_13 (fun h9 => congrArg va_rf (h9.2.2 0 3 2 rfl)) ?_
      refine ev_bipush dX12_slide_135 rfl ?_
      refine ev_bipush dX12_slide_137 rfl ?_
      refine ev_iload_n 1 dX12_slide_139 rfl ?_
      refine ev_imul dX12_slide_140 ?_
      refine ev_iadd dX12_slide_141 ?_
      refine ev_iload 2 dX12_slide_142 rfl ?_
      refine ev_iadd dX12_slide_144 ?_
      refine ev_aload_n 0 dX12_slide_145 rfl ?_
      refine ev_gf (v := .ref 2) dX12_slide_146 (fun h9 => (h9.2.1 0 _ rfl).2) 3 (by decide) (by decide) kF_X12_13 (fun h9 => congrArg va_rf (h9.2.2 0 3 2 rfl)) ?_
      refine ev_bipush dX12_slide_149 rfl ?_
      refine ev_bipush dX12_slide_151 rfl ?_
      refine ev_iload_n 1 dX12_slide_153 rfl ?_
      refine ev_imul dX12_slide_154 ?_
      refine ev_iadd dX12_slide_155 ?_
      refine ev_iload 2 dX12_slide_156 rfl ?_
      refine ev_iadd dX12_slide_158 ?_
      obtain ⟨c29, h⟩ := am_gd_elim h
      refine ev_iald dX12_slide_159 (fun h9 => (h9.2.1 2 _ rfl).2) (am_in_vp c29) ?_
      obtain ⟨c30, h⟩ := am_gd_elim h
      refine ev_iast dX12_slide_160 (fun h9 => (h9.2.1 2 _ rfl).2) (am_in_vp c30) ?_
      refine am_let_elim (P := fun g31 => am_Ev zr MX12_slide 2 161 [(0, .ref 0), (1, .int a1), (4, .int x26)] [] g31 (am_rv r)) h fun g31 h => ?_
      refine ev_aload_n 0 dX12_slide_161 rfl ?_
      refine ev_gf (v := .ref 2) dX12_slide_162 (fun h9 => (h9.2.1 0 _ rfl).2) 3 (by decide) (by decide) kF_X12_13 (fun h9 => congrArg va_rf (h9.2.2 0 3 2 rfl)) ?_
      refine ev_bipush dX12_slide_165 rfl ?_
      refine ev_bipush dX12_slide_167 rfl ?_
      refine ev_iload_n 1 dX12_slide_169 rfl ?_
      refine ev_imul dX12_slide_170 ?_
      refine ev_iadd dX12_slide_171 ?_
      refine ev_iload 2 dX12_slide_172 rfl ?_
      refine ev_iadd dX12_slide_174 ?_
      refine ev_iconst dX12_slide_175 rfl ?_
      obtain ⟨c32, h⟩ := am_gd_elim h
      refine ev_iast dX12_slide_176 (fun h9 => (h9.2.1 2 _ rfl).2) (am_in_vp c32) ?_
      refine am_let_elim (P := fun g33 => am_Ev zr MX12_slide 2 177 [(0, .ref 0), (1, .int a1), (4, .int x26)] [] g33 (am_rv r)) h fun g33 h => ?_
      obtain ⟨x34, ex34, h⟩ := am_let_ex h
      refine ev_iinc (ls' := [(4, .int x34), (0, .ref 0), (1, .int a1)]) 2 dX12_slide_177 rfl ex34 (by decide) rfl ?_
      refine ev_goto 124 dX12_slide_180 (by decide) ?_
      refine ev_sub [1, 2, 0] rfl ?_
      exact ih _ _ _ h
set_option maxRecDepth 100000 in
set_option maxHeartbeats 4000000 in
theorem eX12_slide (a1 : Int32) (g : am_G) (r : Unit × am_G) (h : fX12_slide a1 g = some r) : am_Ev zr MX12_slide 2 0 [(0, .ref 0), (1, .int a1)] [] g (am_rv r) := by
  unfold fX12_slide at h
  refine ev_aload_n 0 dX12_slide_0 rfl ?_
  refine ev_iload_n 1 dX12_slide_1 rfl ?_
  refine ev_iconst dX12_slide_2 rfl ?_
  obtain ⟨v1, g2, e3, h⟩ := am_bd_elim h
  refine ev_callVi (v := v1) [.int a1, .int (0 : Int32)] [] dX12_slide_3 (tX12_ofSlope e3) (by decide) mo_X12_ofSlope kM_X12_210 ki_X12_ofSlope kv_X12_ofSlope (fun h9 => (h9.2.1 0 _ rfl).2) (by decide) rfl (Nat.le_of_ble_eq_true rfl) ?_
  refine ev_istore_n (ls' := [(2, .int v1), (0, .ref 0), (1, .int a1)]) dX12_slide_6 rfl (by decide) rfl ?_
  refine ev_aload_n 1 dX12_slide_7 rfl ?_
  refine ev_iload_n 2 dX12_slide_8 rfl ?_
  refine ev_iconst dX12_slide_9 rfl ?_
  obtain ⟨v4, g5, e6, h⟩ := am_bd_elim h
  refine ev_callVi (v := v4) [.int a1, .int (2 : Int32)] [] dX12_slide_10 (tX12_ofSlope e6) (by decide) mo_X12_ofSlope kM_X12_210 ki_X12_ofSlope kv_X12_ofSlope (fun h9 => (h9.2.1 0 _ rfl).2) (by decide) rfl (Nat.le_of_ble_eq_true rfl) ?_
  refine ev_istore_n (ls' := [(3, .int v4), (2, .int v1), (0, .ref 0), (1, .int a1)]) dX12_slide_13 rfl (by decide) rfl ?_
  refine ev_iload_n 0 dX12_slide_14 rfl ?_
  refine ev_iconst dX12_slide_15 rfl ?_
  refine am_jn_elim (fun q9 => ∀  (g8 : am_G) (r : Unit × am_G), q9  g8 = some r → am_Ev zr MX12_slide 2 83 [(0, .ref 0), (1, .int a1)] [] g8 (am_rv r)) h ?_ (fun j9 hj9 h => ?_)
  · intro  g8 r h
    try dsimp only at h
    refine ev_aload_n 0 dX12_slide_83 rfl ?_
    refine ev_gf (v := .ref 2) dX12_slide_84 (fun h9 => (h9.2.1 0 _ rfl).2) 3 (by decide) (by decide) kF_X12_13 (fun h9 => congrArg va_rf (h9.2.2 0 3 2 rfl)) ?_
    refine ev_iload_n 1 dX12_slide_87 rfl ?_
    refine ev_iconst dX12_slide_88 rfl ?_
    obtain ⟨v10, g11, e12, h⟩ := am_bd_elim h
    refine ev_callSi (v := v10) [.int a1, .int (0 : Int32)] [.ref 2] dX12_slide_89 (tX12_slopeAt e12) (by decide) mo_X12_slopeAt kM_X12_159 ks_X12_slopeAt (Nat.le_of_ble_eq_true rfl) ?_
    refine ev_iconst dX12_slide_92 rfl ?_
    obtain ⟨c13, h⟩ := am_gd_elim h
    refine ev_iast dX12_slide_93 (fun h9 => (h9.2.1 2 _ rfl).2) (am_in_vp c13) ?_
    refine am_let_elim (P := fun g14 => am_Ev zr MX12_slide 2 94 [(0, .ref 0), (1, .int a1)] [] g14 (am_rv r)) h fun g14 h => ?_
    refine ev_aload_n 0 dX12_slide_94 rfl ?_
    refine ev_gf (v := .ref 2) dX12_slide_95 (fun h9 => (h9.2.1 0 _ rfl).2) 3 (by decide) (by decide) kF_X12_13 (fun h9 => congrArg va_rf (h9.2.2 0 3 2 rfl)) ?_
    refine ev_iload_n 1 dX12_slide_98 rfl ?_
    refine ev_bipush dX12_slide_99 rfl ?_
    obtain ⟨v15, g16, e17, h⟩ := am_bd_elim h
    refine ev_callSi (v := v15) [.int a1, .int (8 : Int32)] [.ref 2] dX12_slide_101 (tX12_slopeAt e17) (by decide) mo_X12_slopeAt kM_X12_159 ks_X12_slopeAt (Nat.le_of_ble_eq_true rfl) ?_
    refine ev_iconst dX12_slide_104 rfl ?_
    obtain ⟨c18, h⟩ := am_gd_elim h
    refine ev_iast dX12_slide_105 (fun h9 => (h9.2.1 2 _ rfl).2) (am_in_vp c18) ?_
    refine am_let_elim (P := fun g19 => am_Ev zr MX12_slide 2 106 [(0, .ref 0), (1, .int a1)] [] g19 (am_rv r)) h fun g19 h => ?_
    refine ev_aload_n 0 dX12_slide_106 rfl ?_
    refine ev_gf (v := .ref 2) dX12_slide_107 (fun h9 => (h9.2.1 0 _ rfl).2) 3 (by decide) (by decide) kF_X12_13 (fun h9 => congrArg va_rf (h9.2.2 0 3 2 rfl)) ?_
    refine ev_iload_n 1 dX12_slide_110 rfl ?_
    refine ev_bipush dX12_slide_111 rfl ?_
    obtain ⟨v20, g21, e22, h⟩ := am_bd_elim h
    refine ev_callSi (v := v20) [.int a1, .int (9 : Int32)] [.ref 2] dX12_slide_113 (tX12_slopeAt e22) (by decide) mo_X12_slopeAt kM_X12_159 ks_X12_slopeAt (Nat.le_of_ble_eq_true rfl) ?_
    refine ev_dup2 dX12_slide_116 rfl rfl ?_
    obtain ⟨c23, h⟩ := am_gd_elim h
    refine ev_iald dX12_slide_117 (fun h9 => (h9.2.1 2 _ rfl).2) (am_in_vp c23) ?_
    refine ev_iconst dX12_slide_118 rfl ?_
    refine ev_iadd dX12_slide_119 ?_
    obtain ⟨c24, h⟩ := am_gd_elim h
    refine ev_iast dX12_slide_120 (fun h9 => (h9.2.1 2 _ rfl).2) (am_in_vp c24) ?_
    refine am_let_elim (P := fun g25 => am_Ev zr MX12_slide 2 121 [(0, .ref 0), (1, .int a1)] [] g25 (am_rv r)) h fun g25 h => ?_
    refine ev_iconst dX12_slide_121 rfl ?_
    refine ev_istore (ls' := [(4, .int (0 : Int32)), (0, .ref 0), (1, .int a1)]) dX12_slide_122 (by decide) rfl ?_
    refine ev_sub [1, 2, 0] rfl ?_
    exact tfX12_slide_L124 a1 _ _ _ _ h
  · refine ev_icmp_eq 48 dX12_slide_16 (by decide) (fun c7 => ?_) (fun c7 => ?_)
    · replace h := am_ifp c7 h
      refine ev_aload_n 2 dX12_slide_48 rfl ?_
      refine ev_iload_n 3 dX12_slide_49 rfl ?_
      refine ev_iconst dX12_slide_50 rfl ?_
      obtain ⟨v35, g36, e37, h⟩ := am_bd_elim h
      refine ev_callVi (v := v35) [.int a1, .int (3 : Int32)] [] dX12_slide_51 (tX12_ofSlope e37) (by decide) mo_X12_ofSlope kM_X12_210 ki_X12_ofSlope kv_X12_ofSlope (fun h9 => (h9.2.1 0 _ rfl).2) (by decide) rfl (Nat.le_of_ble_eq_true rfl) ?_
      refine ev_iconst dX12_slide_54 rfl ?_
      refine ev_icmp_ne 72 dX12_slide_55 (by decide) (fun c38 => ?_) (fun c38 => ?_)
      · replace h := am_ifn c38 h
        refine ev_aload_n 2 dX12_slide_72 rfl ?_
        refine ev_gf (v := .ref 2) dX12_slide_73 (fun h9 => (h9.2.1 0 _ rfl).2) 3 (by decide) (by decide) kF_X12_13 (fun h9 => congrArg va_rf (h9.2.2 0 3 2 rfl)) ?_
        refine ev_bipush dX12_slide_76 rfl ?_
        refine ev_dup2 dX12_slide_78 rfl rfl ?_
        obtain ⟨c39, h⟩ := am_gd_elim h
        refine ev_iald dX12_slide_79 (fun h9 => (h9.2.1 2 _ rfl).2) (am_in_vp c39) ?_
        refine ev_iload_n 1 dX12_slide_80 rfl ?_
        refine ev_iadd dX12_slide_81 ?_
        obtain ⟨c40, h⟩ := am_gd_elim h
        refine ev_iast dX12_slide_82 (fun h9 => (h9.2.1 2 _ rfl).2) (am_in_vp c40) ?_
        refine am_let_elim (P := fun g41 => am_Ev zr MX12_slide 2 83 [(3, .int v4), (2, .int v1), (0, .ref 0), (1, .int a1)] [] g41 (am_rv r)) h fun g41 h => ?_
        refine ev_sub [2, 3] rfl ?_
        exact hj9  _ _ h
      · replace h := am_ifp c38 h
        refine ev_aload_n 2 dX12_slide_58 rfl ?_
        refine ev_gf (v := .ref 2) dX12_slide_59 (fun h9 => (h9.2.1 0 _ rfl).2) 3 (by decide) (by decide) kF_X12_13 (fun h9 => congrArg va_rf (h9.2.2 0 3 2 rfl)) ?_
        refine ev_bipush dX12_slide_62 rfl ?_
        refine ev_dup2 dX12_slide_64 rfl rfl ?_
        obtain ⟨c42, h⟩ := am_gd_elim h
        refine ev_iald dX12_slide_65 (fun h9 => (h9.2.1 2 _ rfl).2) (am_in_vp c42) ?_
        refine ev_iload_n 1 dX12_slide_66 rfl ?_
        refine ev_iadd dX12_slide_67 ?_
        obtain ⟨c43, h⟩ := am_gd_elim h
        refine ev_iast dX12_slide_68 (fun h9 => (h9.2.1 2 _ rfl).2) (am_in_vp c43) ?_
        refine am_let_elim (P := fun g44 => am_Ev zr MX12_slide 2 69 [(3, .int v4), (2, .int v1), (0, .ref 0), (1, .int a1)] [] g44 (am_rv r)) h fun g44 h => ?_
        refine ev_goto 83 dX12_slide_69 (by decide) ?_
        refine ev_sub [2, 3] rfl ?_
        exact hj9  _ _ h
    · replace h := am_ifn c7 h
      refine ev_aload_n 2 dX12_slide_19 rfl ?_
      refine ev_gf (v := .ref 2) dX12_slide_20 (fun h9 => (h9.2.1 0 _ rfl).2) 3 (by decide) (by decide) kF_X12_13 (fun h9 => congrArg va_rf (h9.2.2 0 3 2 rfl)) ?_
      refine ev_iload_n 0 dX12_slide_23 rfl ?_
      refine ev_iconst dX12_slide_24 rfl ?_
      obtain ⟨v45, g46, e47, h⟩ := am_bd_elim h
      refine ev_callSi (v := v45) [.int v4, .int (0 : Int32)] [.ref 2] dX12_slide_25 (tX12_slopeAt e47) (by decide) mo_X12_slopeAt kM_X12_159 ks_X12_slopeAt (Nat.le_of_ble_eq_true rfl) ?_
      refine ev_aload_n 2 dX12_slide_28 rfl ?_
      refine ev_iload_n 0 dX12_slide_29 rfl ?_
      refine ev_iconst dX12_slide_30 rfl ?_
      obtain ⟨v48, g49, e50, h⟩ := am_bd_elim h
      refine ev_callVi (v := v48) [.int v4, .int (0 : Int32)] [.int v45, .ref 2] dX12_slide_31 (tX12_ofSlope e50) (by decide) mo_X12_ofSlope kM_X12_210 ki_X12_ofSlope kv_X12_ofSlope (fun h9 => (h9.2.1 0 _ rfl).2) (by decide) rfl (Nat.le_of_ble_eq_true rfl) ?_
      refine ev_iload_n 1 dX12_slide_34 rfl ?_
      refine ev_iadd dX12_slide_35 ?_
      refine ev_i2l dX12_slide_36 ?_
      refine ev_iconst dX12_slide_37 rfl ?_
      refine ev_sipush dX12_slide_38 rfl ?_
      obtain ⟨v51, g52, e53, h⟩ := am_bd_elim h
      refine ev_callSi (v := v51) [.long ((v48 + v1).toInt64), .int (0 : Int32), .int (9999 : Int32)] [.int v45, .ref 2] dX12_slide_41 (tX12_within e53) (by decide) mo_X12_within kM_X12_424 ks_X12_within (Nat.le_of_ble_eq_true rfl) ?_
      obtain ⟨c54, h⟩ := am_gd_elim h
      refine ev_iast dX12_slide_44 (fun h9 => (h9.2.1 2 _ rfl).2) (am_in_vp c54) ?_
      refine am_let_elim (P := fun g55 => am_Ev zr MX12_slide 2 45 [(3, .int v4), (2, .int v1), (0, .ref 0), (1, .int a1)] [] g55 (am_rv r)) h fun g55 h => ?_
      refine ev_goto 83 dX12_slide_45 (by decide) ?_
      refine ev_sub [2, 3] rfl ?_
      exact hj9  _ _ h
theorem tX12_slide {a1 : Int32} {g : am_G} {r : Unit × am_G} (h : fX12_slide a1 g = some r) : am_Mt zr MX12_slide 2 [.ref 0, .int a1] g (am_rv r) := am_Mt.of rfl (Nat.le_of_ble_eq_true rfl) (eX12_slide _ _ _ h)
