/-! ===== terms and sums ===== -/
def FlR (b : Nat → Nat) (len : Nat) (a1 : Int32) (R : Option (Int32 × am_G)) (h : Nat) (x0 : Int32) (gc gr : am_G) : Prop :=
  ∃ h' gc' gr' k x', R = some (nI 0, gc') ∧ FcP gc gc' ∧ am_I gc' 29 7 = nI h' ∧ (∃ x, am_I gc' 29 6 = nI x ∧ x ≤ 512) ∧ Rch b len h' ∧ Rn a1 k x0 gr x' gr' ∧ k ≤ 2 * (h' - h) + 2 ∧ h ≤ h' ∧ FB b len h' gr' ∧ FrP gr gr'
def OkR (md : Bool) (b : Nat → Nat) (len : Nat) (a1 : Int32) (R : Option (Int32 × am_G)) (x0 xT : Int32) (lv : Nat) (tst : Prop) (nt : Nat → Prop) (h u p bk : Nat) (X : Cd) (base : List (Nat × Nat)) (gc gr : am_G) : Prop :=
  ∃ h' u' p' d D gc' gr' X' pend k, R = some (nI 1, gc') ∧ MdP md b len a1 x0 xT lv tst h u p bk X base gc gr h' u' p' d D gc' gr' X' pend k ∧ nt (tkF b len h')
theorem FlR.P {b : Nat → Nat} {len : Nat} {a1 : Int32} {R : Option (Int32 × am_G)} {h f N : Nat} {x0 a : Int32} {gc gr : am_G} (H : FlR b len a1 R h x0 gc gr) (e : fX5_rd f N a gc = R) : FlP b len a1 f N a h x0 gc gr := by
  unfold FlP
  rw [e]
  exact H
theorem OkR.P {md : Bool} {b : Nat → Nat} {len : Nat} {a1 : Int32} {R : Option (Int32 × am_G)} {x0 xT a : Int32} {lv f N : Nat} {tst : Prop} {nt : Nat → Prop} {h u p bk : Nat} {X : Cd} {base : List (Nat × Nat)} {gc gr : am_G} (H : OkR md b len a1 R x0 xT lv tst nt h u p bk X base gc gr) (e : fX5_rd f N a gc = R) : OkP md b len a1 f N a x0 xT lv tst nt h u p bk X base gc gr := by
  obtain ⟨h', u', p', d, D, gc', gr', X', pend, k, e1, m, n⟩ := H
  exact OkP.mk (e.trans e1) m n
theorem PreP.le {md : Bool} {b : Nat → Nat} {len lv lv' h u p bk : Nat} {X : Cd} {base : List (Nat × Nat)} {gc gr : am_G} (H : PreP md b len lv h u p bk X base gc gr) (hl : lv ≤ lv') : PreP md b len lv' h u p bk X base gc gr :=
  ⟨H.1, H.2.1, H.2.2.1, H.2.2.2.1, H.2.2.2.2.1, H.2.2.2.2.2.1, H.2.2.2.2.2.2.1, H.2.2.2.2.2.2.2.le hl⟩
section SIM3
variable {md : Bool} {b : Nat → Nat} {len : Nat} {a1 : Int32}
theorem term0 {rec : Nat → Int32 → am_G → Option (Int32 × am_G)} {n j : Nat} (g : am_G) : fX5_readTerm_L7 rec (n + 1) (nI 0) (nI j) g = some (nI 0, g) := by
  rw [fX5_readTerm_L7]
  by_cases h : (400 : Int32) ≤ nI j
  · rw [if_pos h, show am_zb (nI 0) = true from rfl, pu_gdt]
  · rw [if_neg h, if_pos (show nI 0 = (0 : Int32) from rfl), show am_zb (nI 0) = true from rfl, pu_gdt]
theorem termS (hT : Tp b len) {f : Nat} (hP : PartOK md b len a1 f) {x0 : Int32} {h u p bk : Nat} {X : Cd} {base : List (Nat × Nat)} {gc gr : am_G} (hpre : PreP md b len 6 h u p bk X base gc gr) (hf : 2 + 4 * (8 - bk) ≤ f) (m n j h' u' p' d : Nat) (D : pD) (gc' gr' : am_G) (X' : Cd) (pend : List (Nat × Nat)) (k : Nat) (hm : 400 - h' ≤ m) (hn : m < n) (hj : 2 * j ≤ h') (hmd : MdP md b len a1 x0 (nI 3) 6 False h u p bk X base gc gr h' u' p' d D gc' gr' X' pend k) (hni : (fun _ => True) (tkF b len h'))
    (ih : 0 < m → ∀ (n j h' u' p' d : Nat) (D : pD) (gc' gr' : am_G) (X' : Cd) (pend : List (Nat × Nat)) (k : Nat), 400 - h' ≤ m - 1 → m - 1 < n → 2 * j ≤ h' → MdP md b len a1 x0 (nI 3) 6 False h u p bk X base gc gr h' u' p' d D gc' gr' X' pend k → (fun _ => True) (tkF b len h') → FlR b len a1 (fX5_readTerm_L7 (fX5_rd f) n (nI 1) (nI j) gc') h x0 gc gr ∨ OkR md b len a1 (fX5_readTerm_L7 (fX5_rd f) n (nI 1) (nI j) gc') x0 (nI 3) 6 False (fun c => c ≠ 170 ∧ c ≠ 175 ∧ c ≠ 165) h u p bk X base gc gr) :
    FlR b len a1 (fX5_readTerm_L7 (fX5_rd f) n (nI 1) (nI j) gc') h x0 gc gr ∨ OkR md b len a1 (fX5_readTerm_L7 (fX5_rd f) n (nI 1) (nI j) gc') x0 (nI 3) 6 False (fun c => c ≠ 170 ∧ c ≠ 175 ∧ c ≠ 165) h u p bk X base gc gr := by
  obtain ⟨n, rfl⟩ : ∃ n', n = n' + 1 := ⟨n - 1, by omega⟩
  obtain ⟨-, -, l1, l2, l3, l4, l5, l6⟩ := hpre
  obtain ⟨m1, m2, m3, m4, m5, m6, m7, m8, m9, m10, m11, m12, m13, m14, m15, m16, m17⟩ := id hmd
  have hR' := m2.2.2.2.2.2.2
  have hb' := hR'.b hT
  have hlt := tk_lt (i := h') hT
  have st : fX5_readTerm_L7 (fX5_rd f) (n + 1) (nI 1) (nI j) gc' = (if pb (nI 8 ≤ nI (jnF (tkF b len h')) ∧ nI (jnF (tkF b len h')) ≤ nI 10) = 0 then some (nI 1, gc') else
          am_bd (fX5_rd f 7 0 (am_si gc' 29 7 (nI (h' + 1)))) fun v20 g21 =>
          am_bd (fX5_addStep (nI (jnF (tkF b len h'))) 0 g21) fun u23 g24 =>
          fX5_readTerm_L7 (fX5_rd f) n v20 (nI j + 1) g24) := by
    rw [fX5_readTerm_L7, if_neg (show ¬ (400 : Int32) ≤ nI j from nI_ge (a := j) (b := 400) (by omega) (by decide)), if_neg (show ¬ nI 1 = (0 : Int32) by decide), m2.1, pe_gd (show h' < 401 by omega) (by decide), pe_clamp (show h' < 2147483648 by omega), m2.tk, q5_joinOf (by omega), pu_bd, q11_within, pu_bd, show am_zb (nI 1) = true from rfl, pu_gdt, pu_let, m2.1, show nI h' + (1 : Int32) = nI (h' + 1) from nI_add h' 1]
    rfl
  rw [show nI j + (1 : Int32) = nI (j + 1) from nI_add j 1] at st
  have jl : jnF (tkF b len h') < 14 := by
    rcases jn_inv (tkF b len h') with ⟨-, z⟩ | ⟨-, z⟩ | ⟨z, -⟩ <;> omega
  by_cases hin : 8 ≤ jnF (tkF b len h') ∧ jnF (tkF b len h') ≤ 10
  · rw [pb_eq ((wi (a := 8) (b := 10) (by omega) (by decide) (by decide)).mpr hin), if_neg (show ¬ nI 1 = (0 : Int32) by decide)] at st
    have har : isAr (tkF b len h') (jnF (tkF b len h') + 14) := by
      rcases jn_inv (tkF b len h') with ⟨z, -⟩ | ⟨-, z⟩ | ⟨z, -⟩
      · exact z
      · omega
      · omega
    have h0 : tkF b len h' ≠ 0 := (jn_ar har).2.2.2
    generalize hjn : jnF (tkF b len h') = jk at *
    have hbd : bnd (jk + 14) = 6 := by
      rcases (show jk = 8 ∨ jk = 9 ∨ jk = 10 by omega) with rfl | rfl | rfl <;> rfl
    have hR1 := hR'.nx h0
    have hb1 := hR1.b hT
    have cntE : (ems X' pend).2.2 + emc base + 1 ≤ h' := by have := m15.2.2.2.2; omega
    obtain ⟨gr1, e1, r1, f1⟩ := BS_op a1 hT m14 har (fun q hq => by rw [hbd]; exact m15.1 q hq) (by rw [hbd]; exact l6) (by omega) (by omega)
    have c1 : CS md b len (h' + 1) u' p' bk (am_si gc' 29 7 (nI (h' + 1))) := m2.cg ((FcP.rf gc').si (by omega) _) (pe_ieq _ _ _ _) (by rw [pe_ik (by decide)]; exact m2.2.1) (by rw [pe_ik (by decide)]; exact m2.2.2.1) (by rw [pe_ik (by decide)]; exact m2.2.2.2.1) hR1
    have fc1 : FcP gc' (am_si gc' 29 7 (nI (h' + 1))) := (FcP.rf gc').si (by omega) _
    have k35 : am_I (am_si gc' 29 7 (nI (h' + 1))) 35 = am_I gc' 35 := pI_si_ne _ _ _ (by decide)
    generalize am_si gc' 29 7 (nI (h' + 1)) = gc1 at *
    rcases hP (h' + 1) u' p' bk (ems X' pend) ((jk + 14, 0) :: base) gc1 gr1 (nI 1) ⟨c1, r1, by rw [List.length_cons]; omega, by rw [emc_op (by omega)]; omega, by omega, m10, l5, fun q l e => by injection e with e1 e2; rw [← e1, hbd]; decide⟩ (Or.inl rfl) (by omega) with Hf | Ho
    · obtain ⟨h2, gc2, gr2, k2, x2, z1, z2, z3, z4, z5, z6, z7, z8, z9, z10⟩ := Hf
      obtain ⟨gc3, y1, y2, y3, y4⟩ := q5_addF (nI jk) z4
      obtain ⟨n, rfl⟩ : ∃ n', n = n' + 1 := ⟨n - 1, by omega⟩
      refine Or.inl ⟨h2, gc3, gr2, k + 1 + k2, x2, ?_, (m1.tr fc1).tr (z2.tr y2), by rw [y3]; exact z3, y4, z5, (m11.tr (L20_3 m14.2.2.1 e1)).tr z6, by omega, by omega, z9, m13.tr (f1.tr z10)⟩
      rw [st, z1, pu_bd, y1, pu_bd, term0]
    · obtain ⟨h2, u2, p2, e, E, gc2, gr2, X2, pend2, k2, z1, ⟨n1, n2, n3, n4, n5, n6, n7, n8, n9, n10, n11, n12, n13, n14, n15, n16, n17⟩, zn⟩ := Ho.md
      have hb2 := n2.2.2.2.2.2.2.b hT
      obtain ⟨y1, y2⟩ := q5_addStep n2 (k := jk) (w := 0) jl (by decide) (by omega)
      have fc3 : FcP gc2 (am_si (am_si gc2 35 u2 (nI (1024 * jk + 0))) 29 6 (nI (u2 + 1))) := ((FcP.rf gc2).si (by omega) _).si (by omega) _
      have s35 : am_I (am_si (am_si gc2 35 u2 (nI (1024 * jk + 0))) 29 6 (nI (u2 + 1))) 35 u2 = nI (1024 * jk + 0) := by rw [pe_ine (by decide), pe_ieq]
      have o35 : ∀ i, i < u2 → am_I (am_si (am_si gc2 35 u2 (nI (1024 * jk + 0))) 29 6 (nI (u2 + 1))) 35 i = am_I gc2 35 i := fun i hi => by rw [pe_ine (by decide), pe_ik (by omega)]
      generalize am_si (am_si gc2 35 u2 (nI (1024 * jk + 0))) 29 6 (nI (u2 + 1)) = gc3 at *
      have sg : SegC (am_I gc3 35) u (u2 + 1) (max d (e + 1)) (dBin (jk - 6) D E) := by
        have g1 : SegC (am_I gc3 35) u u' d D := m7.mono (Nat.le_refl _) (fun i _ hi => by rw [o35 i (by omega), n6 i hi, k35])
        have g2 : SegC (am_I gc3 35) u' u2 e E := n7.mono (Nat.le_refl _) (fun i _ hi => o35 i hi)
        exact g1.bin g2 n8 s35 (by omega) (show jk - 6 < 8 by omega) (by omega)
      have pd := m15.bin n15 (o := jk + 14) (x := jk - 6) (by decide) (by rw [hbd]; exact Nat.le_refl _) (by omega) (by omega) n8 (by omega)
      have rs3 : RS md b len h2 X2 p2 bk ((pend2 ++ [(jk + 14, 0)]) ++ base) gr2 := by rw [List.append_assoc]; exact n14
      have st2 : fX5_readTerm_L7 (fX5_rd f) (n + 1) (nI 1) (nI j) gc' = fX5_readTerm_L7 (fX5_rd f) n (nI 1) (nI (j + 1)) gc3 := by
        rw [st, z1, pu_bd, show (0 : Int32) = nI 0 from rfl, y1, pu_bd]
      rw [st2]
      exact ih (by omega) n (j + 1) h2 (u2 + 1) p2 _ _ gc3 gr2 X2 _ (k + 1 + k2) (by omega) (by omega) (by omega) ⟨(m1.tr fc1).tr (n1.tr fc3), y2, by omega, by omega, by omega, fun i hi => by rw [o35 i (by omega), n6 i (by omega), k35, m6 i hi], sg, by omega, by omega, n10, (m11.tr (L20_3 m14.2.2.1 e1)).tr n11, by omega, m13.tr (f1.tr n13), rs3, pd, fun z => z.elim, fun z => (m17 z).bin (n17 z)⟩ trivial
  · rw [pb_ne (fun z => hin ((wi (a := 8) (b := 10) (by omega) (by decide) (by decide)).mp z)), if_pos (show nI 0 = (0 : Int32) from rfl)] at st
    refine Or.inr ⟨h', u', p', d, D, gc', gr', X', pend, k, st, hmd, ?_⟩
    generalize tkF b len h' = c at *
    refine ⟨?_, ?_, ?_⟩
    · intro z; subst z; exact hin ⟨by decide, by decide⟩
    · intro z; subst z; exact hin ⟨by decide, by decide⟩
    · intro z; subst z; exact hin ⟨by decide, by decide⟩
theorem termL (hT : Tp b len) {f : Nat} (hP : PartOK md b len a1 f) {x0 : Int32} {h u p bk : Nat} {X : Cd} {base : List (Nat × Nat)} {gc gr : am_G} (hpre : PreP md b len 6 h u p bk X base gc gr) (hf : 2 + 4 * (8 - bk) ≤ f) : ∀ (m n j h' u' p' d : Nat) (D : pD) (gc' gr' : am_G) (X' : Cd) (pend : List (Nat × Nat)) (k : Nat), 400 - h' ≤ m → m < n → 2 * j ≤ h' → MdP md b len a1 x0 (nI 3) 6 False h u p bk X base gc gr h' u' p' d D gc' gr' X' pend k → (fun _ => True) (tkF b len h') → FlR b len a1 (fX5_readTerm_L7 (fX5_rd f) n (nI 1) (nI j) gc') h x0 gc gr ∨ OkR md b len a1 (fX5_readTerm_L7 (fX5_rd f) n (nI 1) (nI j) gc') x0 (nI 3) 6 False (fun c => c ≠ 170 ∧ c ≠ 175 ∧ c ≠ 165) h u p bk X base gc gr := by
  intro m
  induction m with
  | zero =>
    intro n j h' u' p' d D gc' gr' X' pend k hm hn hj hmd hni
    exact termS hT hP hpre hf 0 n j h' u' p' d D gc' gr' X' pend k hm hn hj hmd hni (fun hh => absurd hh (by omega))
  | succ m ih =>
    intro n j h' u' p' d D gc' gr' X' pend k hm hn hj hmd hni
    exact termS hT hP hpre hf (m + 1) n j h' u' p' d D gc' gr' X' pend k hm hn hj hmd hni (fun _ n j h' u' p' d D gc' gr' X' pend k hm hn hj hmd hni => ih n j h' u' p' d D gc' gr' X' pend k (by omega) (by omega) hj hmd hni)
theorem term_of (hT : Tp b len) {f : Nat} (hP : PartOK md b len a1 f) : TermOK md b len a1 (f + 1) := by
  intro h u p bk X base gc gr x0 hpre hst hf
  have hrd : fX5_rd (f + 1) 6 0 gc = am_bd (fX5_rd f 7 0 gc) fun v1 g2 => fX5_readTerm_L7 (fX5_rd f) am_fu v1 0 g2 := rfl
  have hfu : am_fu = 1048575 + 1 := rfl
  rcases hP h u p bk X base gc gr x0 (hpre.le (by decide)) hst (by omega) with Hf | Ho
  · obtain ⟨h', gc', gr', k, x', z1, z⟩ := Hf
    refine Or.inl ⟨h', gc', gr', k, x', ?_, z⟩
    rw [hrd, z1, pu_bd, hfu]
    exact term0 (j := 0) gc'
  · obtain ⟨h', u', p', d, D, gc', gr', X', pend, k, z1, hm, zn⟩ := Ho.md
    have hm' : MdP md b len a1 x0 (nI 3) 6 False h u p bk X base gc gr h' u' p' d D gc' gr' X' pend k := by
      obtain ⟨m1, m2, m3, m4, m5, m6, m7, m8, m9, m10, m11, m12, m13, m14, ⟨q1, q2⟩, m16⟩ := hm
      exact ⟨m1, m2, m3, m4, m5, m6, m7, m8, m9, m10, m11, m12, m13, m14, ⟨fun q hq => Nat.le_trans (by decide) (q1 q hq), q2⟩, m16⟩
    have e : fX5_rd (f + 1) 6 0 gc = fX5_readTerm_L7 (fX5_rd f) am_fu (nI 1) (nI 0) gc' := by rw [hrd, z1, pu_bd]; rfl
    rcases termL hT hP hpre (by omega) 400 am_fu 0 h' u' p' d D gc' gr' X' pend k (by omega) (by omega) (by omega) hm' zn with Hf | Ho
    · exact Or.inl (Hf.P e)
    · exact Or.inr (Ho.P e)
theorem sum0 {rec : Nat → Int32 → am_G → Option (Int32 × am_G)} {n j : Nat} (g : am_G) : fX5_readSum_L7 rec (n + 1) (nI 0) (nI j) g = some (nI 0, g) := by
  rw [fX5_readSum_L7]
  by_cases h : (400 : Int32) ≤ nI j
  · rw [if_pos h, show am_zb (nI 0) = true from rfl, pu_gdt]
  · rw [if_neg h, if_pos (show nI 0 = (0 : Int32) from rfl), show am_zb (nI 0) = true from rfl, pu_gdt]
theorem sumS (hT : Tp b len) {f : Nat} (hP : TermOK md b len a1 f) {x0 : Int32} {h u p bk : Nat} {X : Cd} {base : List (Nat × Nat)} {gc gr : am_G} (hpre : PreP md b len 5 h u p bk X base gc gr) (hf : 3 + 4 * (8 - bk) ≤ f) (m n j h' u' p' d : Nat) (D : pD) (gc' gr' : am_G) (X' : Cd) (pend : List (Nat × Nat)) (k : Nat) (hm : 400 - h' ≤ m) (hn : m < n) (hj : 2 * j ≤ h') (hmd : MdP md b len a1 x0 (nI 3) 5 False h u p bk X base gc gr h' u' p' d D gc' gr' X' pend k) (hni : (fun c => c ≠ 170 ∧ c ≠ 175 ∧ c ≠ 165) (tkF b len h'))
    (ih : 0 < m → ∀ (n j h' u' p' d : Nat) (D : pD) (gc' gr' : am_G) (X' : Cd) (pend : List (Nat × Nat)) (k : Nat), 400 - h' ≤ m - 1 → m - 1 < n → 2 * j ≤ h' → MdP md b len a1 x0 (nI 3) 5 False h u p bk X base gc gr h' u' p' d D gc' gr' X' pend k → (fun c => c ≠ 170 ∧ c ≠ 175 ∧ c ≠ 165) (tkF b len h') → FlR b len a1 (fX5_readSum_L7 (fX5_rd f) n (nI 1) (nI j) gc') h x0 gc gr ∨ OkR md b len a1 (fX5_readSum_L7 (fX5_rd f) n (nI 1) (nI j) gc') x0 (nI 3) 5 False nAr h u p bk X base gc gr) :
    FlR b len a1 (fX5_readSum_L7 (fX5_rd f) n (nI 1) (nI j) gc') h x0 gc gr ∨ OkR md b len a1 (fX5_readSum_L7 (fX5_rd f) n (nI 1) (nI j) gc') x0 (nI 3) 5 False nAr h u p bk X base gc gr := by
  obtain ⟨n, rfl⟩ : ∃ n', n = n' + 1 := ⟨n - 1, by omega⟩
  obtain ⟨-, -, l1, l2, l3, l4, l5, l6⟩ := hpre
  obtain ⟨m1, m2, m3, m4, m5, m6, m7, m8, m9, m10, m11, m12, m13, m14, m15, m16, m17⟩ := id hmd
  have hR' := m2.2.2.2.2.2.2
  have hb' := hR'.b hT
  have hlt := tk_lt (i := h') hT
  have st : fX5_readSum_L7 (fX5_rd f) (n + 1) (nI 1) (nI j) gc' = (if pb (nI 6 ≤ nI (jnF (tkF b len h')) ∧ nI (jnF (tkF b len h')) ≤ nI 7) = 0 then some (nI 1, gc') else
          am_bd (fX5_rd f 6 0 (am_si gc' 29 7 (nI (h' + 1)))) fun v20 g21 =>
          am_bd (fX5_addStep (nI (jnF (tkF b len h'))) 0 g21) fun u23 g24 =>
          fX5_readSum_L7 (fX5_rd f) n v20 (nI j + 1) g24) := by
    rw [fX5_readSum_L7, if_neg (show ¬ (400 : Int32) ≤ nI j from nI_ge (a := j) (b := 400) (by omega) (by decide)), if_neg (show ¬ nI 1 = (0 : Int32) by decide), m2.1, pe_gd (show h' < 401 by omega) (by decide), pe_clamp (show h' < 2147483648 by omega), m2.tk, q5_joinOf (by omega), pu_bd, q11_within, pu_bd, show am_zb (nI 1) = true from rfl, pu_gdt, pu_let, m2.1, show nI h' + (1 : Int32) = nI (h' + 1) from nI_add h' 1]
    rfl
  rw [show nI j + (1 : Int32) = nI (j + 1) from nI_add j 1] at st
  have jl : jnF (tkF b len h') < 14 := by
    rcases jn_inv (tkF b len h') with ⟨-, z⟩ | ⟨-, z⟩ | ⟨z, -⟩ <;> omega
  by_cases hin : 6 ≤ jnF (tkF b len h') ∧ jnF (tkF b len h') ≤ 7
  · rw [pb_eq ((wi (a := 6) (b := 7) (by omega) (by decide) (by decide)).mpr hin), if_neg (show ¬ nI 1 = (0 : Int32) by decide)] at st
    have har : isAr (tkF b len h') (jnF (tkF b len h') + 14) := by
      rcases jn_inv (tkF b len h') with ⟨z, -⟩ | ⟨-, z⟩ | ⟨z, -⟩
      · exact z
      · omega
      · omega
    have h0 : tkF b len h' ≠ 0 := (jn_ar har).2.2.2
    generalize hjn : jnF (tkF b len h') = jk at *
    have hbd : bnd (jk + 14) = 5 := by
      rcases (show jk = 6 ∨ jk = 7 by omega) with rfl | rfl <;> rfl
    have hR1 := hR'.nx h0
    have hb1 := hR1.b hT
    have cntE : (ems X' pend).2.2 + emc base + 1 ≤ h' := by have := m15.2.2.2.2; omega
    obtain ⟨gr1, e1, r1, f1⟩ := BS_op a1 hT m14 har (fun q hq => by rw [hbd]; exact m15.1 q hq) (by rw [hbd]; exact l6) (by omega) (by omega)
    have c1 : CS md b len (h' + 1) u' p' bk (am_si gc' 29 7 (nI (h' + 1))) := m2.cg ((FcP.rf gc').si (by omega) _) (pe_ieq _ _ _ _) (by rw [pe_ik (by decide)]; exact m2.2.1) (by rw [pe_ik (by decide)]; exact m2.2.2.1) (by rw [pe_ik (by decide)]; exact m2.2.2.2.1) hR1
    have fc1 : FcP gc' (am_si gc' 29 7 (nI (h' + 1))) := (FcP.rf gc').si (by omega) _
    have k35 : am_I (am_si gc' 29 7 (nI (h' + 1))) 35 = am_I gc' 35 := pI_si_ne _ _ _ (by decide)
    generalize am_si gc' 29 7 (nI (h' + 1)) = gc1 at *
    rcases hP (h' + 1) u' p' bk (ems X' pend) ((jk + 14, 0) :: base) gc1 gr1 (nI 1) ⟨c1, r1, by rw [List.length_cons]; omega, by rw [emc_op (by omega)]; omega, by omega, m10, l5, fun q l e => by injection e with e1 e2; rw [← e1, hbd]; decide⟩ (Or.inl rfl) (by omega) with Hf | Ho
    · obtain ⟨h2, gc2, gr2, k2, x2, z1, z2, z3, z4, z5, z6, z7, z8, z9, z10⟩ := Hf
      obtain ⟨gc3, y1, y2, y3, y4⟩ := q5_addF (nI jk) z4
      obtain ⟨n, rfl⟩ : ∃ n', n = n' + 1 := ⟨n - 1, by omega⟩
      refine Or.inl ⟨h2, gc3, gr2, k + 1 + k2, x2, ?_, (m1.tr fc1).tr (z2.tr y2), by rw [y3]; exact z3, y4, z5, (m11.tr (L20_3 m14.2.2.1 e1)).tr z6, by omega, by omega, z9, m13.tr (f1.tr z10)⟩
      rw [st, z1, pu_bd, y1, pu_bd, sum0]
    · obtain ⟨h2, u2, p2, e, E, gc2, gr2, X2, pend2, k2, z1, ⟨n1, n2, n3, n4, n5, n6, n7, n8, n9, n10, n11, n12, n13, n14, n15, n16, n17⟩, zn⟩ := Ho.md
      have hb2 := n2.2.2.2.2.2.2.b hT
      obtain ⟨y1, y2⟩ := q5_addStep n2 (k := jk) (w := 0) jl (by decide) (by omega)
      have fc3 : FcP gc2 (am_si (am_si gc2 35 u2 (nI (1024 * jk + 0))) 29 6 (nI (u2 + 1))) := ((FcP.rf gc2).si (by omega) _).si (by omega) _
      have s35 : am_I (am_si (am_si gc2 35 u2 (nI (1024 * jk + 0))) 29 6 (nI (u2 + 1))) 35 u2 = nI (1024 * jk + 0) := by rw [pe_ine (by decide), pe_ieq]
      have o35 : ∀ i, i < u2 → am_I (am_si (am_si gc2 35 u2 (nI (1024 * jk + 0))) 29 6 (nI (u2 + 1))) 35 i = am_I gc2 35 i := fun i hi => by rw [pe_ine (by decide), pe_ik (by omega)]
      generalize am_si (am_si gc2 35 u2 (nI (1024 * jk + 0))) 29 6 (nI (u2 + 1)) = gc3 at *
      have sg : SegC (am_I gc3 35) u (u2 + 1) (max d (e + 1)) (dBin (jk - 6) D E) := by
        have g1 : SegC (am_I gc3 35) u u' d D := m7.mono (Nat.le_refl _) (fun i _ hi => by rw [o35 i (by omega), n6 i hi, k35])
        have g2 : SegC (am_I gc3 35) u' u2 e E := n7.mono (Nat.le_refl _) (fun i _ hi => o35 i hi)
        exact g1.bin g2 n8 s35 (by omega) (show jk - 6 < 8 by omega) (by omega)
      have pd := m15.bin n15 (o := jk + 14) (x := jk - 6) (by decide) (by rw [hbd]; exact Nat.le_refl _) (by omega) (by omega) n8 (by omega)
      have rs3 : RS md b len h2 X2 p2 bk ((pend2 ++ [(jk + 14, 0)]) ++ base) gr2 := by rw [List.append_assoc]; exact n14
      have st2 : fX5_readSum_L7 (fX5_rd f) (n + 1) (nI 1) (nI j) gc' = fX5_readSum_L7 (fX5_rd f) n (nI 1) (nI (j + 1)) gc3 := by
        rw [st, z1, pu_bd, show (0 : Int32) = nI 0 from rfl, y1, pu_bd]
      rw [st2]
      exact ih (by omega) n (j + 1) h2 (u2 + 1) p2 _ _ gc3 gr2 X2 _ (k + 1 + k2) (by omega) (by omega) (by omega) ⟨(m1.tr fc1).tr (n1.tr fc3), y2, by omega, by omega, by omega, fun i hi => by rw [o35 i (by omega), n6 i (by omega), k35, m6 i hi], sg, by omega, by omega, n10, (m11.tr (L20_3 m14.2.2.1 e1)).tr n11, by omega, m13.tr (f1.tr n13), rs3, pd, fun z => z.elim, fun z => (m17 z).bin (n17 z)⟩ zn
  · rw [pb_ne (fun z => hin ((wi (a := 6) (b := 7) (by omega) (by decide) (by decide)).mp z)), if_pos (show nI 0 = (0 : Int32) from rfl)] at st
    refine Or.inr ⟨h', u', p', d, D, gc', gr', X', pend, k, st, hmd, ?_⟩
    generalize tkF b len h' = c at *
    refine ⟨?_, ?_, hni.1, hni.2.1, hni.2.2⟩
    · intro z; subst z; exact hin ⟨by decide, by decide⟩
    · intro z; subst z; exact hin ⟨by decide, by decide⟩
theorem sumL (hT : Tp b len) {f : Nat} (hP : TermOK md b len a1 f) {x0 : Int32} {h u p bk : Nat} {X : Cd} {base : List (Nat × Nat)} {gc gr : am_G} (hpre : PreP md b len 5 h u p bk X base gc gr) (hf : 3 + 4 * (8 - bk) ≤ f) : ∀ (m n j h' u' p' d : Nat) (D : pD) (gc' gr' : am_G) (X' : Cd) (pend : List (Nat × Nat)) (k : Nat), 400 - h' ≤ m → m < n → 2 * j ≤ h' → MdP md b len a1 x0 (nI 3) 5 False h u p bk X base gc gr h' u' p' d D gc' gr' X' pend k → (fun c => c ≠ 170 ∧ c ≠ 175 ∧ c ≠ 165) (tkF b len h') → FlR b len a1 (fX5_readSum_L7 (fX5_rd f) n (nI 1) (nI j) gc') h x0 gc gr ∨ OkR md b len a1 (fX5_readSum_L7 (fX5_rd f) n (nI 1) (nI j) gc') x0 (nI 3) 5 False nAr h u p bk X base gc gr := by
  intro m
  induction m with
  | zero =>
    intro n j h' u' p' d D gc' gr' X' pend k hm hn hj hmd hni
    exact sumS hT hP hpre hf 0 n j h' u' p' d D gc' gr' X' pend k hm hn hj hmd hni (fun hh => absurd hh (by omega))
  | succ m ih =>
    intro n j h' u' p' d D gc' gr' X' pend k hm hn hj hmd hni
    exact sumS hT hP hpre hf (m + 1) n j h' u' p' d D gc' gr' X' pend k hm hn hj hmd hni (fun _ n j h' u' p' d D gc' gr' X' pend k hm hn hj hmd hni => ih n j h' u' p' d D gc' gr' X' pend k (by omega) (by omega) hj hmd hni)
theorem sum_of (hT : Tp b len) {f : Nat} (hP : TermOK md b len a1 f) : SumOK md b len a1 (f + 1) := by
  intro h u p bk X base gc gr x0 hpre hst hf
  have hrd : fX5_rd (f + 1) 5 0 gc = am_bd (fX5_rd f 6 0 gc) fun v1 g2 => fX5_readSum_L7 (fX5_rd f) am_fu v1 0 g2 := rfl
  have hfu : am_fu = 1048575 + 1 := rfl
  rcases hP h u p bk X base gc gr x0 (hpre.le (by decide)) hst (by omega) with Hf | Ho
  · obtain ⟨h', gc', gr', k, x', z1, z⟩ := Hf
    refine Or.inl ⟨h', gc', gr', k, x', ?_, z⟩
    rw [hrd, z1, pu_bd, hfu]
    exact sum0 (j := 0) gc'
  · obtain ⟨h', u', p', d, D, gc', gr', X', pend, k, z1, hm, zn⟩ := Ho.md
    have hm' : MdP md b len a1 x0 (nI 3) 5 False h u p bk X base gc gr h' u' p' d D gc' gr' X' pend k := by
      obtain ⟨m1, m2, m3, m4, m5, m6, m7, m8, m9, m10, m11, m12, m13, m14, ⟨q1, q2⟩, m16⟩ := hm
      exact ⟨m1, m2, m3, m4, m5, m6, m7, m8, m9, m10, m11, m12, m13, m14, ⟨fun q hq => Nat.le_trans (by decide) (q1 q hq), q2⟩, m16⟩
    have e : fX5_rd (f + 1) 5 0 gc = fX5_readSum_L7 (fX5_rd f) am_fu (nI 1) (nI 0) gc' := by rw [hrd, z1, pu_bd]; rfl
    rcases sumL hT hP hpre (by omega) 400 am_fu 0 h' u' p' d D gc' gr' X' pend k (by omega) (by omega) (by omega) hm' zn with Hf | Ho
    · exact Or.inl (Hf.P e)
    · exact Or.inr (Ho.P e)
theorem sumAll (hT : Tp b len) : ∀ f, (PartOK md b len a1 f ∧ TermOK md b len a1 f ∧ SumOK md b len a1 f) ∧ (PartOK md b len a1 (f + 1) ∧ TermOK md b len a1 (f + 1) ∧ SumOK md b len a1 (f + 1))
  | 0 => by
    have p0 : ∀ f, f < 2 → PartOK md b len a1 f := fun f hf h u p bk X base gc gr x0 _ _ hn => absurd hn (by omega)
    have t0 : ∀ f, f < 3 → TermOK md b len a1 f := fun f hf h u p bk X base gc gr x0 _ _ hn => absurd hn (by omega)
    have s0 : ∀ f, f < 4 → SumOK md b len a1 f := fun f hf h u p bk X base gc gr x0 _ _ hn => absurd hn (by omega)
    exact ⟨⟨p0 0 (by decide), t0 0 (by decide), s0 0 (by decide)⟩, p0 1 (by decide), t0 1 (by decide), s0 1 (by decide)⟩
  | f + 1 => by
    obtain ⟨⟨p0, t0, s0⟩, p1, t1, s1⟩ := sumAll hT f
    exact ⟨⟨p1, t1, s1⟩, part_of hT s0, term_of hT p1, sum_of hT t1⟩
theorem sumOK (hT : Tp b len) (f : Nat) : SumOK md b len a1 f := (sumAll hT f).1.2.2
end SIM3
