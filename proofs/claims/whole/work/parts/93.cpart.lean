/-! ===== both read a part ===== -/
section SIM
variable (md : Bool) (b : Nat → Nat) (len : Nat) (a1 : Int32)
def FlP (f N : Nat) (a : Int32) (h : Nat) (x0 : Int32) (gc gr : am_G) : Prop :=
  ∃ h' gc' gr' k x', fX5_rd f N a gc = some (nI 0, gc') ∧ FcP gc gc' ∧ am_I gc' 29 7 = nI h' ∧ (∃ x, am_I gc' 29 6 = nI x ∧ x ≤ 512) ∧ Rch b len h' ∧ Rn a1 k x0 gr x' gr' ∧ k ≤ 2 * (h' - h) + 2 ∧ h ≤ h' ∧ FB b len h' gr' ∧ FrP gr gr'
def PdR (X X' : Cd) (pend : List (Nat × Nat)) (h h' lv d : Nat) (D : pD) : Prop := (∀ q ∈ pend, lv ≤ bnd q.1) ∧ pend.length + h ≤ h' ∧ SegR md (ems X' pend).1 (ems X' pend).2.1 X.2.2 (ems X' pend).2.2 d D ∧ (∀ i, i < X.2.2 → (ems X' pend).1 i = X.1 i ∧ (ems X' pend).2.1 i = X.2.1 i) ∧ (ems X' pend).2.2 + h ≤ X.2.2 + h'
def OkP (f N : Nat) (a x0 xT : Int32) (lv : Nat) (tst : Prop) (nt : Nat → Prop) (h u p bk : Nat) (X : Cd) (base : List (Nat × Nat)) (gc gr : am_G) : Prop :=
  ∃ h' u' p' d D gc' gr' X' pend k, fX5_rd f N a gc = some (nI 1, gc') ∧ FcP gc gc' ∧ CS md b len h' u' p' bk gc' ∧ h < h' ∧ u ≤ u' ∧ u' + h ≤ u + h' ∧ (∀ i, i < u → am_I gc' 35 i = am_I gc 35 i) ∧ SegC (am_I gc' 35) u u' d D ∧ 0 < d ∧ d + p ≤ p' ∧ p' ≤ 50 ∧
    Rn a1 k x0 gr xT gr' ∧ k ≤ 2 * (h' - h) ∧ FrP gr gr' ∧ RS md b len h' X' p' bk (pend ++ base) gr' ∧ PdR md X X' pend h h' lv d D ∧ (tst → dT D) ∧ (md = false → okD D) ∧ nt (tkF b len h')
def PreP (lv h u p bk : Nat) (X : Cd) (base : List (Nat × Nat)) (gc gr : am_G) : Prop := CS md b len h u p bk gc ∧ RS md b len h X p bk base gr ∧ base.length + 1 ≤ h ∧ X.2.2 + emc base + 1 ≤ h ∧ u ≤ h ∧ p ≤ 50 ∧ bk ≤ 8 ∧ tb base lv
def StP (x0 : Int32) (h : Nat) : Prop := x0 = nI 1 ∨ (x0 = nI 0 ∧ tkF b len h ≠ 10 ∧ tkF b len h ≠ 168)
def PartOK (f : Nat) : Prop := ∀ h u p bk X base gc gr x0, PreP md b len 7 h u p bk X base gc gr → StP b len x0 h → 2 + 4 * (8 - bk) ≤ f → FlP b len a1 f 7 0 h x0 gc gr ∨ OkP md b len a1 f 7 0 x0 (nI 3) 7 False (fun _ => True) h u p bk X base gc gr
def TermOK (f : Nat) : Prop := ∀ h u p bk X base gc gr x0, PreP md b len 6 h u p bk X base gc gr → StP b len x0 h → 3 + 4 * (8 - bk) ≤ f → FlP b len a1 f 6 0 h x0 gc gr ∨ OkP md b len a1 f 6 0 x0 (nI 3) 6 False (fun c => c ≠ 170 ∧ c ≠ 175 ∧ c ≠ 165) h u p bk X base gc gr
def SumOK (f : Nat) : Prop := ∀ h u p bk X base gc gr x0, PreP md b len 5 h u p bk X base gc gr → StP b len x0 h → 4 + 4 * (8 - bk) ≤ f → FlP b len a1 f 5 0 h x0 gc gr ∨ OkP md b len a1 f 5 0 x0 (nI 3) 5 False nAr h u p bk X base gc gr
end SIM
section CP
variable {md : Bool} {b : Nat → Nat} {len : Nat} {a1 : Int32} {h u p bk nl op : Nat} {X : Cd} {pi : List (Nat × Nat)} {g : am_G} {rec : Nat → Int32 → am_G → Option (Int32 × am_G)}
theorem StP.run {x0 v : Int32} {g' : am_G} (hs : StP b len x0 h) (hr : RS md b len h X nl op pi g) (e : fX12_readPart g = some (v, g')) : Rn a1 1 x0 g v g' := by
  rcases hs with rfl | ⟨rfl, h10, h168⟩
  · exact L20_1 hr.2.2.1 e
  · exact L20_0 hr.2.2.1 (PL_part hr h10 h168 e)
theorem CP_hd (hT : Tp b len) (hs : CS md b len h u p bk g) : bX5_readPart rec g = (if nI (tkF b len h) = (219 : Int32) then (
    am_bd (rec 3 (93 : Int32) g) fun v53 g54 =>
    am_gd (am_zb v53) <|
    some (v53, g54))
  else (
    if (am_I g 29 8) < (50 : Int32) then (
      am_let (am_si g 29 8 ((am_I g 29 8) + (1 : Int32))) fun g5 =>
      am_bd (fX11_within (nI (tkF b len h)) (1000 : Int32) (2000 : Int32) g5) fun v6 g7 =>
      if v6 = 0 then (
        am_jn (fun  (g11 : am_G) =>
          if (am_I g11 29 10) = 0 then (
            am_jn (fun  (g15 : am_G) =>
              am_let (am_si g15 29 7 ((am_I g15 29 7) + (1 : Int32))) fun g17 =>
              am_gd (am_in (am_I g17 29 7) 401) <|
              am_bd (fX11_within (am_I g17 31 (am_I g17 29 7).toNatClampNeg) (1000 : Int32) (1005 : Int32) g17) fun v19 g20 =>
              if v19 = 0 then (
                some ((0 : Int32), g20))
              else (
                am_jn (fun (x24 : Int32) (g25 : am_G) =>
                  am_gd (am_in (am_I g25 29 7) 401) <|
                  am_bd (fX5_addStep (2 : Int32) ((x24 + (am_I g25 31 (am_I g25 29 7).toNatClampNeg)) - (1000 : Int32)) g25) fun u28 g29 =>
                  am_let (am_si g29 29 7 ((am_I g29 29 7) + (1 : Int32))) fun g31 =>
                  some ((1 : Int32), g31)) fun j26 =>
                if nI (tkF b len h) = (21 : Int32) then (
                  j26 (28 : Int32) g20)
                else (
                  j26 (34 : Int32) g20))) fun j16 =>
            if nI (tkF b len h) = (21 : Int32) then (
              j16 g11)
            else (
              if nI (tkF b len h) = (27 : Int32) then (
                j16 g11)
              else (
                some ((0 : Int32), g11))))
          else (
            some ((0 : Int32), g11))) fun j12 =>
        if (am_I g7 29 10) = 0 then (
          am_bd (fX11_within (nI (tkF b len h)) (22 : Int32) (26 : Int32) g7) fun v33 g34 =>
          if v33 = 0 then (
            j12 g34)
          else (
            am_bd (fX5_addStep (2 : Int32) (nI (tkF b len h)) g34) fun u37 g38 =>
            am_let (am_si g38 29 7 ((am_I g38 29 7) + (1 : Int32))) fun g40 =>
            some ((1 : Int32), g40)))
        else (
          am_bd (fX11_within (nI (tkF b len h)) (13 : Int32) (22 : Int32) g7) fun v41 g42 =>
          if v41 = 0 then (
            j12 g42)
          else (
            am_bd (fX5_addStep (2 : Int32) (nI (tkF b len h)) g42) fun u45 g46 =>
            am_let (am_si g46 29 7 ((am_I g46 29 7) + (1 : Int32))) fun g48 =>
            some ((1 : Int32), g48))))
      else (
        am_bd (fX5_addStep (1 : Int32) ((nI (tkF b len h)) - (1000 : Int32)) g7) fun u49 g50 =>
        am_let (am_si g50 29 7 ((am_I g50 29 7) + (1 : Int32))) fun g52 =>
        some ((1 : Int32), g52)))
    else (
      some ((0 : Int32), g)))) := by
  have e7 := hs.1
  have hb := hs.2.2.2.2.2.2.b hT
  unfold bX5_readPart
  rw [e7, pe_gd (show h < 401 by omega) (by decide), pu_let, pe_clamp (show h < 2147483648 by omega), hs.tk]
theorem nne {c k : Nat} (hc : c < 3000) (hk : k < 3000) (h : c ≠ k) : ¬ nI c = nI k := fun z => h ((nn_eq (by omega) (by omega)).mp z)
theorem CP_br (hT : Tp b len) (hs : CS md b len h u p bk g) (ht : tkF b len h = 219) {v : Nat} {g' : am_G} (hv : v = 0 ∨ v = 1) (e : rec 3 (nI 93) g = some (nI v, g')) : bX5_readPart rec g = some (nI v, g') := by
  rw [CP_hd hT hs, ht, if_pos (show nI 219 = (219 : Int32) from rfl), show (93 : Int32) = nI 93 from rfl, e, pu_bd]
  rcases hv with rfl | rfl
  · rw [pz_0]
  · rw [pz_1]
theorem CP_full (hT : Tp b len) (hs : CS md b len h u 50 bk g) (ht : tkF b len h ≠ 219) : bX5_readPart rec g = some (nI 0, g) := by
  have hl := tk_lt (i := h) hT
  rw [CP_hd hT hs, if_neg (show ¬ nI (tkF b len h) = (219 : Int32) from nne (k := 219) (by omega) (by decide) ht), hs.2.2.1, if_neg (show ¬ nI 50 < (50 : Int32) by decide)]
  rfl
def CPt (b : Nat → Nat) (len h : Nat) (g7 : am_G) : Option (Int32 × am_G) :=
        am_jn (fun  (g11 : am_G) =>
          if (am_I g11 29 10) = 0 then (
            am_jn (fun  (g15 : am_G) =>
              am_let (am_si g15 29 7 ((am_I g15 29 7) + (1 : Int32))) fun g17 =>
              am_gd (am_in (am_I g17 29 7) 401) <|
              am_bd (fX11_within (am_I g17 31 (am_I g17 29 7).toNatClampNeg) (1000 : Int32) (1005 : Int32) g17) fun v19 g20 =>
              if v19 = 0 then (
                some ((0 : Int32), g20))
              else (
                am_jn (fun (x24 : Int32) (g25 : am_G) =>
                  am_gd (am_in (am_I g25 29 7) 401) <|
                  am_bd (fX5_addStep (2 : Int32) ((x24 + (am_I g25 31 (am_I g25 29 7).toNatClampNeg)) - (1000 : Int32)) g25) fun u28 g29 =>
                  am_let (am_si g29 29 7 ((am_I g29 29 7) + (1 : Int32))) fun g31 =>
                  some ((1 : Int32), g31)) fun j26 =>
                if nI (tkF b len h) = (21 : Int32) then (
                  j26 (28 : Int32) g20)
                else (
                  j26 (34 : Int32) g20))) fun j16 =>
            if nI (tkF b len h) = (21 : Int32) then (
              j16 g11)
            else (
              if nI (tkF b len h) = (27 : Int32) then (
                j16 g11)
              else (
                some ((0 : Int32), g11))))
          else (
            some ((0 : Int32), g11))) fun j12 =>
        if (am_I g7 29 10) = 0 then (
          am_bd (fX11_within (nI (tkF b len h)) (22 : Int32) (26 : Int32) g7) fun v33 g34 =>
          if v33 = 0 then (
            j12 g34)
          else (
            am_bd (fX5_addStep (2 : Int32) (nI (tkF b len h)) g34) fun u37 g38 =>
            am_let (am_si g38 29 7 ((am_I g38 29 7) + (1 : Int32))) fun g40 =>
            some ((1 : Int32), g40)))
        else (
          am_bd (fX11_within (nI (tkF b len h)) (13 : Int32) (22 : Int32) g7) fun v41 g42 =>
          if v41 = 0 then (
            j12 g42)
          else (
            am_bd (fX5_addStep (2 : Int32) (nI (tkF b len h)) g42) fun u45 g46 =>
            am_let (am_si g46 29 7 ((am_I g46 29 7) + (1 : Int32))) fun g48 =>
            some ((1 : Int32), g48)))
/-- behind the count of parts -/
theorem CP_one (hT : Tp b len) (hs : CS md b len h u p bk g) (ht : tkF b len h ≠ 219) (hp : p < 50) : CS md b len h u (p + 1) bk (am_si g 29 8 (nI (p + 1))) ∧ FcP g (am_si g 29 8 (nI (p + 1))) ∧ bX5_readPart rec g = (if 1000 ≤ tkF b len h ∧ tkF b len h ≤ 2000 then (am_bd (fX5_addStep (1 : Int32) ((nI (tkF b len h)) - (1000 : Int32)) (am_si g 29 8 (nI (p + 1)))) fun u49 g50 =>
        am_let (am_si g50 29 7 ((am_I g50 29 7) + (1 : Int32))) fun g52 =>
        some ((1 : Int32), g52)) else CPt b len h (am_si g 29 8 (nI (p + 1)))) := by
  have hl := tk_lt (i := h) hT
  have hf : FcP g (am_si g 29 8 (nI (p + 1))) := (FcP.rf g).si (by omega) _
  refine ⟨hs.cg hf (by rw [pe_ik (by decide)]; exact hs.1) (by rw [pe_ik (by decide)]; exact hs.2.1) (pe_ieq _ _ _ _) (by rw [pe_ik (by decide)]; exact hs.2.2.2.1) hs.2.2.2.2.2.2, hf, ?_⟩
  rw [CP_hd hT hs, if_neg (show ¬ nI (tkF b len h) = (219 : Int32) from nne (k := 219) (by omega) (by decide) ht), hs.2.2.1, if_pos (show nI p < (50 : Int32) from nI_lt (a := p) (b := 50) hp (by decide)), pu_let, show nI p + (1 : Int32) = nI (p + 1) from nI_add p 1, q11_within, pu_bd]
  by_cases c : 1000 ≤ tkF b len h ∧ tkF b len h ≤ 2000
  · rw [if_pos c, pb_eq (show (1000 : Int32) ≤ nI (tkF b len h) ∧ nI (tkF b len h) ≤ (2000 : Int32) from ⟨nI_le (a := 1000) c.1 (by omega), nI_le (b := 2000) c.2 (by decide)⟩), if_neg (show ¬ nI 1 = (0 : Int32) by decide)]
  · rw [if_neg c, pb_ne (show ¬ ((1000 : Int32) ≤ nI (tkF b len h) ∧ nI (tkF b len h) ≤ (2000 : Int32)) from fun z => c ⟨(nI_leI (a := 1000) (by decide) (by omega)).mp z.1, (nI_leI (b := 2000) (by omega) (by decide)).mp z.2⟩), if_pos (show nI 0 = (0 : Int32) from rfl)]
    rfl
/-- one step is added, the token is passed -/
theorem CP_add (hs : CS md b len h u p bk g) {k w : Nat} (hk : k < 14) (hw : w < 1024) (hu : u < 512) (h0 : tkF b len h ≠ 0) : ∃ g', (am_bd (fX5_addStep (nI k) (nI w) g) fun _ g50 =>
        am_let (am_si g50 29 7 ((am_I g50 29 7) + (1 : Int32))) fun g52 =>
        some ((1 : Int32), g52)) = some (nI 1, g') ∧ CS md b len (h + 1) (u + 1) p bk g' ∧ FcP g g' ∧ am_I g' 35 u = nI (1024 * k + w) ∧ ∀ i, i < u → am_I g' 35 i = am_I g 35 i := by
  obtain ⟨e1, c1⟩ := q5_addStep hs hk hw hu
  refine ⟨am_si (am_si (am_si g 35 u (nI (1024 * k + w))) 29 6 (nI (u + 1))) 29 7 (nI (h + 1)), ?_, ?_, (((FcP.rf g).si (by omega) _).si (by omega) _).si (by omega) _, ?_, fun i hi => ?_⟩
  · rw [e1, pu_bd, pu_let, c1.1, show nI h + (1 : Int32) = nI (h + 1) from nI_add h 1]
    rfl
  · exact c1.cg ((FcP.rf _).si (by omega) _) (pe_ieq _ _ _ _) (by rw [pe_ik (by decide)]; exact c1.2.1) (by rw [pe_ik (by decide)]; exact c1.2.2.1) (by rw [pe_ik (by decide)]; exact c1.2.2.2.1) (hs.2.2.2.2.2.2.nx h0)
  · rw [pe_ine (by decide), pe_ine (by decide), pe_ieq]
  · rw [pe_ine (by decide), pe_ine (by decide), pe_ik (by omega)]
theorem wi {c a b : Nat} (hc : c < 3000) (ha : a < 3000) (hb : b < 3000) : (nI a ≤ nI c ∧ nI c ≤ nI b) ↔ (a ≤ c ∧ c ≤ b) := by rw [pe_le (by omega) (by omega), pe_le (by omega) (by omega)]
/-- a word -/
theorem CPt_word (hT : Tp b len) (hs : CS md b len h u p bk g) (hw : (md = false ∧ 13 ≤ tkF b len h ∧ tkF b len h ≤ 22) ∨ (md = true ∧ 22 ≤ tkF b len h ∧ tkF b len h ≤ 26)) (hu : u < 512) : ∃ g', CPt b len h g = some (nI 1, g') ∧ CS md b len (h + 1) (u + 1) p bk g' ∧ FcP g g' ∧ am_I g' 35 u = nI (1024 * 2 + tkF b len h) ∧ ∀ i, i < u → am_I g' 35 i = am_I g 35 i := by
  have hl := tk_lt (i := h) hT
  obtain ⟨g', e1, e2⟩ := CP_add hs (k := 2) (w := tkF b len h) (by decide) (by omega) hu (by omega)
  refine ⟨g', ?_, e2⟩
  unfold CPt
  rw [pu_jn, hs.2.2.2.2.1]
  rcases hw with ⟨rfl, w1, w2⟩ | ⟨rfl, w1, w2⟩
  · rw [if_neg (show ¬ nI (tN !false) = (0 : Int32) by decide), q11_within, pu_bd, pb_eq (show (13 : Int32) ≤ nI (tkF b len h) ∧ nI (tkF b len h) ≤ (22 : Int32) from (wi (a := 13) (b := 22) (by omega) (by decide) (by decide)).mpr ⟨w1, w2⟩), if_neg (show ¬ nI 1 = (0 : Int32) by decide)]
    exact e1
  · rw [if_pos (show nI (tN !true) = (0 : Int32) from rfl), q11_within, pu_bd, pb_eq (show (22 : Int32) ≤ nI (tkF b len h) ∧ nI (tkF b len h) ≤ (26 : Int32) from (wi (a := 22) (b := 26) (by omega) (by decide) (by decide)).mpr ⟨w1, w2⟩), if_neg (show ¬ nI 1 = (0 : Int32) by decide)]
    exact e1
/-- no word -/
theorem CPt_bad (hT : Tp b len) (hs : CS md b len h u p bk g) (hw : (md = false ∧ ¬ (13 ≤ tkF b len h ∧ tkF b len h ≤ 22)) ∨ (md = true ∧ ¬ (21 ≤ tkF b len h ∧ tkF b len h ≤ 27))) : CPt b len h g = some (nI 0, g) := by
  have hl := tk_lt (i := h) hT
  unfold CPt
  rw [pu_jn, hs.2.2.2.2.1]
  rcases hw with ⟨rfl, w⟩ | ⟨rfl, w⟩
  · rw [if_neg (show ¬ nI (tN !false) = (0 : Int32) by decide), q11_within, pu_bd, pb_ne (show ¬ ((13 : Int32) ≤ nI (tkF b len h) ∧ nI (tkF b len h) ≤ (22 : Int32)) from fun z => w ((wi (a := 13) (b := 22) (by omega) (by decide) (by decide)).mp z)), if_pos (show nI 0 = (0 : Int32) from rfl)]
    dsimp only
    rw [hs.2.2.2.2.1, if_neg (show ¬ nI (tN !false) = (0 : Int32) by decide)]
    rfl
  · rw [if_pos (show nI (tN !true) = (0 : Int32) from rfl), q11_within, pu_bd, pb_ne (show ¬ ((22 : Int32) ≤ nI (tkF b len h) ∧ nI (tkF b len h) ≤ (26 : Int32)) from fun z => by have := (wi (a := 22) (b := 26) (by omega) (by decide) (by decide)).mp z; omega), if_pos (show nI 0 = (0 : Int32) from rfl)]
    dsimp only
    rw [hs.2.2.2.2.1, if_pos (show nI (tN !true) = (0 : Int32) from rfl), pu_jn, if_neg (show ¬ nI (tkF b len h) = (21 : Int32) from nne (k := 21) (by omega) (by decide) (by omega)), if_neg (show ¬ nI (tkF b len h) = (27 : Int32) from nne (k := 27) (by omega) (by decide) (by omega))]
    rfl
theorem CPt_slope (hT : Tp b len) (hs : CS true b len h u p bk g) (hw : tkF b len h = 21 ∨ tkF b len h = 27) (hu : u < 512) : (1000 ≤ tkF b len (h + 1) ∧ tkF b len (h + 1) ≤ 1005 → ∃ g', CPt b len h g = some (nI 1, g') ∧ CS true b len (h + 2) (u + 1) p bk g' ∧ FcP g g' ∧ am_I g' 35 u = nI (1024 * 2 + ((if tkF b len h = 21 then 28 else 34) + (tkF b len (h + 1) - 1000))) ∧ ∀ i, i < u → am_I g' 35 i = am_I g 35 i) ∧ (¬ (1000 ≤ tkF b len (h + 1) ∧ tkF b len (h + 1) ≤ 1005) → ∃ g', CPt b len h g = some (nI 0, g') ∧ CS true b len (h + 1) u p bk g' ∧ FcP g g') := by
  have hl := tk_lt (i := h) hT
  have hl1 := tk_lt (i := h + 1) hT
  have hR1 : Rch b len (h + 1) := hs.2.2.2.2.2.2.nx (by omega)
  have hb1 := hR1.b hT
  have cs1 : CS true b len (h + 1) u p bk (am_si g 29 7 (nI (h + 1))) := hs.cg ((FcP.rf g).si (by omega) _) (pe_ieq _ _ _ _) (by rw [pe_ik (by decide)]; exact hs.2.1) (by rw [pe_ik (by decide)]; exact hs.2.2.1) (by rw [pe_ik (by decide)]; exact hs.2.2.2.1) hR1
  have hf1 : FcP g (am_si g 29 7 (nI (h + 1))) := (FcP.rf g).si (by omega) _
  have hh := hs.1
  have st : CPt b len h g = (am_bd (fX11_within (nI (tkF b len (h + 1))) (1000 : Int32) (1005 : Int32) (am_si g 29 7 (nI (h + 1)))) fun v19 g20 =>
              if v19 = 0 then (
                some ((0 : Int32), g20))
              else (
                am_jn (fun (x24 : Int32) (g25 : am_G) =>
                  am_gd (am_in (am_I g25 29 7) 401) <|
                  am_bd (fX5_addStep (2 : Int32) ((x24 + (am_I g25 31 (am_I g25 29 7).toNatClampNeg)) - (1000 : Int32)) g25) fun u28 g29 =>
                  am_let (am_si g29 29 7 ((am_I g29 29 7) + (1 : Int32))) fun g31 =>
                  some ((1 : Int32), g31)) fun j26 =>
                if nI (tkF b len h) = (21 : Int32) then (
                  j26 (28 : Int32) g20)
                else (
                  j26 (34 : Int32) g20))) := by
    unfold CPt
    rw [pu_jn, hs.2.2.2.2.1, if_pos (show nI (tN !true) = (0 : Int32) from rfl), q11_within, pu_bd, pb_ne (show ¬ ((22 : Int32) ≤ nI (tkF b len h) ∧ nI (tkF b len h) ≤ (26 : Int32)) from fun z => by have := (wi (a := 22) (b := 26) (by omega) (by decide) (by decide)).mp z; omega), if_pos (show nI 0 = (0 : Int32) from rfl)]
    dsimp only
    rw [hs.2.2.2.2.1, if_pos (show nI (tN !true) = (0 : Int32) from rfl), pu_jn]
    rcases hw with e | e
    · rw [if_pos (show nI (tkF b len h) = (21 : Int32) by rw [e]; rfl)]
      dsimp only
      rw [pu_let, hh, show nI h + (1 : Int32) = nI (h + 1) from nI_add h 1, cs1.1, pe_gd (show h + 1 < 401 by omega) (by decide), pe_clamp (show h + 1 < 2147483648 by omega), cs1.tk]
    · rw [if_neg (show ¬ nI (tkF b len h) = (21 : Int32) by rw [e]; decide), if_pos (show nI (tkF b len h) = (27 : Int32) by rw [e]; rfl)]
      dsimp only
      rw [pu_let, hh, show nI h + (1 : Int32) = nI (h + 1) from nI_add h 1, cs1.1, pe_gd (show h + 1 < 401 by omega) (by decide), pe_clamp (show h + 1 < 2147483648 by omega), cs1.tk]
  constructor
  · intro hin
    obtain ⟨s, hs28, ek⟩ : ∃ s, (s = 28 ∨ s = 34) ∧ (if tkF b len h = 21 then 28 else 34) = s := by
      by_cases e : tkF b len h = 21
      · exact ⟨28, Or.inl rfl, by rw [if_pos e]⟩
      · exact ⟨34, Or.inr rfl, by rw [if_neg e]⟩
    obtain ⟨g', e1, e2, e3, e4, e5⟩ := CP_add cs1 (k := 2) (w := s + (tkF b len (h + 1) - 1000)) (by decide) (by omega) hu (by omega)
    refine ⟨g', ?_, e2, hf1.tr e3, by rw [ek]; exact e4, fun i hi => by rw [e5 i hi, pe_ine (by decide)]⟩
    rw [st, q11_within, pu_bd, pb_eq (show (1000 : Int32) ≤ nI (tkF b len (h + 1)) ∧ nI (tkF b len (h + 1)) ≤ (1005 : Int32) from (wi (a := 1000) (b := 1005) (by omega) (by decide) (by decide)).mpr hin), if_neg (show ¬ nI 1 = (0 : Int32) by decide), pu_jn]
    by_cases e : tkF b len h = 21
    · rw [if_pos e] at ek
      subst ek
      rw [if_pos (show nI (tkF b len h) = (21 : Int32) by rw [e]; rfl)]
      dsimp only
      rw [cs1.1, pe_gd (show h + 1 < 401 by omega) (by decide), pe_clamp (show h + 1 < 2147483648 by omega), cs1.tk, show (28 : Int32) = nI 28 from rfl, nI_add, show nI (28 + tkF b len (h + 1)) - (1000 : Int32) = nI (28 + (tkF b len (h + 1) - 1000)) from (nn_sub (a := 28 + tkF b len (h + 1)) (b := 1000) (by omega)).trans (by rw [show 28 + tkF b len (h + 1) - 1000 = 28 + (tkF b len (h + 1) - 1000) by omega])]
      exact e1
    · rw [if_neg e] at ek
      subst ek
      rw [if_neg (show ¬ nI (tkF b len h) = (21 : Int32) from nne (k := 21) (by omega) (by decide) e)]
      dsimp only
      rw [cs1.1, pe_gd (show h + 1 < 401 by omega) (by decide), pe_clamp (show h + 1 < 2147483648 by omega), cs1.tk, show (34 : Int32) = nI 34 from rfl, nI_add, show nI (34 + tkF b len (h + 1)) - (1000 : Int32) = nI (34 + (tkF b len (h + 1) - 1000)) from (nn_sub (a := 34 + tkF b len (h + 1)) (b := 1000) (by omega)).trans (by rw [show 34 + tkF b len (h + 1) - 1000 = 34 + (tkF b len (h + 1) - 1000) by omega])]
      exact e1
  · intro hin
    refine ⟨_, ?_, cs1, hf1⟩
    rw [st, q11_within, pu_bd, pb_ne (show ¬ ((1000 : Int32) ≤ nI (tkF b len (h + 1)) ∧ nI (tkF b len (h + 1)) ≤ (1005 : Int32)) from fun z => hin ((wi (a := 1000) (b := 1005) (by omega) (by decide) (by decide)).mp z)), if_pos (show nI 0 = (0 : Int32) from rfl)]
    rfl
end CP
