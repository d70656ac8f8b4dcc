/-! ===== the class scans its tape ===== -/
section SCN
variable {b : Nat → Nat} {len : Nat}
theorem min1001 {y : Nat} (h : y < 2147483648) : am_min (nI 1001) (nI y) = nI (min 1001 y) := by
  show (if nI y < nI 1001 then nI y else nI 1001) = _
  by_cases c : y < 1001
  · rw [if_pos (nI_lt c (by decide)), show min 1001 y = y by omega]
  · rw [if_neg (nI_nlt (by omega) (by omega)), show min 1001 y = 1001 by omega]
theorem valL (hT : Tp b len) {g : am_G} (hc : CT b len g) {e : Nat} (he : e ≤ len) : ∀ (d i n v : Nat), i + d = e → d < n → v ≤ 1001 → (∀ j, i ≤ j → j < e → isDg (b j) = true) → fX5_tokenOf_L51 (nI e) n (nI v) (nI i) g = some (nI (1000 + vlF b d i v), g)
  | 0, i, n, v, hd, hn, hv, hD => by
    obtain ⟨n, rfl⟩ : ∃ m, n = m + 1 := ⟨n - 1, by omega⟩
    have hl := hT.1
    rw [fX5_tokenOf_L51, if_pos (show nI e ≤ nI i from nI_le (by omega) (by omega)), vlF, show (1000 : Int32) + nI v = nI (1000 + v) from nI_add 1000 v]
  | d + 1, i, n, v, hd, hn, hv, hD => by
    obtain ⟨n, rfl⟩ : ∃ m, n = m + 1 := ⟨n - 1, by omega⟩
    have hl := hT.1
    have hdi := of_decide_eq_true (hD i (Nat.le_refl _) (by omega))
    have hi := hc.2 i (by omega)
    have IH := valL hT hc he d (i + 1) n (min 1001 (v * 10 + (b i - 48))) (by omega) (by omega) (by omega) (fun j h1 h2 => hD j (by omega) h2)
    have e1 : nI v * (10 : Int32) + nI (b i) - (48 : Int32) = nI (v * 10 + (b i - 48)) := by
      rw [show (10 : Int32) = nI 10 from rfl, nn_mul, nI_add, show (48 : Int32) = nI 48 from rfl, nn_sub (by omega)]
      congr 1
      omega
    rw [fX5_tokenOf_L51, if_neg (show ¬ nI e ≤ nI i from nI_ge (by omega) (by omega)), pe_gd (show i < 400 by omega) (by decide), pu_let, pe_clamp (show i < 2147483648 by omega), hi, sb_sm (by omega), e1, show (1001 : Int32) = nI 1001 from rfl, min1001 (by omega), pu_let, show nI i + (1 : Int32) = nI (i + 1) from nI_add i 1, IH, vlF]
theorem q5_tokenOf (hT : Tp b len) {g : am_G} (hc : CT b len g) {s : Nat} (hs : s < len) : fX5_tokenOf (nI s) (nI (enS b len s)) g = some (nI (tkS b len s), g) := by
  have hl := hT.1
  have hi := hc.2 s hs
  have hbi := hT.2 s hs
  have le := q5_isLetter hbi g
  have di := q5_isDigit hbi g
  have hr := enS_rg (b := b) (len := len) (s := s) (by omega)
  have hfu : am_fu = 1048576 := rfl
  unfold fX5_tokenOf tkS
  rw [if_neg (show ¬ len ≤ s by omega), pe_gd (show s < 400 by omega) (by decide), pe_clamp (show s < 2147483648 by omega), hi, le, pu_bd]
  by_cases c : isL (b s) = true
  · have eE : enS b len s = rnF isL b (len - s) s := by unfold enS; rw [if_neg (show ¬ len ≤ s by omega), if_pos c]
    have hall := rnF_all isL b (len - s) s
    rw [← eE] at hall
    rw [pb_eq c, if_neg (show ¬ nI 1 = (0 : Int32) by decide), if_pos c, q5_nameOf hT hc (hr.2.2 hs) hr.2.1 (fun i hi => hall (s + i) (by omega) (by omega)), pu_bd]
  · rw [pb_ne c, if_pos (show nI 0 = (0 : Int32) from rfl), if_neg c, pe_gd (show s < 400 by omega) (by decide), hi, di, pu_bd]
    by_cases c2 : isDg (b s) = true
    · have eE : enS b len s = rnF isDg b (len - s) s := by unfold enS; rw [if_neg (show ¬ len ≤ s by omega), if_neg c, if_pos c2]
      have hall := rnF_all isDg b (len - s) s
      rw [← eE] at hall
      rw [pb_eq c2, if_neg (show ¬ nI 1 = (0 : Int32) by decide), if_pos c2, show (0 : Int32) = nI 0 from rfl, valL hT hc hr.2.1 (enS b len s - s) s am_fu 0 (by omega) (by omega) (by decide) (fun j h1 h2 => hall j h1 h2)]
    · rw [pb_ne c2, if_pos (show nI 0 = (0 : Int32) from rfl), if_neg c2, pe_gd (show s < 400 by omega) (by decide), hi, show (255 : Int32) = nI 255 from rfl, sb_and _ hbi, show (128 : Int32) + nI (b s) = nI (128 + b s) from nI_add 128 (b s)]
def FcT (g g' : am_G) : Prop := g'.2 = g.2 ∧ ∀ a, a ≠ 31 → a ≠ 32 → am_I g' a = am_I g a
theorem CT.T {g g' : am_G} (h : CT b len g) (hf : FcT g g') : CT b len g' := ⟨by rw [hf.2 29 (by decide) (by decide)]; exact h.1, fun i hi => by rw [hf.2 30 (by decide) (by decide)]; exact h.2 i hi⟩
theorem scE (hT : Tp b len) (i n f : Nat) (s : Int32) (g : am_G) (hi : i = len) (hf : 0 < f) (hc : CT b len g) (hR : Rch b len n) (hn : n ≤ i) (hp : plF b len n = skp b (len - i) i) (hj : ∀ j, j < n → am_I g 31 j = nI (tkF b len j) ∧ am_I g 32 j = nI (plF b len j)) : ∃ g', fX5_scan_L6 f (nI n) s (nI i) g = some ((), g') ∧ (∀ j, Rch b len j → am_I g' 31 j = nI (tkF b len j) ∧ am_I g' 32 j = nI (plF b len j)) ∧ FcT g g' := by
  obtain ⟨f, rfl⟩ : ∃ k, f = k + 1 := ⟨f - 1, by omega⟩
  subst hi
  have hl := hT.1
  rw [Nat.sub_self, skp] at hp
  have h0 : tkF b i n = 0 := by unfold tkF; rw [hp]; exact (tkS_0 (Nat.le_refl _)).mpr rfl
  refine ⟨am_si (am_si g 32 n (nI i)) 31 n (nI 0), ?_, fun j hRj => ?_, rfl, fun a h1 h2 => by rw [pI_si_ne _ _ _ h1, pI_si_ne _ _ _ h2]⟩
  · rw [fX5_scan_L6, hc.1, if_pos (show nI i ≤ nI i from nI_le (Nat.le_refl _) (by omega)), pe_gd (show n < 401 by omega) (by decide), pu_let, pe_clamp (show n < 2147483648 by omega), pe_gd (show n < 401 by omega) (by decide), pu_let]
    rfl
  · by_cases e : j = n
    · subst e
      rw [pe_ieq, pe_ine (by decide), pe_ieq, h0, hp]
      exact ⟨rfl, rfl⟩
    · have hjn : j < n := by
        rcases Nat.lt_or_ge j n with z | z
        · exact z
        · exact absurd h0 (hRj n (by omega))
      rw [pe_ik e, pe_ine (by decide), pe_ine (by decide), pe_ik e]
      exact hj j hjn
/-- the places of a token that was read are passed over -/
theorem scP (hT : Tp b len) {g : am_G} (hc : CT b len g) (n e : Nat) (he : e ≤ len) : ∀ (d i f : Nat), i + d = e → fX5_scan_L6 (f + d) (nI n) (nI e) (nI i) g = fX5_scan_L6 f (nI n) (nI e) (nI e) g
  | 0, i, f, hd => by
    obtain rfl : i = e := by omega
    rfl
  | d + 1, i, f, hd => by
    have hl := hT.1
    have IH := scP hT hc n e he d (i + 1) f (by omega)
    show fX5_scan_L6 ((f + d) + 1) (nI n) (nI e) (nI i) g = _
    rw [← IH, fX5_scan_L6, hc.1, if_neg (show ¬ nI len ≤ nI i from nI_ge (by omega) (by omega)), pu_jn, if_pos (show nI i < nI e from nI_lt (by omega) (by omega))]
    dsimp only
    rw [pu_let, show nI i + (1 : Int32) = nI (i + 1) from nI_add i 1]
theorem scanL (hT : Tp b len) : ∀ (m i s n f : Nat) (g : am_G), len - i ≤ m → i ≤ len → s ≤ i → len - i < f → CT b len g → Rch b len n → n ≤ i → plF b len n = skp b (len - i) i → (∀ j, j < n → am_I g 31 j = nI (tkF b len j) ∧ am_I g 32 j = nI (plF b len j)) → ∃ g', fX5_scan_L6 f (nI n) (nI s) (nI i) g = some ((), g') ∧ (∀ j, Rch b len j → am_I g' 31 j = nI (tkF b len j) ∧ am_I g' 32 j = nI (plF b len j)) ∧ FcT g g' := by
  intro m
  induction m with
  | zero =>
    intro i s n f g hm hi hs hf hc hR hn hp hj
    exact scE hT i n f (nI s) g (by omega) (by omega) hc hR hn hp hj
  | succ m ih =>
    intro i s n f g hm hi hs hf hc hR hn hp hj
    by_cases hil : i = len
    · exact scE hT i n f (nI s) g hil (by omega) hc hR hn hp hj
    · have hl := hT.1
      obtain ⟨f, rfl⟩ : ∃ k, f = k + 1 := ⟨f - 1, by omega⟩
      have hlt : i < len := by omega
      have h30 := hc.2 i hlt
      have hbi := hT.2 i hlt
      obtain ⟨d, hd⟩ : ∃ d, len - i = d + 1 := ⟨len - i - 1, by omega⟩
      rw [hd, skp] at hp
      by_cases c : b i = 32
      · rw [if_pos c] at hp
        obtain ⟨g', z1, z2⟩ := ih (i + 1) s n f g (by omega) (by omega) (by omega) (by omega) hc hR (by omega) (by rw [hp, show len - (i + 1) = d by omega]) hj
        refine ⟨g', ?_, z2⟩
        rw [← z1, fX5_scan_L6, hc.1, if_neg (show ¬ nI len ≤ nI i from nI_ge (by omega) (by omega)), pu_jn, if_neg (show ¬ nI i < nI s from nI_nlt (by omega) (by omega)), pe_gd (show i < 400 by omega) (by decide), pe_clamp (show i < 2147483648 by omega), h30, if_pos (show sb (b i) = (32 : Int32) from (sb_32 _ hbi).mpr c)]
        dsimp only
        rw [pu_let, show nI i + (1 : Int32) = nI (i + 1) from nI_add i 1]
      · rw [if_neg c] at hp
        have hr := enS_rg (b := b) (len := len) (s := i) (by omega)
        have h3 := hr.2.2 hlt
        have hr2 := hr.2.1
        have htk : tkF b len n = tkS b len i := by unfold tkF; rw [hp]
        have h0 : tkF b len n ≠ 0 := by
          rw [htk]
          intro z
          have := (tkS_0 (b := b) (len := len) (s := i) (by omega)).mp z
          omega
        have cg : CT b len (am_si g 32 n (nI i)) := ⟨by rw [pe_ine (by decide)]; exact hc.1, fun j hj => by rw [pe_ine (by decide)]; exact hc.2 j hj⟩
        have cg2 : CT b len (am_si (am_si g 32 n (nI i)) 31 n (nI (tkS b len i))) := ⟨by rw [pe_ine (by decide), pe_ine (by decide)]; exact hc.1, fun j hj => by rw [pe_ine (by decide), pe_ine (by decide)]; exact hc.2 j hj⟩
        obtain ⟨q, hq⟩ : ∃ q, i + 1 + q = enS b len i := ⟨enS b len i - (i + 1), by omega⟩
        obtain ⟨f2, hf2⟩ : ∃ f2, f = f2 + q := ⟨f - q, by omega⟩
        obtain ⟨g', z1, z2, z3⟩ := ih (enS b len i) (enS b len i) (n + 1) f2 (am_si (am_si g 32 n (nI i)) 31 n (nI (tkS b len i))) (by omega) hr.2.1 (Nat.le_refl _) (by omega) cg2 (hR.nx h0) (by omega) (by rw [plF, hp]) (fun j hj' => by
          by_cases e : j = n
          · subst e
            rw [pe_ieq, pe_ine (by decide), pe_ieq, htk, hp]
            exact ⟨rfl, rfl⟩
          · rw [pe_ik e, pe_ine (by decide), pe_ine (by decide), pe_ik e]
            exact hj j (by omega))
        refine ⟨g', ?_, z2, z3.1, fun a h1 h2 => by rw [z3.2 a h1 h2, pI_si_ne _ _ _ h1, pI_si_ne _ _ _ h2]⟩
        have hn4 := hR.b hT
        rw [← z1, ← scP hT cg2 (n + 1) (enS b len i) hr2 q (i + 1) f2 hq, ← hf2, fX5_scan_L6, hc.1, if_neg (show ¬ nI len ≤ nI i from nI_ge (by omega) (by omega)), pu_jn, if_neg (show ¬ nI i < nI s from nI_nlt (by omega) (by omega)), pe_gd (show i < 400 by omega) (by decide), pe_clamp (show i < 2147483648 by omega), h30, if_neg (show ¬ sb (b i) = (32 : Int32) from fun z => c ((sb_32 _ hbi).mp z)), q5_tokenEnd hT hc hlt, pu_bd, pe_gd (show n < 401 by omega) (by decide), pu_let, pe_clamp (show n < 2147483648 by omega), q5_tokenOf hT cg hlt, pu_bd, pe_gd (show n < 401 by omega) (by decide), pu_let, pu_let]
        dsimp only
        rw [pu_let, show nI n + (1 : Int32) = nI (n + 1) from nI_add n 1, show nI i + (1 : Int32) = nI (i + 1) from nI_add i 1]
theorem q5_scan (hT : Tp b len) {g : am_G} (hc : CT b len g) : ∃ g', fX5_scan g = some ((), g') ∧ (∀ j, Rch b len j → am_I g' 31 j = nI (tkF b len j) ∧ am_I g' 32 j = nI (plF b len j)) ∧ FcT g g' := by
  have hfu : am_fu = 1048576 := rfl
  have hl := hT.1
  obtain ⟨g', z1, z2⟩ := scanL hT len 0 0 0 am_fu g (by omega) (by omega) (by omega) (by omega) hc (fun j hj => absurd hj (by omega)) (by omega) (by rw [plF, Nat.sub_zero]) (fun j hj => absurd hj (by omega))
  refine ⟨g', ?_, z2⟩
  unfold fX5_scan
  exact z1
/-- a text is begun: the class -/
def rdS (v : Int32) (g : am_G) : am_G := am_si (am_si (am_si (am_si (am_si (am_si (am_si g 29 4 (nI 0)) 29 10 v) 29 7 (nI 0)) 29 6 (nI 0)) 29 8 (nI 0)) 29 9 (nI 0)) 33 2 (nI 0)
theorem q5_readS (hT : Tp b len) {g : am_G} (hc : CT b len g) (md : Bool) : ∃ g', (∀ j, Rch b len j → am_I g' 32 j = nI (plF b len j)) ∧ CS md b len 0 0 0 0 (rdS (nI (tN !md)) g') ∧ FcT g g' ∧ fX5_read (nI (tN !md)) g = (am_bd (fX5_readClauses_L2 am_fu (nI 0) (rdS (nI (tN !md)) g')) fun v12 g13 =>
  if v12 = 0 then (
    am_gd (am_in (am_I g13 29 7) 401) <|
    am_let (am_si g13 29 5 (am_I g13 32 (am_I g13 29 7).toNatClampNeg)) fun g17 =>
    am_gd (am_zb v12) <|
    some (v12, g17))
  else (
    am_let (am_si g13 29 5 (-1 : Int32)) fun g19 =>
    am_gd (am_zb v12) <|
    some (v12, g19))) := by
  obtain ⟨g', z1, z2, z3⟩ := q5_scan hT hc
  refine ⟨g', fun j hj => (z2 j hj).2, ⟨?_, ?_, ?_, ?_, ?_, fun i hi => ?_, fun j hj => absurd hj (by omega)⟩, z3, ?_⟩
  · unfold rdS; rw [pe_ine (by decide), pe_ik (by decide), pe_ik (by decide), pe_ik (by decide), pe_ieq]
  · unfold rdS; rw [pe_ine (by decide), pe_ik (by decide), pe_ik (by decide), pe_ieq]
  · unfold rdS; rw [pe_ine (by decide), pe_ik (by decide), pe_ieq]
  · unfold rdS; rw [pe_ine (by decide), pe_ieq]
  · unfold rdS; rw [pe_ine (by decide), pe_ik (by decide), pe_ik (by decide), pe_ik (by decide), pe_ik (by decide), pe_ieq]
  · unfold rdS
    rw [pe_ine (by decide), pe_ine (by decide), pe_ine (by decide), pe_ine (by decide), pe_ine (by decide), pe_ine (by decide), pe_ine (by decide)]
    exact (z2 i hi).1
  · unfold fX5_read
    rw [z1, pu_bd, pu_let, show am_zb (nI (tN !md)) = true by cases md <;> rfl, pu_gdt, pu_let, pu_let, pu_let, pu_let, pu_let, pu_let]
    unfold fX5_readClauses rdS
    rw [show (0 : Int32) = nI 0 from rfl]
end SCN
