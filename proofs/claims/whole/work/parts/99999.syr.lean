/-! ===== saying: the reference's search ===== -/
def RDs (nW n : Nat) (L : Nat → Nat) (mg sy : Nat → Int32) (op : Nat → Bool) (sh : Nat → Nat → Nat) (sn st hd : Nat → Nat) (g : am_G) : Prop := am_I g 2 0 = nI nW ∧ am_I g 2 1 = nI n ∧ (∀ k, k < n → am_I g 2 (206 + k) = sy k) ∧ (∀ w, w < nW → am_I g 2 (142 + 4 * w + 0) = nI (L w) ∧ am_I g 2 (142 + 4 * w + 2) = mg w ∧ am_I g 24 w = (if op w = true then nI 1 else nI 0) ∧ ∀ s, s < 6 → am_I g 23 (6 * w + s) = nI (sh w s)) ∧ ∀ s, s < 6 → am_I g 2 (10 + 10 * s + 0) = nI (sn s) ∧ am_I g 2 (10 + 10 * s + 8) = nI (st s) ∧ am_I g 2 (10 + 10 * s + 1) = nI (hd s)
def rmB (sn st hd : Nat → Nat) (s : Nat) : Int := if sn s = 0 then 1000000000 else (hd s : Int) - (sn s : Int) - (st s : Int)
def FZ (g g' : am_G) : Prop := g'.2 = g.2 ∧ ∀ a j, ¬ (a = 0 ∧ (j = 47 ∨ j = 48)) → a ≠ 25 → a ≠ 26 → am_I g' a j = am_I g a j
theorem FZ.rf (g : am_G) : FZ g g := ⟨rfl, fun _ _ _ _ _ => rfl⟩
theorem FZ.tr {g h i : am_G} (h1 : FZ g h) (h2 : FZ h i) : FZ g i := ⟨h2.1.trans h1.1, fun a j x y z => (h2.2 a j x y z).trans (h1.2 a j x y z)⟩
theorem FZ.T {g h : am_G} (h1 : FZ g h) : FrT g h := ⟨fun a k x => h1.2 a k (fun z => x (by unfold scR sc0; omega)) (fun z => x (by unfold scR; omega)) (fun z => x (by unfold scR; omega)), fun a _ _ _ _ => by rw [show am_L h = am_L g from congrArg (fun z => z.1) h1.1], congrArg (fun z => z.2) h1.1⟩
theorem FZ.s25 {g h : am_G} (h1 : FZ g h) (k : Nat) (x : Int32) : FZ g (am_si h 25 k x) := ⟨h1.1, fun a j y z w => by rw [pI_si_ne _ _ _ z]; exact h1.2 a j y z w⟩
def SyR (n : Nat) (g : am_G) (st : StS) : Prop := am_I g 0 47 = nI st.1 ∧ am_I g 0 48 = nI st.2.1 ∧ (st.1 = 100000000 ∨ ∀ j, j < n → am_I g 26 j = nI (st.2.2 j)) ∧ st.1 ≤ 100000000
section SYR
variable {nW n : Nat} {L : Nat → Nat} {mg sy : Nat → Int32} {op : Nat → Bool} {sh : Nat → Nat → Nat} {sn st hd : Nat → Nat}
theorem RDs.fz {g g' : am_G} (h : RDs nW n L mg sy op sh sn st hd g) (f : FZ g g') : RDs nW n L mg sy op sh sn st hd g' := by
  have e : ∀ a j, a ≠ 0 → a ≠ 25 → a ≠ 26 → am_I g' a j = am_I g a j := fun a j h1 h2 h3 => f.2 a j (by omega) h2 h3
  obtain ⟨h1, h2, h3, h4, h5⟩ := h
  refine ⟨by rw [e 2 _ (by decide) (by decide) (by decide)]; exact h1, by rw [e 2 _ (by decide) (by decide) (by decide)]; exact h2, fun k hk => by rw [e 2 _ (by decide) (by decide) (by decide)]; exact h3 k hk, fun w hw => ?_, fun s hs => ?_⟩
  · obtain ⟨a1, a2, a3, a4⟩ := h4 w hw
    exact ⟨by rw [e 2 _ (by decide) (by decide) (by decide)]; exact a1, by rw [e 2 _ (by decide) (by decide) (by decide)]; exact a2, by rw [e 24 _ (by decide) (by decide) (by decide)]; exact a3, fun s hs => by rw [e 23 _ (by decide) (by decide) (by decide)]; exact a4 s hs⟩
  · rw [e 2 _ (by decide) (by decide) (by decide), e 2 _ (by decide) (by decide) (by decide), e 2 _ (by decide) (by decide) (by decide)]
    exact h5 s hs
theorem wgL4 {K : Int32 → am_G → Option (Unit × am_G)} {c : Nat → Nat} {g : am_G} (hn : n ≤ 5) (hW : nW ≤ 16) (hD : RDs nW n L mg sy op sh sn st hd g) (h25 : ∀ j, j < n → am_I g 25 j = nI (c j)) (hc : ∀ j, j < n → c j < nW) : ∀ (d j m : Nat), j + d = n → d < m → fX12_weighSaying_L4 K (nI n) m (nI (smW j (fun i => L (c i)))) (nI j) g = K (nI (lenS L n c)) g
  | 0, j, m, hd', hm => by
    obtain ⟨m, rfl⟩ : ∃ m', m = m' + 1 := ⟨m - 1, by omega⟩
    obtain rfl : j = n := by omega
    rw [fX12_weighSaying_L4, if_pos Int32.le_rfl]
    rfl
  | d + 1, j, m, hd', hm => by
    obtain ⟨m, rfl⟩ : ∃ m', m = m' + 1 := ⟨m - 1, by omega⟩
    have hcj := hc j (by omega)
    have ih := wgL4 (K := K) hn hW hD h25 hc d (j + 1) m (by omega) (by omega)
    rw [smW] at ih
    rw [fX12_weighSaying_L4, if_neg (fun z => absurd ((nI_leI (by omega) (by omega)).mp z) (by omega)), pe_gd (show j < 5 by omega) (by decide), pe_clamp (show j < 2147483648 by omega), h25 j (by omega), show (0 : Int32) = nI 0 from rfl, q12_ofWord (show c j < 16 by omega) (by decide), pu_bd, (hD.2.2.2.1 (c j) hcj).1, pu_let, pu_let, nI_add, show nI j + (1 : Int32) = nI (j + 1) from nI_add j 1]
    exact ih
theorem wgL69 {K : Int32 → am_G → Option (Unit × am_G)} {c : Nat → Nat} {g : am_G} {x13 : Int32} {s X : Nat} (hn : n ≤ 5) (hW : nW ≤ 16) (hs : s < 6) (hD : RDs nW n L mg sy op sh sn st hd g) (h25 : ∀ j, j < n → am_I g 25 j = nI (c j)) (hc : ∀ j, j < n → c j < nW) : ∀ (d j m : Nat), j + d = n → d < m → fX12_weighSaying_L69 K (nI n) x13 (nI s) m (nI (X + smW j (fun i => sh (c i) s))) (nI j) g = K (nI (X + smW n (fun i => sh (c i) s))) g
  | 0, j, m, hd', hm => by
    obtain ⟨m, rfl⟩ : ∃ m', m = m' + 1 := ⟨m - 1, by omega⟩
    obtain rfl : j = n := by omega
    rw [fX12_weighSaying_L69, if_pos Int32.le_rfl]
  | d + 1, j, m, hd', hm => by
    obtain ⟨m, rfl⟩ : ∃ m', m = m' + 1 := ⟨m - 1, by omega⟩
    have hcj := hc j (by omega)
    have ih := wgL69 (K := K) (x13 := x13) (X := X) hn hW hs hD h25 hc d (j + 1) m (by omega) (by omega)
    rw [smW, ← Nat.add_assoc] at ih
    have e6 : (6 : Int32) * nI (c j) + nI s = nI (6 * c j + s) := by rw [show (6 : Int32) = nI 6 from rfl, nn_mul, nI_add]
    rw [fX12_weighSaying_L69, if_neg (fun z => absurd ((nI_leI (by omega) (by omega)).mp z) (by omega)), pe_gd (show j < 5 by omega) (by decide), pe_clamp (show j < 2147483648 by omega), h25 j (by omega), e6, pe_gd (show 6 * c j + s < 96 by omega) (by decide), pe_clamp (show 6 * c j + s < 2147483648 by omega), (hD.2.2.2.1 (c j) hcj).2.2.2 s hs, pu_let, pu_let, nI_add, show nI j + (1 : Int32) = nI (j + 1) from nI_add j 1]
    exact ih
theorem wgL40 {K : am_G → Option (Unit × am_G)} {c : Nat → Nat} {g : am_G} {x13 : Int32} (hn : n ≤ 5) (hn0 : 0 < n) (hW : nW ≤ 16) (hsh : ∀ w, w < nW → ∀ s, s < 6 → sh w s ≤ 999) (hbd : ∀ s, s < 6 → sn s ≤ 9999 ∧ st s ≤ 900000000 ∧ hd s ≤ 9999) (hD : RDs nW n L mg sy op sh sn st hd g) (h25 : ∀ j, j < n → am_I g 25 j = nI (c j)) (hc : ∀ j, j < n → c j < nW) : ∀ (d s m : Nat), s + d = 6 → d < m → (∀ t, t < s → ((smW n (fun j => sh (c j) t) : Nat) : Int) ≤ rmB sn st hd t) → (okK sh (rmB sn st hd) n c → fX12_weighSaying_L40 K (nI n) x13 m (nI s) g = K g) ∧ (¬ okK sh (rmB sn st hd) n c → fX12_weighSaying_L40 K (nI n) x13 m (nI s) g = some ((), g))
  | 0, s, m, hd', hm, hs => by
    obtain ⟨m, rfl⟩ : ∃ m', m = m' + 1 := ⟨m - 1, by omega⟩
    obtain rfl : s = 6 := by omega
    refine ⟨fun _ => ?_, fun z => absurd (fun t ht => hs t ht) z⟩
    rw [fX12_weighSaying_L40, if_pos (show (6 : Int32) ≤ nI 6 by decide)]
  | d + 1, s, m, hd', hm, hs => by
    obtain ⟨m, rfl⟩ : ∃ m', m = m' + 1 := ⟨m - 1, by omega⟩
    have hs6 : s < 6 := by omega
    have hfu : am_fu = 1048576 := rfl
    obtain ⟨d1, d2, d3⟩ := hD.2.2.2.2 s hs6
    obtain ⟨u1, u2, u3⟩ := hbd s hs6
    have hle : smW n (fun j => sh (c j) s) ≤ n * 999 := smW_le fun j hj => hsh (c j) (hc j hj) s hs6
    have e69 := fun K' => wgL69 (K := K') (x13 := x13) (s := s) (X := sn s + st s) hn hW hs6 hD h25 hc n 0 am_fu (by omega) (by omega)
    rw [smW, Nat.add_zero] at e69
    have st1 : fX12_weighSaying_L40 K (nI n) x13 (m + 1) (nI s) g = if ((smW n (fun j => sh (c j) s) : Nat) : Int) ≤ rmB sn st hd s then fX12_weighSaying_L40 K (nI n) x13 m (nI (s + 1)) g else some ((), g) := by
      rw [fX12_weighSaying_L40, if_neg (show ¬ (6 : Int32) ≤ nI s from fun z => absurd ((nI_leI (a := 6) (by decide) (by omega)).mp z) (by omega)), if_neg (show ¬ nI n ≤ (0 : Int32) from fun z => absurd ((nI_leI (b := 0) (by omega) (by decide)).mp z) (by omega)), show (0 : Int32) = nI 0 from rfl, s12_ofSlope hs6 (by decide), pu_bd, show (8 : Int32) = nI 8 from rfl, s12_ofSlope hs6 (by decide), pu_bd, d1, d2, nI_add, pu_let, e69, s12_ofSlope hs6 (by decide), pu_bd, d1, pu_jn]
      dsimp only
      have e1 : nI s + (1 : Int32) = nI (s + 1) := nI_add s 1
      unfold rmB
      by_cases h0 : sn s = 0
      · rw [if_pos (by rw [h0]; exact Int32.le_rfl), pu_let, e1, if_pos h0, if_pos (by omega)]
      · rw [if_neg (fun z => absurd ((nI_leI (b := 0) (by omega) (by decide)).mp z) (by omega)), show (1 : Int32) = nI 1 from rfl, s12_ofSlope hs6 (by decide), pu_bd, d3, if_neg h0]
        by_cases h1 : sn s + st s + smW n (fun j => sh (c j) s) ≤ hd s
        · rw [if_pos ((nI_leI (by omega) (by omega)).mpr h1), pu_let, nI_add, if_pos (by omega)]
        · rw [if_neg (fun z => h1 ((nI_leI (by omega) (by omega)).mp z)), if_neg (by omega)]
    by_cases h1 : ((smW n (fun j => sh (c j) s) : Nat) : Int) ≤ rmB sn st hd s
    · rw [st1, if_pos h1]
      exact wgL40 hn hn0 hW hsh hbd hD h25 hc d (s + 1) m (by omega) (by omega) (fun t ht => by
        by_cases e : t = s
        · subst e; exact h1
        · exact hs t (by omega))
    · rw [st1, if_neg h1]
      exact ⟨fun z => absurd (z s hs6) h1, fun _ => rfl⟩
theorem wgL154 {x l : Nat} (hn : n ≤ 5) (hx : x < l) (hl : l ≤ 100000000) : ∀ (d j m : Nat) (g : am_G), j + d = n → d < m → am_I g 0 47 = nI l → ∃ g', fX12_weighSaying_L154 (nI n) (nI x) m (nI j) g = some ((), g') ∧ am_I g' 0 47 = nI x ∧ (∀ i, j ≤ i → i < n → am_I g' 26 i = am_I g 25 i) ∧ (∀ i, i < j → am_I g' 26 i = am_I g 26 i) ∧ g'.2 = g.2 ∧ ∀ a i, ¬ (a = 0 ∧ i = 47) → a ≠ 26 → am_I g' a i = am_I g a i
  | 0, j, m, g, hd', hm, h47 => by
    obtain ⟨m, rfl⟩ : ∃ m', m = m' + 1 := ⟨m - 1, by omega⟩
    obtain rfl : j = n := by omega
    refine ⟨am_si g 0 47 (nI x), ?_, pe_ieq _ _ _ _, fun i h1 h2 => absurd h1 (by omega), fun i _ => pe_ine (by decide), rfl, fun a i h1 _ => by rw [pI_si, if_neg h1]⟩
    rw [fX12_weighSaying_L154, if_pos Int32.le_rfl, pu_let]
  | d + 1, j, m, g, hd', hm, h47 => by
    obtain ⟨m, rfl⟩ : ∃ m', m = m' + 1 := ⟨m - 1, by omega⟩
    obtain ⟨g', e1, e2, e3, e4, e5, e6⟩ := wgL154 hn hx hl d (j + 1) m (am_si g 26 j (am_I g 25 j)) (by omega) (by omega) (by rw [pe_ine (by decide)]; exact h47)
    refine ⟨g', ?_, e2, fun i h1 h2 => ?_, fun i h1 => ?_, e5, fun a i h1 h2 => ?_⟩
    · rw [fX12_weighSaying_L154, if_neg (fun z => absurd ((nI_leI (by omega) (by omega)).mp z) (by omega)), h47, if_neg (fun z => absurd ((nI_leI (by omega) (by omega)).mp z) (by omega)), pe_gd (show j < 5 by omega) (by decide), pe_gd (show j < 5 by omega) (by decide), pu_let, pu_let, pe_clamp (show j < 2147483648 by omega), show nI j + (1 : Int32) = nI (j + 1) from nI_add j 1]
      exact e1
    · by_cases e : i = j
      · subst e; rw [e4 i (by omega), pe_ieq]
      · rw [e3 i (by omega) h2, pe_ine (by decide)]
    · rw [e4 i (by omega), pe_ik (by omega)]
    · rw [e6 a i h1 h2, pe_ine h2]
theorem wghR {c : Nat → Nat} {g : am_G} {S : StS} (hn : n ≤ 5) (hW : nW ≤ 16) (hL : ∀ w, w < nW → L w ≤ 9) (hsh : ∀ w, w < nW → ∀ s, s < 6 → sh w s ≤ 999) (hbd : ∀ s, s < 6 → sn s ≤ 9999 ∧ st s ≤ 900000000 ∧ hd s ≤ 9999) (hD : RDs nW n L mg sy op sh sn st hd g) (h25 : ∀ j, j < n → am_I g 25 j = nI (c j)) (hc : ∀ j, j < n → c j < nW) (hS : SyR n g S) : ∃ g', fX12_weighSaying (nI n) g = some ((), g') ∧ SyR n g' (wgh (fitS sh (rmB sn st hd) n) (lenS L n) (fun _ => 1) S c) ∧ FZ g g' ∧ am_I g' 25 = am_I g 25 := by
  have hfu : am_fu = 1048576 := rfl
  obtain ⟨s1, s2, s3, s4⟩ := hS
  have hl : lenS L n c ≤ 45 := by
    have := smW_le (f := fun j => L (c j)) (M := 9) (k := n) fun j hj => hL _ (hc j hj)
    show smW n (fun j => L (c j)) ≤ 45
    omega
  have e4 := fun K => wgL4 (K := K) hn hW hD h25 hc n 0 am_fu (by omega) (by omega)
  rw [smW] at e4
  unfold fX12_weighSaying
  rw [show (0 : Int32) = nI 0 from rfl, e4, s1]
  by_cases h1 : lenS L n c ≤ S.1
  · rw [if_pos ((nI_leI (by omega) (by omega)).mpr h1)]
    -- what is done with a row that fits
    have fin : fitS sh (rmB sn st hd) n c = true → ∃ g', (am_jn (fun (x53 : Int32) (g54 : am_G) =>
          am_let (am_si g54 0 48 x53) fun g56 =>
          fX12_weighSaying_L154 (nI n) (nI (lenS L n c)) am_fu (nI 0) g56) fun j55 =>
        if (am_I g 0 47) ≤ nI (lenS L n c) then (
          j55 ((am_I g 0 48) + (1 : Int32)) g)
        else (
          j55 (1 : Int32) g)) = some ((), g') ∧ SyR n g' (wgh (fitS sh (rmB sn st hd) n) (lenS L n) (fun _ => 1) S c) ∧ FZ g g' ∧ am_I g' 25 = am_I g 25 := by
      intro hf
      rw [pu_jn]
      dsimp only
      rw [s1]
      by_cases h2 : lenS L n c < S.1
      · have e : wgh (fitS sh (rmB sn st hd) n) (lenS L n) (fun _ => 1) S c = (lenS L n c, 1, c) := by unfold wgh; rw [if_pos ⟨hf, h1⟩, if_pos h2]
        obtain ⟨g', a1, a2, a3, a4, a5, a6⟩ := wgL154 (n := n) hn h2 s4 n 0 am_fu (am_si g 0 48 (nI 1)) (by omega) (by omega) (by rw [pe_ik (by decide)]; exact s1)
        rw [if_neg (fun z => absurd ((nI_leI (by omega) (by omega)).mp z) (by omega)), pu_let]
        refine ⟨g', a1, ?_, ⟨a5, fun a j h3 h4 h5 => by rw [a6 a j (by omega) h5, pI_si, if_neg (by omega)]⟩, funext fun j => by rw [a6 25 j (by omega) (by decide), pe_ine (by decide)]⟩
        rw [e]
        refine ⟨a2, by rw [a6 0 48 (by omega) (by decide), pe_ieq], Or.inr fun j hj => ?_, by show lenS L n c ≤ 100000000; omega⟩
        rw [a3 j (by omega) hj, pe_ine (by decide)]
        exact h25 j hj
      · have ev : lenS L n c = S.1 := by omega
        have e : wgh (fitS sh (rmB sn st hd) n) (lenS L n) (fun _ => 1) S c = (S.1, S.2.1 + 1, S.2.2) := by unfold wgh; rw [if_pos ⟨hf, h1⟩, if_neg h2]
        have h48 : am_I g 0 48 + (1 : Int32) = nI (S.2.1 + 1) := by rw [s2]; exact nI_add _ 1
        have e47 : am_si (am_si g 0 48 (nI (S.2.1 + 1))) 0 47 (nI S.1) = am_si g 0 48 (nI (S.2.1 + 1)) := si_self (by rw [pe_ik (by decide)]; exact s1)
        rw [ev, if_pos Int32.le_rfl, h48, pu_let]
        refine ⟨am_si g 0 48 (nI (S.2.1 + 1)), ?_, ?_, ⟨rfl, fun a j h3 _ _ => by rw [pI_si, if_neg (by omega)]⟩, pI_si_ne _ _ _ (by decide)⟩
        · obtain ⟨f, ef⟩ : ∃ f, am_fu = f + 1 := ⟨1048575, rfl⟩
          rw [ef, fX12_weighSaying_L154]
          by_cases h0 : nI n ≤ nI 0
          · rw [if_pos h0, pu_let, e47]
          · rw [if_neg h0, pe_ik (show (47 : Nat) ≠ 48 by decide), s1, if_pos Int32.le_rfl, pu_let, e47]
        · rw [e]
          refine ⟨by rw [pe_ik (by decide)]; exact s1, pe_ieq _ _ _ _, ?_, s4⟩
          rcases s3 with z | z
          · exact Or.inl z
          · exact Or.inr fun j hj => by rw [pe_ine (by decide)]; exact z j hj
    by_cases hn0 : n = 0
    · subst hn0
      obtain ⟨f, ef⟩ : ∃ f, am_fu = f + 1 := ⟨1048575, rfl⟩
      rw [ef, fX12_weighSaying_L40, if_neg (show ¬ (6 : Int32) ≤ nI 0 by decide), if_pos (show nI 0 ≤ (0 : Int32) from Int32.le_rfl), ← ef]
      exact fin (decide_eq_true (Or.inl rfl))
    · have e40 := wgL40 (K := fun (g51 : am_G) =>
        am_jn (fun (x53 : Int32) (g54 : am_G) =>
          am_let (am_si g54 0 48 x53) fun g56 =>
          fX12_weighSaying_L154 (nI n) (nI (lenS L n c)) am_fu (nI 0) g56) fun j55 =>
        if (am_I g51 0 47) ≤ nI (lenS L n c) then (
          j55 ((am_I g51 0 48) + (1 : Int32)) g51)
        else (
          j55 (1 : Int32) g51)) (x13 := nI (lenS L n c)) hn (by omega) hW hsh hbd hD h25 hc 6 0 am_fu (by decide) (by omega) (fun t ht => absurd ht (by omega))
      by_cases hok : okK sh (rmB sn st hd) n c
      · rw [e40.1 hok]
        exact fin (decide_eq_true (Or.inr hok))
      · rw [e40.2 hok]
        have e : wgh (fitS sh (rmB sn st hd) n) (lenS L n) (fun _ => 1) S c = S := by
          unfold wgh
          rw [if_neg]
          rintro ⟨z, -⟩
          rcases of_decide_eq_true z with y | y
          · exact hn0 y
          · exact hok y
        rw [e]
        exact ⟨g, rfl, ⟨s1, s2, s3, s4⟩, FZ.rf g, rfl⟩
  · rw [if_neg (fun z => h1 ((nI_leI (by omega) (by omega)).mp z))]
    have e : wgh (fitS sh (rmB sn st hd) n) (lenS L n) (fun _ => 1) S c = S := by
      unfold wgh
      rw [if_neg (fun z => h1 z.2)]
    rw [e]
    exact ⟨g, rfl, ⟨s1, s2, s3, s4⟩, FZ.rf g, rfl⟩
end SYR
