def om : List ((Nat × Nat) × (Nat × Nat)) := [((2, 0), (12, 4)), ((2, 1), (1, 14)), ((2, 2), (1, 15)), ((2, 3), (1, 16)), ((2, 4), (1, 17)), ((2, 5), (1, 18)), ((2, 6), (2, 5)), ((2, 7), (1, 19)), ((2, 8), (2, 6)), ((2, 9), (2, 7)), ((2, 10), (3, 0)), ((2, 11), (8, 0)), ((2, 12), (9, 0)), ((2, 13), (10, 0)), ((2, 14), (11, 0)), ((2, 15), (11, 1)), ((2, 16), (11, 2)), ((2, 17), (11, 3)), ((2, 18), (4, 0)), ((2, 19), (7, 0)), ((2, 20), (3, 1)), ((2, 21), (8, 1)), ((2, 22), (9, 1)), ((2, 23), (10, 1)), ((2, 24), (11, 4)), ((2, 25), (11, 5)), ((2, 26), (11, 6)), ((2, 27), (11, 7)), ((2, 28), (4, 1)), ((2, 29), (7, 1)), ((2, 30), (3, 2)), ((2, 31), (8, 2)), ((2, 32), (9, 2)), ((2, 33), (10, 2)), ((2, 34), (11, 8)), ((2, 35), (11, 9)), ((2, 36), (11, 10)), ((2, 37), (11, 11)), ((2, 38), (4, 2)), ((2, 39), (7, 2)), ((2, 40), (3, 3)), ((2, 41), (8, 3)), ((2, 42), (9, 3)), ((2, 43), (10, 3)), ((2, 44), (11, 12)), ((2, 45), (11, 13)), ((2, 46), (11, 14)), ((2, 47), (11, 15)), ((2, 48), (4, 3)), ((2, 49), (7, 3)), ((2, 50), (3, 4)), ((2, 51), (8, 4)), ((2, 52), (9, 4)), ((2, 53), (10, 4)), ((2, 54), (11, 16)), ((2, 55), (11, 17)), ((2, 56), (11, 18)), ((2, 57), (11, 19)), ((2, 58), (4, 4)), ((2, 59), (7, 4)), ((2, 60), (3, 5)), ((2, 61), (8, 5)), ((2, 62), (9, 5)), ((2, 63), (10, 5)), ((2, 64), (11, 20)), ((2, 65), (11, 21)), ((2, 66), (11, 22)), ((2, 67), (11, 23)), ((2, 68), (4, 5)), ((2, 69), (7, 5)), ((2, 70), (5, 0)), ((2, 71), (5, 1)), ((2, 72), (5, 2)), ((2, 73), (5, 3)), ((2, 74), (5, 4)), ((2, 75), (5, 5)), ((2, 76), (5, 6)), ((2, 77), (5, 7)), ((2, 78), (5, 8)), ((2, 79), (5, 9)), ((2, 80), (5, 10)), ((2, 81), (5, 11)), ((2, 82), (5, 12)), ((2, 83), (5, 13)), ((2, 84), (5, 14)), ((2, 85), (5, 15)), ((2, 86), (5, 16)), ((2, 87), (5, 17)), ((2, 88), (5, 18)), ((2, 89), (5, 19)), ((2, 90), (5, 20)), ((2, 91), (5, 21)), ((2, 92), (5, 22)), ((2, 93), (5, 23)), ((2, 94), (5, 24)), ((2, 95), (5, 25)), ((2, 96), (5, 26)), ((2, 97), (5, 27)), ((2, 98), (5, 28)), ((2, 99), (5, 29)), ((2, 100), (5, 30)), ((2, 101), (5, 31)), ((2, 102), (5, 32)), ((2, 103), (5, 33)), ((2, 104), (5, 34)), ((2, 105), (5, 35)), ((2, 106), (6, 0)), ((2, 107), (6, 1)), ((2, 108), (6, 2)), ((2, 109), (6, 3)), ((2, 110), (6, 4)), ((2, 111), (6, 5)), ((2, 112), (6, 6)), ((2, 113), (6, 7)), ((2, 114), (6, 8)), ((2, 115), (6, 9)), ((2, 116), (6, 10)), ((2, 117), (6, 11)), ((2, 118), (6, 12)), ((2, 119), (6, 13)), ((2, 120), (6, 14)), ((2, 121), (6, 15)), ((2, 122), (6, 16)), ((2, 123), (6, 17)), ((2, 124), (6, 18)), ((2, 125), (6, 19)), ((2, 126), (6, 20)), ((2, 127), (6, 21)), ((2, 128), (6, 22)), ((2, 129), (6, 23)), ((2, 130), (6, 24)), ((2, 131), (6, 25)), ((2, 132), (6, 26)), ((2, 133), (6, 27)), ((2, 134), (6, 28)), ((2, 135), (6, 29)), ((2, 136), (6, 30)), ((2, 137), (6, 31)), ((2, 138), (6, 32)), ((2, 139), (6, 33)), ((2, 140), (6, 34)), ((2, 141), (6, 35)), ((2, 142), (13, 0)), ((2, 143), (14, 0)), ((2, 144), (15, 0)), ((2, 145), (16, 0)), ((2, 146), (13, 1)), ((2, 147), (14, 1)), ((2, 148), (15, 1)), ((2, 149), (16, 1)), ((2, 150), (13, 2)), ((2, 151), (14, 2)), ((2, 152), (15, 2)), ((2, 153), (16, 2)), ((2, 154), (13, 3)), ((2, 155), (14, 3)), ((2, 156), (15, 3)), ((2, 157), (16, 3)), ((2, 158), (13, 4)), ((2, 159), (14, 4)), ((2, 160), (15, 4)), ((2, 161), (16, 4)), ((2, 162), (13, 5)), ((2, 163), (14, 5)), ((2, 164), (15, 5)), ((2, 165), (16, 5)), ((2, 166), (13, 6)), ((2, 167), (14, 6)), ((2, 168), (15, 6)), ((2, 169), (16, 6)), ((2, 170), (13, 7)), ((2, 171), (14, 7)), ((2, 172), (15, 7)), ((2, 173), (16, 7)), ((2, 174), (13, 8)), ((2, 175), (14, 8)), ((2, 176), (15, 8)), ((2, 177), (16, 8)), ((2, 178), (13, 9)), ((2, 179), (14, 9)), ((2, 180), (15, 9)), ((2, 181), (16, 9)), ((2, 182), (13, 10)), ((2, 183), (14, 10)), ((2, 184), (15, 10)), ((2, 185), (16, 10)), ((2, 186), (13, 11)), ((2, 187), (14, 11)), ((2, 188), (15, 11)), ((2, 189), (16, 11)), ((2, 190), (13, 12)), ((2, 191), (14, 12)), ((2, 192), (15, 12)), ((2, 193), (16, 12)), ((2, 194), (13, 13)), ((2, 195), (14, 13)), ((2, 196), (15, 13)), ((2, 197), (16, 13)), ((2, 198), (13, 14)), ((2, 199), (14, 14)), ((2, 200), (15, 14)), ((2, 201), (16, 14)), ((2, 202), (13, 15)), ((2, 203), (14, 15)), ((2, 204), (15, 15)), ((2, 205), (16, 15)), ((2, 206), (17, 0)), ((2, 207), (17, 1)), ((2, 208), (17, 2)), ((2, 209), (17, 3)), ((2, 210), (17, 4)), ((2, 211), (18, 0)), ((2, 212), (19, 0)), ((2, 213), (20, 0)), ((2, 214), (18, 1)), ((2, 215), (19, 1)), ((2, 216), (20, 1)), ((2, 217), (18, 2)), ((2, 218), (19, 2)), ((2, 219), (20, 2)), ((2, 220), (18, 3)), ((2, 221), (19, 3)), ((2, 222), (20, 3)), ((2, 223), (18, 4)), ((2, 224), (19, 4)), ((2, 225), (20, 4)), ((2, 226), (18, 5)), ((2, 227), (19, 5)), ((2, 228), (20, 5)), ((2, 229), (21, 0)), ((2, 230), (22, 0)), ((2, 231), (23, 0)), ((2, 232), (21, 1)), ((2, 233), (22, 1)), ((2, 234), (23, 1)), ((2, 235), (21, 2)), ((2, 236), (22, 2)), ((2, 237), (23, 2)), ((2, 238), (21, 3)), ((2, 239), (22, 3)), ((2, 240), (23, 3)), ((2, 241), (21, 4)), ((2, 242), (22, 4)), ((2, 243), (23, 4)), ((2, 244), (21, 5)), ((2, 245), (22, 5)), ((2, 246), (23, 5)), ((2, 247), (21, 6)), ((2, 248), (22, 6)), ((2, 249), (23, 6)), ((2, 250), (21, 7)), ((2, 251), (22, 7)), ((2, 252), (23, 7)), ((2, 253), (21, 8)), ((2, 254), (22, 8)), ((2, 255), (23, 8)), ((2, 256), (21, 9)), ((2, 257), (22, 9)), ((2, 258), (23, 9)), ((1, 0), (77, 0)), ((1, 1), (77, 1)), ((1, 2), (77, 2)), ((1, 3), (77, 3)), ((1, 4), (77, 4)), ((1, 5), (77, 5)), ((1, 6), (77, 6)), ((0, 1), (0, 16)), ((0, 11), (0, 14)), ((0, 59), (0, 15)), ((0, 18), (29, 5)), ((0, 13), (29, 4)), ((0, 63), (0, 13)), ((0, 8), (26, 3)), ((0, 20), (28, 100))]
def om_c (q : Nat × Nat) : Nat := q.1 * 10000 + q.2
theorem om_nd1 : (om.map fun q => om_c q.1).Nodup := by decide +kernel
theorem om_nd2 : (om.map fun q => om_c q.2).Nodup := by decide +kernel
theorem om_sm : ∀ q ∈ om, q.1.2 < 10000 ∧ q.2.2 < 10000 := by decide +kernel
theorem nd_inj {α : Type} {f : α → Nat} : ∀ {l : List α}, (l.map f).Nodup → ∀ {a b : α}, a ∈ l → b ∈ l → f a = f b → a = b
  | [], _, _, _, h, _, _ => absurd h List.not_mem_nil
  | x :: l, hn, a, b, ha, hb, e => by
    rw [List.map_cons, List.nodup_cons] at hn
    rcases List.mem_cons.mp ha with ea | ha'
    · rcases List.mem_cons.mp hb with eb | hb'
      · rw [ea, eb]
      · rw [ea] at e
        exact absurd (List.mem_map.mpr ⟨b, hb', e.symm⟩) hn.1
    · rcases List.mem_cons.mp hb with eb | hb'
      · rw [eb] at e
        exact absurd (List.mem_map.mpr ⟨a, ha', e⟩) hn.1
      · exact nd_inj hn.2 ha' hb' e
theorem om_i1 {q q' : (Nat × Nat) × (Nat × Nat)} (h : q ∈ om) (h' : q' ∈ om) (e : q'.1 = q.1) : q' = q := nd_inj om_nd1 h' h (by rw [e])
theorem om_i2 {q q' : (Nat × Nat) × (Nat × Nat)} (h : q ∈ om) (h' : q' ∈ om) (e : q'.2 = q.2) : q' = q := nd_inj om_nd2 h' h (by rw [e])
/-- all cells that answer to one another hold the same -/
def Rc (gc gr : am_G) : Prop := ∀ q ∈ om, am_I gc q.2.1 q.2.2 = am_I gr q.1.1 q.1.2
/-- the same number written on both sides -/
theorem Rc.w {gc gr : am_G} (h : Rc gc gr) {ra rk ca ck : Nat} (hq : ((ra, rk), (ca, ck)) ∈ om) (x : Int32) : Rc (am_si gc ca ck x) (am_si gr ra rk x) := by
  intro q hm
  rw [pI_si, pI_si]
  by_cases e : q = ((ra, rk), (ca, ck))
  · subst e
    rw [if_pos ⟨rfl, rfl⟩, if_pos ⟨rfl, rfl⟩]
  · rw [if_neg, if_neg]
    · exact h q hm
    · rintro ⟨e1, e2⟩
      exact e (om_i1 hq hm (Prod.ext e1 e2))
    · rintro ⟨e1, e2⟩
      exact e (om_i2 hq hm (Prod.ext e1 e2))
/-- a number written where nothing answers to it -/
theorem Rc.c {gc gr : am_G} (h : Rc gc gr) {ca ck : Nat} (hq : (om.all fun q => !(q.2.1 == ca && q.2.2 == ck)) = true) (x : Int32) : Rc (am_si gc ca ck x) gr := by
  intro q hm
  rw [pI_si, if_neg, h q hm]
  rintro ⟨e1, e2⟩
  have := List.all_eq_true.mp hq q hm
  rw [e1, e2] at this
  simp at this
theorem Rc.cr {gc gr : am_G} (h : Rc gc gr) {ca : Nat} (hq : (om.all fun q => !(q.2.1 == ca)) = true) (ck : Nat) (x : Int32) : Rc (am_si gc ca ck x) gr := by
  intro q hm
  rw [pI_si, if_neg, h q hm]
  rintro ⟨e1, e2⟩
  have := List.all_eq_true.mp hq q hm
  rw [e1] at this
  simp at this
theorem Rc.r {gc gr : am_G} (h : Rc gc gr) {ra rk : Nat} (hq : (om.all fun q => !(q.1.1 == ra && q.1.2 == rk)) = true) (x : Int32) : Rc gc (am_si gr ra rk x) := by
  intro q hm
  rw [pI_si, if_neg, h q hm]
  rintro ⟨e1, e2⟩
  have := List.all_eq_true.mp hq q hm
  rw [e1, e2] at this
  simp at this
theorem Rc.at {gc gr : am_G} (h : Rc gc gr) {ra rk ca ck : Nat} (hq : ((ra, rk), (ca, ck)) ∈ om) : am_I gc ca ck = am_I gr ra rk := h _ hq
/-! where things stand -/
def hillC (s w : Nat) : Nat × Nat := if w = 0 then (3, s) else if w = 1 then (8, s) else if w = 2 then (9, s) else if w = 3 then (10, s) else if w = 8 then (4, s) else if w = 9 then (7, s) else (11, 4 * s + w - 4)
theorem om_hill' : ∀ q, q < 60 → ((2, 10 + 10 * (q / 10) + q % 10), hillC (q / 10) (q % 10)) ∈ om := by decide +kernel
theorem om_hill : ∀ s, s < 6 → ∀ w, w < 10 → ((2, 10 + 10 * s + w), hillC s w) ∈ om := by
  intro s hs w hw
  have h := om_hill' (10 * s + w) (by omega)
  have e1 : (10 * s + w) / 10 = s := by omega
  have e2 : (10 * s + w) % 10 = w := by omega
  rw [e1, e2] at h
  exact h
theorem om_ref : ∀ k, k < 7 → ((1, k), (77, k)) ∈ om := by decide +kernel
theorem om_word' : ∀ q, q < 64 → ((2, 142 + 4 * (q / 4) + q % 4), (13 + (q % 4), (q / 4))) ∈ om := by decide +kernel
theorem om_word : ∀ s, s < 16 → ∀ w, w < 4 → ((2, 142 + 4 * s + w), (13 + w, s)) ∈ om := by
  intro s hs w hw
  have h := om_word' (4 * s + w) (by omega)
  have e1 : (4 * s + w) / 4 = s := by omega
  have e2 : (4 * s + w) % 4 = w := by omega
  rw [e1, e2] at h
  exact h
theorem om_say : ∀ k, k < 5 → ((2, 206 + k), (17, k)) ∈ om := by decide +kernel
theorem om_talk' : ∀ q, q < 18 → ((2, 211 + 3 * (q / 3) + q % 3), (18 + (q % 3), (q / 3))) ∈ om := by decide +kernel
theorem om_talk : ∀ s, s < 6 → ∀ w, w < 3 → ((2, 211 + 3 * s + w), (18 + w, s)) ∈ om := by
  intro s hs w hw
  have h := om_talk' (3 * s + w) (by omega)
  have e1 : (3 * s + w) / 3 = s := by omega
  have e2 : (3 * s + w) % 3 = w := by omega
  rw [e1, e2] at h
  exact h
theorem om_seen' : ∀ q, q < 30 → ((2, 229 + 3 * (q / 3) + q % 3), (21 + (q % 3), (q / 3))) ∈ om := by decide +kernel
theorem om_seen : ∀ s, s < 10 → ∀ w, w < 3 → ((2, 229 + 3 * s + w), (21 + w, s)) ∈ om := by
  intro s hs w hw
  have h := om_seen' (3 * s + w) (by omega)
  have e1 : (3 * s + w) / 3 = s := by omega
  have e2 : (3 * s + w) % 3 = w := by omega
  rw [e1, e2] at h
  exact h
theorem om_part : ∀ k, k < 36 → ((2, 70 + k), (5, k)) ∈ om := by decide +kernel
theorem om_late : ∀ k, k < 36 → ((2, 106 + k), (6, k)) ∈ om := by decide +kernel
/-! refused, accepted -/
def refC (k : Nat) (g : am_G) : am_G := am_si (am_si g 0 16 (-nI k)) 77 k (am_I g 77 k + 1)
def refR (k : Nat) (g : am_G) : am_G := am_si (am_si g 0 1 (-nI k)) 1 k (am_I g 1 k + 1)
def accC (g : am_G) : am_G := am_si g 0 16 0
def accR (g : am_G) : am_G := am_si g 0 1 0
theorem Rc.ref {gc gr : am_G} (h : Rc gc gr) {k : Nat} (hk : k < 7) : Rc (refC k gc) (refR k gr) := by
  unfold refC refR
  rw [h.at (om_ref k hk)]
  exact (h.w (by decide +kernel) _).w (om_ref k hk) _
theorem Rc.acc {gc gr : am_G} (h : Rc gc gr) : Rc (accC gc) (accR gr) := h.w (by decide +kernel) _
theorem nn_neg {k : Nat} : -(-nI k) = nI k := Int32.neg_neg
theorem s11_refused {k : Nat} (hk : k < 7) (g : am_G) : fX11_refused (-nI k) g = some (-nI k, refC k g) := by
  unfold fX11_refused refC
  rw [pu_let, nn_neg, pu_gd (nn_in hk (by decide)), pu_gd (nn_in hk (by decide)), pu_let, nI_clamp (by omega), pI_si_ne _ _ _ (by decide)]
theorem s11_accepted (v : Int32) (g : am_G) : fX11_accepted v g = some (v, accC g) := rfl
theorem s8_clear (g : am_G) : fX8_clear g = some ((), am_si g 26 3 0) := rfl
theorem s12_tellP {v : Int32} (h : 0 ≤ v) (g : am_G) : fX12_tell v g = some (v, accR g) := by
  unfold fX12_tell accR
  rw [pu_jn, if_pos h]
  show am_let _ _ = _
  rw [pu_let, if_pos h]
theorem nn_negneg {k : Nat} (h0 : 0 < k) (hk : k < 7) : ¬ (0 : Int32) ≤ -nI k := by
  rcases (show k = 1 ∨ k = 2 ∨ k = 3 ∨ k = 4 ∨ k = 5 ∨ k = 6 by omega) with rfl | rfl | rfl | rfl | rfl | rfl <;> decide
theorem s12_tellN {k : Nat} (h0 : 0 < k) (hk : k < 7) (g : am_G) : fX12_tell (-nI k) g = some (-nI k, refR k g) := by
  unfold fX12_tell refR
  rw [pu_jn, if_neg (nn_negneg h0 hk)]
  show am_let _ _ = _
  rw [pu_let, if_neg (nn_negneg h0 hk), nn_neg, pu_gd (nn_in hk (by decide)), pu_gd (nn_in hk (by decide)), pu_let, nI_clamp (by omega), pI_si_ne _ _ _ (by decide)]
theorem s12_change {j : Nat} (hj : j < 5660) (x : Int32) (g : am_G) : fX12_change (nI j) x g = some (am_I g 2 j, accR (am_si g 2 j x)) := by
  unfold fX12_change accR
  rw [pu_gd (nn_in hj (by decide)), pu_let, pu_gd (nn_in hj (by decide)), nI_clamp (by omega)]
  rfl
theorem s12_slopeAt (s w : Nat) (g : am_G) : fX12_slopeAt (nI s) (nI w) g = some (nI (10 + 10 * s + w), g) := by
  unfold fX12_slopeAt
  rw [show (10 : Int32) = nI 10 from rfl, nn_mul, nI_add, nI_add]
theorem s12_ofSlope {s w : Nat} (hs : s < 6) (hw : w < 10) (g : am_G) : fX12_ofSlope (nI s) (nI w) g = some (am_I g 2 (10 + 10 * s + w), g) := by
  unfold fX12_ofSlope
  rw [s12_slopeAt, pu_bd, pu_gd (nn_in (by omega) (by decide)), nI_clamp (by omega)]
theorem s11_ofSlope {s w : Nat} (hs : s < 6) (hw : w < 10) (g : am_G) : fX11_ofSlope (nI s) (nI w) g = some (am_I g (hillC s w).1 (hillC s w).2, g) := by
  have hi : am_in (nI s) 6 = true := nn_in hs (by decide)
  have hc : (nI s).toNatClampNeg = s := nI_clamp (by omega)
  unfold fX11_ofSlope
  rw [pu_gd hi, pu_gd hi, pu_gd hi, pu_gd hi, pu_gd hi, pu_gd hi, hc]
  rcases (show w = 0 ∨ w = 1 ∨ w = 2 ∨ w = 3 ∨ w = 8 ∨ w = 9 ∨ (4 ≤ w ∧ w < 8) by omega) with rfl | rfl | rfl | rfl | rfl | rfl | hw4
  · rfl
  · rfl
  · rfl
  · rfl
  · rfl
  · rfl
  · have e : nI s * (4 : Int32) + nI w - (4 : Int32) = nI (4 * s + w - 4) := by
      rw [show (4 : Int32) = nI 4 from rfl, nn_mul, nI_add, nn_sub (by omega)]
      congr 1
      omega
    have hne : ∀ c : Nat, c < 2 ^ 31 → w ≠ c → ¬ nI w = nI c := fun c hc h z => h ((nn_eq (by omega) hc).mp z)
    have n0 : ¬ nI w = (0 : Int32) := hne 0 (by decide) (by omega)
    have n1 : ¬ nI w = (1 : Int32) := hne 1 (by decide) (by omega)
    have n2 : ¬ nI w = (2 : Int32) := hne 2 (by decide) (by omega)
    have n3 : ¬ nI w = (3 : Int32) := hne 3 (by decide) (by omega)
    have n8 : ¬ nI w = (8 : Int32) := hne 8 (by decide) (by omega)
    have n9 : ¬ nI w = (9 : Int32) := hne 9 (by decide) (by omega)
    rw [e, pu_gd (nn_in (by omega) (by decide)), nI_clamp (by omega), if_neg n0, if_neg n1, if_neg n2, if_neg n3, if_neg n8, if_neg n9]
    unfold hillC
    rw [if_neg (by omega), if_neg (by omega), if_neg (by omega), if_neg (by omega), if_neg (by omega), if_neg (by omega)]
