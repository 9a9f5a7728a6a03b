/-! PURE PART: the class: spread, search, carryToArrival, moreBy, mostBy. -/
section CLS2
variable {N : Mm} {G : Lay} {B : Nat → Nat} {en : Nat} {f : Nat → Nat}
theorem pc_part3 (hN : NC N G B) (hB : NB G B) {k j : Nat} (hk : k < G 1 0) (hj : j < 3) : F_X1_partOf N (nI k) (nI j) = some (nI (G (4 + j) k)) := by
  have := hB.2.2.1
  rw [pc_partOf N (by omega) (by omega), hN.2.2.1 k hk j hj]
theorem pc_back_e {e : Nat} (he : e < 262) : F_X3_back (nI (2 * e)) = some (nI (2 * e + 1)) := by unfold F_X3_back; rw [xo_e he]
theorem pc_back_o {e : Nat} (he : e < 262) : F_X3_back (nI (2 * e + 1)) = some (nI (2 * e)) := by unfold F_X3_back; rw [xo_o he]
theorem pc_spread_172 (hN : NC N G B) (hB : NB G B) (hen : en ≤ 15) (hf : ∀ e, e < 262 → f e ≤ cx G B en e) {u : Nat} (hu : 16 ≤ u) (hu9 : u < 96) (hue : u % 16 ≤ en) (hun : u / 16 < G 0 0) {S : Mm} {q : Nat} {T : Lay} (h : SS G B en f S q T) (hF : LF (S 0) G B f) (hr : RE q T u) : ∃ S' q' T', F_X3_spread_172 S N (nI u) (nI (u % 16)) = some S' ∧ SS G B en f S' q' T' ∧ S' 0 = S 0 ∧ EX q T q' T' ∧ ∀ w v, sp G B en f u w v → 160 ≤ w / 2 → w / 2 < 256 → w % 2 = 1 → RE q' T' v := by
  unfold F_X3_spread_172
  by_cases c : u % 16 = 0
  · rw [if_pos (by rw [c]; decide)]
    refine ⟨S, q, T, rfl, h, rfl, EX.refl q T, fun w v hs h1 h2 h3 => ?_⟩
    rcases sp_wait hen hf hs h1 h2 with ⟨k1, -⟩ | ⟨-, -, k2, -⟩ <;> omega
  · obtain ⟨u', rfl⟩ : ∃ u', u = u' + 1 := ⟨u - 1, by omega⟩
    have e1 : (u' + 1) % 16 = u' % 16 + 1 := by omega
    rw [e1, nI_pred, if_neg (nI_pos (by omega)), nI_pred, pc_waiting, b1_some, pc_back_e (by omega), b1_some]
    have hl : live G (160 + u') := Or.inr (Or.inl ⟨by omega, by omega, by omega⟩)
    have hb := hN.1
    obtain ⟨S', q', T', h1, h2, h3, h4, h5⟩ := pc_tryWay (N := N) (x := u' + 1) (v := u') (w := 2 * (160 + u') + 1) (ρ := f (160 + u')) (x1 := nI (u' + 1)) h (by omega) (by omega) (by omega) hr (by rw [if_neg (by omega)]) (by rw [show (2 * (160 + u') + 1) / 2 = 160 + u' by omega]; exact hl) (hF _ hl).2 (by
      have := hf (160 + u') (by omega)
      have := cx_le (G := G) (B := B) (en := en) (e := 160 + u')
      have := hB.2.2.2.2.1 (160 + u')
      omega) (fun z => sp_mkwb (by omega) (by omega) z)
    rw [h1, b1_some]
    refine ⟨S', q', T', rfl, h2, h3, h4, fun w v hs k1 k2 k3 => ?_⟩
    rcases sp_wait hen hf hs k1 k2 with ⟨j1, -⟩ | ⟨-, j1, -, j2, j3⟩
    · omega
    · have e2 : v = u' := by omega
      have e3 : w / 2 = 160 + u' := by omega
      rw [e3] at j3
      rw [e2]
      exact h5 j3
theorem pc_spread_14 (hN : NC N G B) (hB : NB G B) (hen : en ≤ 15) (hf : ∀ e, e < 262 → f e ≤ cx G B en e) {u : Nat} (hu : 16 ≤ u) (hu9 : u < 96) (hue : u % 16 ≤ en) (hun : u / 16 < G 0 0) : ∀ (r n k : Nat) (S : Mm) (q : Nat) (T : Lay), k + r = G 1 0 → r < n → SS G B en f S q T → LF (S 0) G B f → RE q T u → ∃ S' q' T', F_X3_spread_14 n S N (nI u) (nI en) (nI (u / 16)) (nI (u % 16)) (nI k) = some S' ∧ SS G B en f S' q' T' ∧ S' 0 = S 0 ∧ EX q T q' T' ∧ ∀ w v, sp G B en f u w v → k ≤ w / 2 / 16 → RE q' T' v
  | r, 0, k, S, q, T, _, h, _, _, _ => by omega
  | 0, n + 1, k, S, q, T, hk, h, hS, hF, hr => by
    have hm := hB.2.2.1
    have ek : k = G 1 0 := by omega
    show ∃ S' q' T', F_X3_spreadB_14 (F_X3_spread_14 n) S N (nI u) (nI en) (nI (u / 16)) (nI (u % 16)) (nI k) = some S' ∧ _
    unfold F_X3_spreadB_14
    rw [hN.2.1, ek, if_pos (nI_le (Nat.le_refl _) (by omega)), ← nI_succ, ← nI_succ]
    by_cases c : en < u % 16 + 1
    · rw [if_pos (nI_lt c (by omega))]
      obtain ⟨S', q', T', h1, h2, h3, h4, h5⟩ := pc_spread_172 hN hB hen hf hu hu9 hue hun hS hF hr
      refine ⟨S', q', T', h1, h2, h3, h4, fun w v hs hw => ?_⟩
      by_cases w1 : w / 2 < 160
      · have := (sp_pipe hB hen hf hs w1).1; omega
      by_cases w2 : w / 2 < 256
      · rcases sp_wait hen hf hs (by omega) w2 with ⟨k1, k2, k3, k4, -⟩ | ⟨k1, -⟩
        · omega
        · exact h5 w v hs (by omega) w2 k1
      · exact Or.inl (sp_out hs (by omega) (by omega))
    · rw [if_neg (nI_nlt (by omega) (by omega)), pc_waiting, b1_some]
      have hl : live G (160 + u) := Or.inr (Or.inl ⟨by omega, by omega, by omega⟩)
      have hb := hB.2.2.2.2.1 (160 + u)
      obtain ⟨S1, q1, T1, a1, a2, a3, a4, a5⟩ := pc_tryWay (N := N) (x := u) (v := u + 1) (w := 2 * (160 + u)) (ρ := B (160 + u) - f (160 + u)) (x1 := nI u) hS (by omega) (by omega) (by omega) hr (by rw [if_neg (by omega)]) (by rw [show 2 * (160 + u) / 2 = 160 + u by omega]; exact hl) (hF _ hl).1 (by omega) (fun z => sp_mkw hu9 (by omega) hen hun (by omega))
      rw [a1, b1_some]
      obtain ⟨S', q', T', h1, h2, h3, h4, h5⟩ := pc_spread_172 hN hB hen hf hu hu9 hue hun a2 (by rw [a3]; exact hF) (a4.re hr)
      refine ⟨S', q', T', h1, h2, by rw [h3, a3], a4.trans h4, fun w v hs hw => ?_⟩
      by_cases w1 : w / 2 < 160
      · have := (sp_pipe hB hen hf hs w1).1; omega
      by_cases w2 : w / 2 < 256
      · rcases sp_wait hen hf hs (by omega) w2 with ⟨k1, k2, k3, k4, k5, k6⟩ | ⟨k1, -⟩
        · rw [k3]
          rw [k2] at k6
          exact h4.re (a5 (by omega))
        · exact h5 w v hs (by omega) w2 k1
      · exact Or.inl (sp_out hs (by omega) (by omega))
  | r + 1, n + 1, k, S, q, T, hk, h, hS, hF, hr => by
    have hm := hB.2.2.1
    have hm2 := hB.2.1
    have hkm : k < G 1 0 := by omega
    obtain ⟨g1, g2, g3, g4, g5⟩ := hB.2.2.2.1 k hkm
    show ∃ S' q' T', F_X3_spreadB_14 (F_X3_spread_14 n) S N (nI u) (nI en) (nI (u / 16)) (nI (u % 16)) (nI k) = some S' ∧ _
    unfold F_X3_spreadB_14
    rw [hN.2.1, if_neg (nI_ge hkm (by omega)), show (0 : Int32) = nI 0 from rfl, show (1 : Int32) = nI 1 from rfl, show (2 : Int32) = nI 2 from rfl, pc_part3 hN hB hkm (by omega), b1_some, pc_part3 hN hB hkm (by omega), b1_some, pc_part3 hN hB hkm (by omega), b1_some, nI_add]
    show ∃ S' q' T', (if nI (G 4 k) = nI (u / 16) then (if nI en < nI (u % 16 + G 6 k) then F_X3_spread_103 (F_X3_spread_14 n) S N (nI u) (nI en) (nI (u / 16)) (nI (u % 16)) (nI k) (nI (G 4 k)) (nI (G 5 k)) (nI (G 6 k)) else (b1 (F_X3_through (nI k) (nI (u % 16))) fun u15 => (b1 (F_X3_tryWay S N (nI u) u15 (((nI (G 5 k) * nI 16) + nI (u % 16)) + nI (G 6 k))) fun S17 => F_X3_spread_14 n S17 N (nI u) (nI en) (nI (u / 16)) (nI (u % 16)) (nI k + nI 1)))) else F_X3_spread_103 (F_X3_spread_14 n) S N (nI u) (nI en) (nI (u / 16)) (nI (u % 16)) (nI k) (nI (G 4 k)) (nI (G 5 k)) (nI (G 6 k))) = some S' ∧ _
    have next : ∀ (S1 : Mm) (q1 : Nat) (T1 : Lay), SS G B en f S1 q1 T1 → S1 0 = S 0 → EX q T q1 T1 → (∀ w v, sp G B en f u w v → w / 2 / 16 = k → RE q1 T1 v) → ∃ S' q' T', F_X3_spread_14 n S1 N (nI u) (nI en) (nI (u / 16)) (nI (u % 16)) (nI k + nI 1) = some S' ∧ SS G B en f S' q' T' ∧ S' 0 = S 0 ∧ EX q T q' T' ∧ ∀ w v, sp G B en f u w v → k ≤ w / 2 / 16 → RE q' T' v := by
      intro S1 q1 T1 a2 a3 a4 a5
      rw [nI_add]
      obtain ⟨S', q', T', h1, h2, h3, h4, h5⟩ := pc_spread_14 hN hB hen hf hu hu9 hue hun r n (k + 1) S1 q1 T1 (by omega) (by omega) a2 (by rw [a3]; exact hF) (a4.re hr)
      refine ⟨S', q', T', h1, h2, by rw [h3, a3], a4.trans h4, fun w v hs hw => ?_⟩
      by_cases c : w / 2 / 16 = k
      · exact h4.re (a5 w v hs c)
      · exact h5 w v hs (by omega)
    have hfb : f (16 * k + u % 16) ≤ 10 := by
      have := hf (16 * k + u % 16) (by omega)
      have := cx_le (G := G) (B := B) (en := en) (e := 16 * k + u % 16)
      have := hB.2.2.2.2.2.1 (16 * k + u % 16) (by omega)
      omega
    have hz : ∀ (w v : Nat), sp G B en f u w v → w / 2 / 16 = k → w / 2 < 160 := fun w v hs he => by omega
    by_cases c1 : G 4 k = u / 16
    · rw [if_pos (by rw [c1])]
      by_cases c2 : en < u % 16 + G 6 k
      · rw [if_pos (nI_lt c2 (by omega))]
        unfold F_X3_spread_103
        rw [if_neg (fun z => by have := (nI_eq (by omega) (by omega)).mp z; omega)]
        refine next S q T hS rfl (EX.refl q T) (fun w v hs he => ?_)
        obtain ⟨j1, ⟨j2, j3, j4, j5, j6, j7, j8⟩ | ⟨j2, j3, j4, j5, j6, j7⟩⟩ := sp_pipe hB hen hf hs (hz w v hs he)
        · rw [he] at j6; omega
        · rw [he] at j4; omega
      · rw [if_neg (nI_nlt (by omega) (by omega)), pc_through, b1_some, pk_mul, nI_add, nI_add]
        have hl : live G (16 * k + u % 16) := Or.inl ⟨by omega, by omega⟩
        have hb := hB.2.2.2.2.1 (16 * k + u % 16)
        obtain ⟨S1, q1, T1, a1, a2, a3, a4, a5⟩ := pc_tryWay (N := N) (x := u) (v := G 5 k * 16 + u % 16 + G 6 k) (w := 2 * (16 * k + u % 16)) (ρ := B (16 * k + u % 16) - f (16 * k + u % 16)) (x1 := nI u) hS (by omega) (by omega) (by omega) hr (by rw [if_neg (by omega)]) (by rw [show 2 * (16 * k + u % 16) / 2 = 16 * k + u % 16 by omega]; exact hl) (hF _ hl).1 (by omega) (fun z => by
          have := sp_mk (G := G) (B := B) (en := en) (f := f) (k := k) (t := u % 16) hkm (by omega) (by omega) hen (by omega) (by omega)
          rw [show 16 * G 4 k + u % 16 = u by omega, show 16 * G 5 k + (u % 16 + G 6 k) = G 5 k * 16 + u % 16 + G 6 k by omega] at this
          exact this)
        rw [a1, b1_some]
        refine next S1 q1 T1 a2 a3 a4 (fun w v hs he => ?_)
        obtain ⟨j1, ⟨j2, j3, j4, j5, j6, j7, j8⟩ | ⟨j2, j3, j4, j5, j6, j7⟩⟩ := sp_pipe hB hen hf hs (hz w v hs he)
        · rw [he] at j7
          have e1 : w / 2 = 16 * k + u % 16 := by omega
          rw [e1] at j8
          have := a5 (by omega)
          rw [j7, show 16 * G 5 k + (u % 16 + G 6 k) = G 5 k * 16 + u % 16 + G 6 k by omega]
          exact this
        · rw [he] at j4; omega
    · rw [if_neg (fun z => c1 ((nI_eq (by omega) (by omega)).mp z))]
      unfold F_X3_spread_103
      by_cases c3 : G 5 k = u / 16
      · rw [if_pos (by rw [c3])]
        by_cases c4 : u % 16 < G 6 k
        · rw [if_pos (pk_sneg (by omega) c4)]
          refine next S q T hS rfl (EX.refl q T) (fun w v hs he => ?_)
          obtain ⟨j1, ⟨j2, j3, j4, j5, j6, j7, j8⟩ | ⟨j2, j3, j4, j5, j6, j7⟩⟩ := sp_pipe hB hen hf hs (hz w v hs he)
          · rw [he] at j3; omega
          · rw [he] at j5; omega
        · rw [pk_sub (by omega), if_neg (nI_pos (by omega)), pc_through, b1_some, pc_back_e (by omega), b1_some, show (16 : Int32) = nI 16 from rfl, pk_mul, nI_add, pk_sub (by omega)]
          have hl : live G (16 * k + (u % 16 - G 6 k)) := Or.inl ⟨by omega, by omega⟩
          have hfb2 : f (16 * k + (u % 16 - G 6 k)) ≤ 10 := by
            have := hf (16 * k + (u % 16 - G 6 k)) (by omega)
            have := cx_le (G := G) (B := B) (en := en) (e := 16 * k + (u % 16 - G 6 k))
            have := hB.2.2.2.2.2.1 (16 * k + (u % 16 - G 6 k)) (by omega)
            omega
          obtain ⟨S1, q1, T1, a1, a2, a3, a4, a5⟩ := pc_tryWay (N := N) (x := u) (v := G 4 k * 16 + u % 16 - G 6 k) (w := 2 * (16 * k + (u % 16 - G 6 k)) + 1) (ρ := f (16 * k + (u % 16 - G 6 k))) (x1 := nI u) hS (by omega) (by omega) (by omega) hr (by rw [if_neg (by omega)]) (by rw [show (2 * (16 * k + (u % 16 - G 6 k)) + 1) / 2 = 16 * k + (u % 16 - G 6 k) by omega]; exact hl) (hF _ hl).2 (by omega) (fun z => by
            have := sp_mkb (G := G) (B := B) (en := en) (f := f) (k := k) (t := u % 16 - G 6 k) hkm (by omega) (by omega) z
            rw [show 16 * G 5 k + (u % 16 - G 6 k + G 6 k) = u by omega, show 16 * G 4 k + (u % 16 - G 6 k) = G 4 k * 16 + u % 16 - G 6 k by omega] at this
            exact this)
          rw [a1, b1_some]
          refine next S1 q1 T1 a2 a3 a4 (fun w v hs he => ?_)
          obtain ⟨j1, ⟨j2, j3, j4, j5, j6, j7, j8⟩ | ⟨j2, j3, j4, j5, j6, j7⟩⟩ := sp_pipe hB hen hf hs (hz w v hs he)
          · rw [he] at j3; omega
          · rw [he] at j5 j6
            have e1 : w / 2 = 16 * k + (u % 16 - G 6 k) := by omega
            rw [e1] at j7
            have := a5 j7
            rw [j6, show 16 * G 4 k + w / 2 % 16 = G 4 k * 16 + u % 16 - G 6 k by omega]
            exact this
      · rw [if_neg (fun z => c3 ((nI_eq (by omega) (by omega)).mp z))]
        refine next S q T hS rfl (EX.refl q T) (fun w v hs he => ?_)
        obtain ⟨j1, ⟨j2, j3, j4, j5, j6, j7, j8⟩ | ⟨j2, j3, j4, j5, j6, j7⟩⟩ := sp_pipe hB hen hf hs (hz w v hs he)
        · rw [he] at j3; omega
        · rw [he] at j4; omega
theorem pc_spread (hN : NC N G B) (hB : NB G B) (hen : en ≤ 15) (hf : ∀ e, e < 262 → f e ≤ cx G B en e) {u : Nat} (hu : 16 ≤ u) (hu9 : u < 96) (hue : u % 16 ≤ en) (hun : u / 16 < G 0 0) {S : Mm} {q : Nat} {T : Lay} (hS : SS G B en f S q T) (hF : LF (S 0) G B f) (hr : RE q T u) : ∃ S' q' T', F_X3_spread S N (nI u) (nI en) = some S' ∧ SS G B en f S' q' T' ∧ S' 0 = S 0 ∧ EX q T q' T' ∧ CLv G B en f q' T' u := by
  have hm := hB.2.2.1
  unfold F_X3_spread
  rw [show (16 : Int32) = nI 16 from rfl, pk_rem (by omega) (by omega) (by omega), pk_div (by omega) (by omega) (by omega)]
  obtain ⟨S', q', T', h1, h2, h3, h4, h5⟩ := pc_spread_14 hN hB hen hf hu hu9 hue hun (G 1 0) FU 0 S q T (by omega) (by rw [FU_eq]; omega) hS hF hr
  exact ⟨S', q', T', h1, h2, h3, h4, fun w v hs => h5 w v hs (Nat.zero_le _)⟩
theorem pc_search_52 (hN : NC N G B) (hB : NB G B) (hen : en ≤ 15) (hf : ∀ e, e < 262 → f e ≤ cx G B en e) : ∀ (r n h : Nat) (S : Mm) (q : Nat) (T : Lay), h + r = 96 → r < n → h ≤ q → SS G B en f S q T → LF (S 0) G B f → (∀ i, i < h → CLv G B en f q T (T 0 i)) → ∃ S' q' T', F_X3_search_52 n S N (nI en) (nI h) = some S' ∧ SS G B en f S' q' T' ∧ S' 0 = S 0 ∧ EX q T q' T' ∧ (S' 4 1 = -1 → ∀ i, i < q' → CLv G B en f q' T' (T' 0 i))
  | r, 0, h, S, q, T, _, hr, _, _, _, _ => by omega
  | r, n + 1, h, S, q, T, hh, hr, hq, hS, hF, hC => by
    have hq9 : q ≤ 96 := by rw [← hS.2.1.2.1]; exact cnt_le _ 96
    show ∃ S' q' T', F_X3_searchB_52 (F_X3_search_52 n) S N (nI en) (nI h) = some S' ∧ _
    unfold F_X3_searchB_52
    by_cases c1 : 96 ≤ h
    · rw [if_pos (show (96 : Int32) ≤ nI h from nI_le (a := 96) c1 (by omega))]
      exact ⟨S, q, T, rfl, hS, rfl, EX.refl q T, fun _ i hi => hC i (by omega)⟩
    rw [if_neg (show ¬ (96 : Int32) ≤ nI h from nI_ge (b := 96) (by omega) (by omega)), hS.2.1.1]
    by_cases c2 : q ≤ h
    · rw [if_pos (nI_le c2 (by omega))]
      exact ⟨S, q, T, rfl, hS, rfl, EX.refl q T, fun _ i hi => hC i (by omega)⟩
    rw [if_neg (nI_ge (by omega) (by omega))]
    rcases hS.2.2 with ⟨a1, a2⟩ | ⟨a, a1, a2, a3⟩
    · rw [if_pos a1, ck_nI (by omega) (by omega), nI_clamp (by omega), hS.2.1.2.2.1 h (by omega)]
      obtain ⟨g1, g2, g3, -⟩ := hS.1.2 h (by omega)
      obtain ⟨S1, q1, T1, b1', b2', b3', b4', b5'⟩ := pc_spread hN hB hen hf (a2 h (by omega)) g1 g2 g3 hS hF (Or.inr ⟨h, by omega, rfl⟩)
      rw [b1', b1_some, ← nI_succ]
      cases r with
      | zero => omega
      | succ r =>
        obtain ⟨S', q', T', h1, h2, h3, h4, h5⟩ := pc_search_52 hN hB hen hf r n (h + 1) S1 q1 T1 (by omega) (by omega) (by have := b4'.1; omega) b2' (by rw [b3']; exact hF) (fun i hi => by
          by_cases e : i = h
          · rw [e, b4'.2 h (by omega)]; exact b5'
          · rw [b4'.2 i (by omega)]; exact (hC i (by omega)).ex b4')
        exact ⟨S', q', T', h1, h2, by rw [h3, b3'], b4'.trans h4, h5⟩
    · rw [if_neg (by rw [a2]; exact nI_n1 (by omega))]
      exact ⟨S, q, T, rfl, hS, rfl, EX.refl q T, fun z => absurd z (by rw [a2]; exact nI_n1 (by omega))⟩
theorem pc_search_20 (hN : NC N G B) (hB : NB G B) (hen : en ≤ 15) (hf : ∀ e, e < 262 → f e ≤ cx G B en e) : ∀ (r n p : Nat) (S : Mm) (q : Nat) (T : Lay), p + r = G 0 0 → r < n → 1 ≤ p → SS G B en f S q T → LF (S 0) G B f → (∀ w v, sp G B en f 120 w v → w / 2 < 256 + p → RE q T v) → ∃ S' q' T', F_X3_search_20 n S N (nI en) (nI p) = some S' ∧ SS G B en f S' q' T' ∧ S' 0 = S 0 ∧ CLv G B en f q' T' 120 ∧ (S' 4 1 = -1 → ∀ i, i < q' → CLv G B en f q' T' (T' 0 i))
  | r, 0, p, S, q, T, _, hr, _, _, _, _ => by omega
  | 0, n + 1, p, S, q, T, hp, hr, hp1, hS, hF, hC => by
    have hm2 := hB.2.1
    show ∃ S' q' T', F_X3_searchB_20 (F_X3_search_20 n) S N (nI en) (nI p) = some S' ∧ _
    unfold F_X3_searchB_20
    have ep : p = G 0 0 := by omega
    rw [hN.1, ep, if_pos (nI_le (Nat.le_refl _) (by omega)), show (0 : Int32) = nI 0 from rfl]
    obtain ⟨S', q', T', h1, h2, h3, h4, h5⟩ := pc_search_52 hN hB hen hf 96 FU 0 S q T (by omega) (by rw [FU_eq]; omega) (by omega) hS hF (fun i hi => by omega)
    refine ⟨S', q', T', h1, h2, h3, fun w v hs => h4.re (hC w v hs ?_), h5⟩
    have := sp_src hB hs
    omega
  | r + 1, n + 1, p, S, q, T, hp, hr, hp1, hS, hF, hC => by
    have hm2 := hB.2.1
    show ∃ S' q' T', F_X3_searchB_20 (F_X3_search_20 n) S N (nI en) (nI p) = some S' ∧ _
    unfold F_X3_searchB_20
    rw [hN.1, if_neg (nI_ge (by omega) (by omega)), pc_settingOut, b1_some, show (16 : Int32) = nI 16 from rfl, pk_mul]
    have hl : live G (256 + p) := Or.inr (Or.inr ⟨by omega, by omega, by omega⟩)
    have hb := hB.2.2.2.2.1 (256 + p)
    obtain ⟨S1, q1, T1, a1, a2, a3, a4, a5⟩ := pc_tryWay (N := N) (x := 120) (v := p * 16) (w := 2 * (256 + p)) (ρ := B (256 + p) - f (256 + p)) (x1 := (-1 : Int32)) hS (by omega) (by omega) (by omega) (Or.inl rfl) (by rw [if_pos rfl]) (by rw [show 2 * (256 + p) / 2 = 256 + p by omega]; exact hl) (hF _ hl).1 (by omega) (fun z => by
      rw [Nat.mul_comm p 16]
      exact sp_mko (by omega) (by omega) (by omega))
    rw [a1, b1_some, ← nI_succ]
    obtain ⟨S', q', T', h1, h2, h3, h4, h5⟩ := pc_search_20 hN hB hen hf r n (p + 1) S1 q1 T1 (by omega) (by omega) (by omega) a2 (by rw [a3]; exact hF) (fun w v hs hw => by
      obtain ⟨j1, j2, j3, j4, j5, j6⟩ := sp_src hB hs
      by_cases e : w / 2 = 256 + p
      · rw [e] at j5 j6
        rw [j5, show 16 * (256 + p - 256) = p * 16 by omega]
        exact a5 (by omega)
      · exact a4.re (hC w v hs (by omega)))
    exact ⟨S', q', T', h1, h2, by rw [h3, a3], h4, h5⟩
theorem pc_search (hN : NC N G B) (hB : NB G B) (hen : en ≤ 15) (hf : ∀ e, e < 262 → f e ≤ cx G B en e) (h0 : f 256 = B 256) {S : Mm} (hF : LF (S 0) G B f) : ∃ S' q' T', F_X3_search S N (nI en) = some S' ∧ SS G B en f S' q' T' ∧ S' 0 = S 0 ∧ CLv G B en f q' T' 120 ∧ (S' 4 1 = -1 → ∀ i, i < q' → CLv G B en f q' T' (T' 0 i)) := by
  have hm2 := hB.2.1
  have hm1 := hB.1
  unfold F_X3_search
  rw [sv_eq, sv_eq, sv_eq, show (1 : Int32) = nI 1 from rfl]
  have d0 : ∀ S5 : Mm, S5 = va_up (va_up (va_up S 1 (fl (S 1) 96 (-1))) 4 (upd (va_up S 1 (fl (S 1) 96 (-1)) 4) 0 0)) 4 (upd (va_up (va_up S 1 (fl (S 1) 96 (-1))) 4 (upd (va_up S 1 (fl (S 1) 96 (-1)) 4) 0 0) 4) 1 (-1)) → S5 0 = S 0 ∧ S5 1 = fl (S 1) 96 (-1) ∧ S5 4 0 = 0 ∧ S5 4 1 = -1 := by
    intro S5 h
    subst h
    refine ⟨?_, ?_, ?_, ?_⟩
    · rw [va_up_ne _ _ (by decide), va_up_ne _ _ (by decide), va_up_ne _ _ (by decide)]
    · rw [va_up_ne _ _ (by decide), va_up_ne _ _ (by decide), va_up_self]
    · rw [va_up_self, pk_un (by decide), va_up_self, pk_us]
    · rw [va_up_self, pk_us]
  obtain ⟨d1, d2, d3, d4⟩ := d0 _ rfl
  have hfl : ∀ i, i < 96 → fl (S 1) 96 (-1) i = -1 := fun i hi => if_pos hi
  obtain ⟨S', q', T', h1, h2, h3, h4, h5⟩ := pc_search_20 hN hB hen hf (G 0 0 - 1) FU 1 _ 0 (fun _ _ => 0) (by omega) (by rw [FU_eq]; omega) (by omega) (⟨⟨rfl, fun i hi => by omega⟩, ⟨d3, by rw [d2]; exact cnt_0 _ 96 hfl, fun i hi => by omega, fun v hv => Or.inl ⟨by rw [d2]; exact hfl v hv, fun z => by
      rcases z with z | ⟨i, hi, -⟩ <;> omega⟩⟩, Or.inl ⟨d4, fun i hi => by omega⟩⟩ : SS G B en f _ 0 (fun _ _ => 0)) (by rw [d1]; exact hF) (fun w v hs hw => by
      obtain ⟨j1, j2, j3, j4, j5, j6⟩ := sp_src hB hs
      have e : w / 2 = 256 := by omega
      rw [e, h0] at j6
      omega)
  exact ⟨S', q', T', h1, h2, by rw [h3, d1], h4, h5⟩
end CLS2
