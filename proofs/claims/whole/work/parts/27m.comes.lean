/-! PURE PART: the reference: looks, finds, goes, comes. -/
section REF2
variable {G : Lay} {B : Nat → Nat} {en : Nat}
theorem pm_looks_41 {f : Nat → Nat} (hB : NB G B) (hen : en ≤ 15) (hf : ∀ e, e < 262 → f e ≤ cx G B en e) {u : Nat} (hu9 : u < 96) (hue : u % 16 ≤ en) (hun : u / 16 < G 0 0) {M : Mm} {q : Nat} {T : Lay} (hS : MS G B en f M q T) (hr : RE q T u) : ∃ M' q' T', F_X5_looks_41 M (nI u) (nI (u / 16)) (nI (u % 16)) = some M' ∧ MS G B en f M' q' T' ∧ RS M M' ∧ EX q T q' T' ∧ ∀ w v, sp G B en f u w v → (w / 2 < 160 ∨ w % 2 = 1) → RE q' T' v := by
  have hm := hB.2.2.1
  have pipes : ∀ (M1 : Mm) (q1 : Nat) (T1 : Lay), MS G B en f M1 q1 T1 → RS M M1 → EX q T q1 T1 → (∀ w v, sp G B en f u w v → 160 ≤ w / 2 → w / 2 < 256 → w % 2 = 1 → RE q1 T1 v) → ∃ M' q' T', F_X5_looks_68 FU M1 (nI u) (nI (u / 16)) (nI (u % 16)) (0 : Int32) = some M' ∧ MS G B en f M' q' T' ∧ RS M M' ∧ EX q T q' T' ∧ ∀ w v, sp G B en f u w v → (w / 2 < 160 ∨ w % 2 = 1) → RE q' T' v := by
    intro M1 q1 T1 a2 a3 a4 a5
    obtain ⟨M', q', T', h1, h2, h3, h4, h5⟩ := pm_looks_68 hB hen hf hu9 hue hun (G 1 0) FU 0 M1 q1 T1 (by omega) (by rw [FU_eq]; omega) a2 (a4.re hr)
    refine ⟨M', q', T', h1, h2, a3.trans h3, a4.trans h4, fun w v hs hw => ?_⟩
    by_cases c1 : w / 2 < 160
    · exact h5 w v hs (Nat.zero_le _) c1
    by_cases c2 : w / 2 < 256
    · exact h4.re (a5 w v hs (by omega) c2 (by omega))
    · exact Or.inl (sp_out hs (by omega) (by omega))
  unfold F_X5_looks_41
  by_cases c : u % 16 = 0
  · rw [if_pos (by rw [c]; decide)]
    refine pipes M q T hS (RS.refl M) (EX.refl q T) (fun w v hs h1 h2 h3 => ?_)
    rcases sp_wait hen hf hs h1 h2 with ⟨k1, -⟩ | ⟨-, -, k2, -⟩ <;> omega
  · rw [if_neg (nI_nle (by omega) (by omega)), show (1 : Int32) = nI 1 from rfl, pk_sub (by omega), ck_nI (by omega) (by omega), nI_clamp (by omega), hS.2.2.2.2.1 _ (by omega)]
    have hfu := hf (160 + (u - 1)) (by omega)
    have hfc := cx_le (G := G) (B := B) (en := en) (e := 160 + (u - 1))
    have hfb := hB.2.2.2.2.1 (160 + (u - 1))
    by_cases c2 : f (160 + (u - 1)) = 0
    · rw [if_pos (by rw [c2]; decide)]
      refine pipes M q T hS (RS.refl M) (EX.refl q T) (fun w v hs h1 h2 h3 => ?_)
      rcases sp_wait hen hf hs h1 h2 with ⟨k1, -⟩ | ⟨-, k1, k2, k3, k4⟩
      · omega
      · rw [k1, show 159 + u = 160 + (u - 1) by omega] at k4; omega
    · rw [if_neg (nI_nle (by omega) (by omega)), show (2 : Int32) = nI 2 from rfl]
      obtain ⟨M1, q1, T1, a1, a2, a3, a4, a5⟩ := pm_reaches (x := u) (v := u - 1) (w := 2 * (160 + (u - 1)) + 1) (c := 2) (x2 := u) hS (by omega) (by omega) (by omega) hr (by rw [if_neg (by omega)]) (Or.inr (Or.inr (Or.inl ⟨rfl, hu9, rfl⟩))) (by
        have := sp_mkwb (G := G) (B := B) (en := en) (f := f) (u := u - 1) (by omega) (by omega) (by omega)
        rw [show u - 1 + 1 = u by omega] at this
        exact this)
      rw [a1, b1_some]
      refine pipes M1 q1 T1 a2 a3 a4 (fun w v hs h1 h2 h3 => ?_)
      rcases sp_wait hen hf hs h1 h2 with ⟨k1, -⟩ | ⟨-, k1, k2, k3, k4⟩
      · omega
      · rw [show v = u - 1 by omega]; exact a5
theorem pm_looks {f : Nat → Nat} (hB : NB G B) (hen : en ≤ 15) (hf : ∀ e, e < 262 → f e ≤ cx G B en e) {u : Nat} (hu9 : u < 96) (hue : u % 16 ≤ en) (hun : u / 16 < G 0 0) {M : Mm} {q : Nat} {T : Lay} (hS : MS G B en f M q T) (hr : RE q T u) : ∃ M' q' T', F_X5_looks M (nI u) = some M' ∧ MS G B en f M' q' T' ∧ RS M M' ∧ EX q T q' T' ∧ CLv G B en f q' T' u := by
  unfold F_X5_looks
  have done : ∀ (M1 : Mm) (q1 : Nat) (T1 : Lay), MS G B en f M1 q1 T1 → RS M M1 → EX q T q1 T1 → (∀ w v, sp G B en f u w v → 160 ≤ w / 2 → w / 2 < 256 → w % 2 = 0 → RE q1 T1 v) → ∃ M' q' T', F_X5_looks_41 M1 (nI u) (nI (u / 16)) (nI (u % 16)) = some M' ∧ MS G B en f M' q' T' ∧ RS M M' ∧ EX q T q' T' ∧ CLv G B en f q' T' u := by
    intro M1 q1 T1 a2 a3 a4 a5
    obtain ⟨M', q', T', h1, h2, h3, h4, h5⟩ := pm_looks_41 hB hen hf hu9 hue hun a2 (a4.re hr)
    refine ⟨M', q', T', h1, h2, a3.trans h3, a4.trans h4, fun w v hs => ?_⟩
    by_cases c1 : w / 2 < 160
    · exact h5 w v hs (Or.inl c1)
    by_cases c3 : w % 2 = 1
    · exact h5 w v hs (Or.inr c3)
    by_cases c2 : w / 2 < 256
    · exact h4.re (a5 w v hs (by omega) c2 (by omega))
    · exact Or.inl (sp_out hs (by omega) (by omega))
  rw [show (16 : Int32) = nI 16 from rfl, pk_rem (by omega) (by omega) (by omega), pk_div (by omega) (by omega) (by omega), hS.2.2.1.2.2.2.2.2.2.2.1]
  by_cases c : en ≤ u % 16
  · rw [if_pos (nI_le c (by omega))]
    refine done M q T hS (RS.refl M) (EX.refl q T) (fun w v hs h1 h2 h3 => ?_)
    rcases sp_wait hen hf hs h1 h2 with ⟨-, -, -, k1, -⟩ | ⟨k1, -⟩ <;> omega
  · have hrm := hS.2.2.1.2.2.2.2.1 (u / 16) (u % 16) hun (by omega)
    rw [show 160 + 16 * (u / 16) + u % 16 = 160 + u by omega] at hrm
    rw [if_neg (nI_ge (by omega) (by omega)), ck_nI hu9 (by omega), hrm, b1_some, nI_clamp (by omega), hS.2.2.2.2.1 _ hu9]
    have hfu := hf (160 + u) (by omega)
    have hfc := cx_le (G := G) (B := B) (en := en) (e := 160 + u)
    have hfb := hB.2.2.2.2.1 (160 + u)
    by_cases c2 : B (160 + u) ≤ f (160 + u)
    · rw [if_pos (nI_le c2 (by omega))]
      refine done M q T hS (RS.refl M) (EX.refl q T) (fun w v hs h1 h2 h3 => ?_)
      rcases sp_wait hen hf hs h1 h2 with ⟨-, k2, -, k1, -, k3⟩ | ⟨k1, -⟩
      · rw [k2] at k3; omega
      · omega
    · rw [if_neg (nI_ge (by omega) (by omega)), show (1 : Int32) = nI 1 from rfl, nI_add]
      obtain ⟨M1, q1, T1, a1, a2, a3, a4, a5⟩ := pm_reaches (x := u) (v := u + 1) (w := 2 * (160 + u)) (c := 1) (x2 := u) hS (by omega) (by omega) (by omega) hr (by rw [if_neg (by omega)]) (Or.inr (Or.inl ⟨rfl, hu9, rfl⟩)) (sp_mkw hu9 (by omega) hen hun (by omega))
      rw [a1, b1_some]
      refine done M1 q1 T1 a2 a3 a4 (fun w v hs h1 h2 h3 => ?_)
      rcases sp_wait hen hf hs h1 h2 with ⟨-, k2, k3, -⟩ | ⟨k1, -⟩
      · rw [k3]; exact a5
      · omega
theorem pm_finds_73 {f : Nat → Nat} (hB : NB G B) (hen : en ≤ 15) (hf : ∀ e, e < 262 → f e ≤ cx G B en e) : ∀ (r n h : Nat) (M : Mm) (q : Nat) (T : Lay), h + r = 96 → r < n → h ≤ q → MS G B en f M q T → (∀ i, i < h → CLv G B en f q T (T 0 i)) → ∃ M' q' T', ((F_X5_finds_73 n M (nI h) = some (0, M') ∧ ¬ RE q' T' en) ∨ (F_X5_finds_73 n M (nI h) = some (1, M') ∧ RE q' T' en)) ∧ MS G B en f M' q' T' ∧ RS M M' ∧ EX q T q' T' ∧ (∀ i, i < q' → CLv G B en f q' T' (T' 0 i))
  | r, 0, h, M, q, T, _, hr, _, _, _ => by omega
  | r, n + 1, h, M, q, T, hh, hr, hq, hS, hC => by
    have hq9 : q ≤ 96 := by rw [← hS.2.1.2.1]; exact cnt_le _ 96
    show ∃ M' q' T', ((F_X5_findsB_73 (F_X5_finds_73 n) M (nI h) = some (0, M') ∧ _) ∨ (F_X5_findsB_73 (F_X5_finds_73 n) M (nI h) = some (1, M') ∧ _)) ∧ _
    unfold F_X5_findsB_73
    rw [hS.2.1.1]
    by_cases c2 : q ≤ h
    · rw [if_pos (nI_le c2 (by omega)), hS.2.2.1.2.2.2.2.2.2.2.1, ck_nI (by omega) (by omega), nI_clamp (by omega)]
      refine ⟨M, q, T, ?_, hS, RS.refl M, EX.refl q T, fun i hi => hC i (by omega)⟩
      rcases hS.2.1.2.2.2 en (by omega) with ⟨d1, d2⟩ | ⟨d1, d2, -⟩
      · rw [d1, if_pos (by decide)]
        exact Or.inl ⟨rfl, d2⟩
      · have h3 : (if T 3 en = 120 then en else T 3 en) < 2 ^ 31 := by
          obtain ⟨g6, -⟩ := SR_w hS.1 (by omega) d1
          rcases RE_lt hS.1 g6 with e | e
          · rw [if_pos e]; omega
          · rw [if_neg (by omega)]; omega
        rw [d2, if_neg (nI_pos h3)]
        exact Or.inr ⟨rfl, d1⟩
    · obtain ⟨g1, g2, g3, -⟩ := hS.1.2 h (by omega)
      rw [if_neg (nI_ge (by omega) (by omega)), ck_nI (by omega) (by omega), nI_clamp (by omega), hS.2.1.2.2.1 h (by omega)]
      obtain ⟨M1, q1, T1, b1', b2', b3', b4', b5'⟩ := pm_looks hB hen hf g1 g2 g3 hS (Or.inr ⟨h, by omega, rfl⟩)
      rw [b1', b1_some, ← nI_succ]
      cases r with
      | zero => omega
      | succ r =>
        obtain ⟨M', q', T', h1, h2, h3, h4, h5⟩ := pm_finds_73 hB hen hf r n (h + 1) M1 q1 T1 (by omega) (by omega) (by have := b4'.1; omega) b2' (fun i hi => by
          by_cases e : i = h
          · rw [e, b4'.2 h (by omega)]; exact b5'
          · rw [b4'.2 i (by omega)]; exact (hC i (by omega)).ex b4')
        exact ⟨M', q', T', h1, h2, b3'.trans h3, b4'.trans h4, h5⟩
theorem pm_finds_28 {f : Nat → Nat} (hB : NB G B) (hen : en ≤ 15) (hf : ∀ e, e < 262 → f e ≤ cx G B en e) : ∀ (r n p : Nat) (M : Mm) (q : Nat) (T : Lay), p + r = G 0 0 → r < n → MS G B en f M q T → (∀ w v, sp G B en f 120 w v → w / 2 < 256 + p → RE q T v) → ∃ M' q' T', ((F_X5_finds_28 n M (nI p) = some (0, M') ∧ ¬ RE q' T' en) ∨ (F_X5_finds_28 n M (nI p) = some (1, M') ∧ RE q' T' en)) ∧ MS G B en f M' q' T' ∧ RS M M' ∧ CLv G B en f q' T' 120 ∧ (∀ i, i < q' → CLv G B en f q' T' (T' 0 i))
  | r, 0, p, M, q, T, _, hr, _, _ => by omega
  | 0, n + 1, p, M, q, T, hp, hr, hS, hC => by
    have hm2 := hB.2.1
    have ep : p = G 0 0 := by omega
    show ∃ M' q' T', ((F_X5_findsB_28 (F_X5_finds_28 n) M (nI p) = some (0, M') ∧ _) ∨ (F_X5_findsB_28 (F_X5_finds_28 n) M (nI p) = some (1, M') ∧ _)) ∧ _
    unfold F_X5_findsB_28
    rw [show (0 : Int32) = nI 0 from rfl, ck_nI (by omega) (by omega), nI_clamp (by omega), hS.2.2.1.1, ep, if_pos (nI_le (Nat.le_refl _) (by omega))]
    obtain ⟨M', q', T', h1, h2, h3, h4, h5⟩ := pm_finds_73 hB hen hf 96 FU 0 M q T (by omega) (by rw [FU_eq]; omega) (by omega) hS (fun i hi => by omega)
    refine ⟨M', q', T', h1, h2, h3, fun w v hs => h4.re (hC w v hs ?_), h5⟩
    have := sp_src hB hs
    omega
  | r + 1, n + 1, p, M, q, T, hp, hr, hS, hC => by
    have hm2 := hB.2.1
    show ∃ M' q' T', ((F_X5_findsB_28 (F_X5_finds_28 n) M (nI p) = some (0, M') ∧ _) ∨ (F_X5_findsB_28 (F_X5_finds_28 n) M (nI p) = some (1, M') ∧ _)) ∧ _
    unfold F_X5_findsB_28
    have hfu := hf (256 + p) (by omega)
    have hfc := cx_le (G := G) (B := B) (en := en) (e := 256 + p)
    have hfb := hB.2.2.2.2.1 (256 + p)
    have next : ∀ (M1 : Mm) (q1 : Nat) (T1 : Lay), MS G B en f M1 q1 T1 → RS M M1 → EX q T q1 T1 → (f (256 + p) < B (256 + p) → RE q1 T1 (16 * p)) → ∃ M' q' T', ((F_X5_finds_28 n M1 (nI (p + 1)) = some (0, M') ∧ ¬ RE q' T' en) ∨ (F_X5_finds_28 n M1 (nI (p + 1)) = some (1, M') ∧ RE q' T' en)) ∧ MS G B en f M' q' T' ∧ RS M M' ∧ CLv G B en f q' T' 120 ∧ (∀ i, i < q' → CLv G B en f q' T' (T' 0 i)) := by
      intro M1 q1 T1 a2 a3 a4 a5
      obtain ⟨M', q', T', h1, h2, h3, h4, h5⟩ := pm_finds_28 hB hen hf r n (p + 1) M1 q1 T1 (by omega) (by omega) a2 (fun w v hs hw => by
        obtain ⟨j1, j2, j3, j4, j5, j6⟩ := sp_src hB hs
        by_cases e : w / 2 = 256 + p
        · rw [e] at j5 j6
          rw [j5, show 16 * (256 + p - 256) = 16 * p by omega]
          exact a5 j6
        · exact a4.re (hC w v hs (by omega)))
      exact ⟨M', q', T', h1, h2, a3.trans h3, h4, h5⟩
    rw [show (0 : Int32) = nI 0 from rfl, ck_nI (by omega) (by omega), nI_clamp (by omega), hS.2.2.1.1, if_neg (nI_ge (by omega) (by omega)), ck_nI (by omega) (by omega), hS.2.2.1.2.2.2.1 p (by omega), b1_some, nI_clamp (by omega), hS.2.2.2.2.2 p (by omega), ← nI_succ]
    by_cases c : B (256 + p) ≤ f (256 + p)
    · rw [if_pos (nI_le c (by omega))]
      exact next M q T hS (RS.refl M) (EX.refl q T) (fun z => by omega)
    · rw [if_neg (nI_ge (by omega) (by omega)), show (16 : Int32) = nI 16 from rfl, pk_mul]
      obtain ⟨M1, q1, T1, a1, a2, a3, a4, a5⟩ := pm_reaches (x := 120) (v := 16 * p) (w := 2 * (256 + p)) (c := 0) (x2 := 16 * p) hS (by omega) (by omega) (by omega) (Or.inl rfl) (by rw [if_pos rfl]) (Or.inl ⟨rfl, rfl, by omega⟩) (sp_mko (by omega) (by omega) (by omega))
      rw [a1, b1_some]
      exact next M1 q1 T1 a2 a3 a4 (fun _ => a5)
theorem pm_finds_2 : ∀ (r n k : Nat) (M : Mm), k + r = 96 → r < n → (∀ j, j < k → M 9 j = -1) → ∃ g : Nat → Int32, F_X5_finds_2 n M (nI k) = F_X5_finds_28 FU (va_up (va_up M 9 g) 12 (upd (M 12) 6 0)) 0 ∧ ∀ j, j < 96 → g j = -1
  | r, 0, k, M, _, h, _ => by omega
  | 0, n + 1, k, M, hk, h, hM => by
    have hk : k = 96 := by omega
    subst hk
    refine ⟨M 9, ?_, hM⟩
    have e : va_up M 9 (M 9) = M := by funext q; unfold va_up; by_cases h : q = 9; rw [if_pos h, h]; rw [if_neg h]
    rw [e]
    show F_X5_findsB_2 (F_X5_finds_2 n) M (nI 96) = _
    unfold F_X5_findsB_2
    rw [if_pos (by decide), sv_eq]
  | r + 1, n + 1, k, M, hk, h, hM => by
    have e1 : ¬ (96 : Int32) ≤ nI k := nI_ge (a := k) (b := 96) (by omega) (by omega)
    show ∃ g, F_X5_findsB_2 (F_X5_finds_2 n) M (nI k) = _ ∧ _
    unfold F_X5_findsB_2
    rw [if_neg e1, ck_nI (by omega) (by omega), sv_eq, nI_clamp (by omega), ← nI_succ]
    obtain ⟨g, h1, h2⟩ := pm_finds_2 r n (k + 1) (va_up M 9 (upd (M 9) k (-1))) (by omega) (by omega) (fun j hj => by
      rw [va_up_self]
      by_cases h : j = k
      · rw [h]; exact pk_us
      · rw [pk_un h]; exact hM j (by omega))
    refine ⟨g, ?_, h2⟩
    rw [h1, bx_uu, va_up_ne _ _ (show (12 : Nat) ≠ 9 by decide)]
theorem pm_finds {f : Nat → Nat} (hB : NB G B) (hen : en ≤ 15) (hf : ∀ e, e < 262 → f e ≤ cx G B en e) {M : Mm} (hC : MC M G B en) (hF : RF M f) : ∃ M' q' T', ((F_X5_finds M = some (0, M') ∧ ¬ RE q' T' en) ∨ (F_X5_finds M = some (1, M') ∧ RE q' T' en)) ∧ MS G B en f M' q' T' ∧ RS M M' ∧ CLv G B en f q' T' 120 ∧ (∀ i, i < q' → CLv G B en f q' T' (T' 0 i)) := by
  have hm2 := hB.2.1
  obtain ⟨g, g1, g2⟩ := pm_finds_2 96 FU 0 M (by omega) (by rw [FU_eq]; omega) (fun j hj => by omega)
  have hS : RS M (va_up (va_up M 9 g) 12 (upd (M 12) 6 0)) := ⟨fun j a b c d => by rw [va_up_ne _ _ d, va_up_ne _ _ a], fun j hj => by rw [va_up_self, pk_un hj]⟩
  have e9 : va_up (va_up M 9 g) 12 (upd (M 12) 6 0) 9 = g := by rw [va_up_ne _ _ (by decide), va_up_self]
  obtain ⟨M', q', T', h1, h2, h3, h4, h5⟩ := pm_finds_28 hB hen hf (G 0 0) FU 0 _ 0 (fun _ _ => 0) (by omega) (by rw [FU_eq]; omega) (⟨⟨rfl, fun i hi => by omega⟩, ⟨by rw [va_up_self, pk_us]; rfl, by rw [e9]; exact cnt_0 _ 96 g2, fun i hi => by omega, fun v hv => Or.inl ⟨by rw [e9]; exact g2 v hv, fun z => by
      rcases z with z | ⟨i, hi, -⟩ <;> omega⟩⟩, MC_sc hC hS.sc, hS.rf hF⟩ : MS G B en f (va_up (va_up M 9 g) 12 (upd (M 12) 6 0)) 0 (fun _ _ => 0)) (fun w v hs hw => by
      obtain ⟨j1, j2, j3, j4, j5, j6⟩ := sp_src hB hs
      omega)
  unfold F_X5_finds
  rw [show (0 : Int32) = nI 0 from rfl] at g1 ⊢
  rw [g1]
  exact ⟨M', q', T', h1, h2, hS.trans h3, h4, h5⟩
end REF2
